set_option maxRecDepth 20000 in
theorem fl_RJ6_83 : Cond.fieldLink RJ6 83 "java/lang/Integer" "DigitOnes" "[B" ∈ bigW := bt2 224 rfl rfl
set_option maxRecDepth 20000 in
theorem fl_RJ6_87 : Cond.fieldLink RJ6 87 "java/lang/Integer" "DigitTens" "[B" ∈ bigW := bt2 226 rfl rfl
theorem dJ6_getChars_ba4f3_0 : decode cJ6_getChars_ba4f3 0 = .ok (.iload_n 1, 1) := by decide +kernel
theorem dJ6_getChars_ba4f3_1 : decode cJ6_getChars_ba4f3 1 = .ok (.istore 5, 2) := by decide +kernel
theorem dJ6_getChars_ba4f3_3 : decode cJ6_getChars_ba4f3 3 = .ok (.iload_n 0, 1) := by decide +kernel
theorem dJ6_getChars_ba4f3_4 : decode cJ6_getChars_ba4f3 4 = .ok (.ifCond .ge 7, 3) := by decide +kernel
theorem dJ6_getChars_ba4f3_7 : decode cJ6_getChars_ba4f3 7 = .ok (.iconst 1, 1) := by decide +kernel
theorem dJ6_getChars_ba4f3_8 : decode cJ6_getChars_ba4f3 8 = .ok (.goto 4, 3) := by decide +kernel
theorem dJ6_getChars_ba4f3_11 : decode cJ6_getChars_ba4f3 11 = .ok (.iconst 0, 1) := by decide +kernel
theorem dJ6_getChars_ba4f3_12 : decode cJ6_getChars_ba4f3 12 = .ok (.istore 6, 2) := by decide +kernel
theorem dJ6_getChars_ba4f3_14 : decode cJ6_getChars_ba4f3 14 = .ok (.iload 6, 2) := by decide +kernel
theorem dJ6_getChars_ba4f3_16 : decode cJ6_getChars_ba4f3 16 = .ok (.ifCond .ne 6, 3) := by decide +kernel
theorem dJ6_getChars_ba4f3_19 : decode cJ6_getChars_ba4f3 19 = .ok (.iload_n 0, 1) := by decide +kernel
theorem dJ6_getChars_ba4f3_20 : decode cJ6_getChars_ba4f3 20 = .ok (.ineg, 1) := by decide +kernel
theorem dJ6_getChars_ba4f3_21 : decode cJ6_getChars_ba4f3 21 = .ok (.istore_n 0, 1) := by decide +kernel
theorem dJ6_getChars_ba4f3_22 : decode cJ6_getChars_ba4f3 22 = .ok (.iload_n 0, 1) := by decide +kernel
theorem dJ6_getChars_ba4f3_23 : decode cJ6_getChars_ba4f3 23 = .ok (.bipush (-100), 2) := by decide +kernel
theorem dJ6_getChars_ba4f3_25 : decode cJ6_getChars_ba4f3 25 = .ok (.if_icmp .gt 47, 3) := by decide +kernel
theorem dJ6_getChars_ba4f3_28 : decode cJ6_getChars_ba4f3 28 = .ok (.iload_n 0, 1) := by decide +kernel
theorem dJ6_getChars_ba4f3_29 : decode cJ6_getChars_ba4f3 29 = .ok (.bipush 100, 2) := by decide +kernel
theorem dJ6_getChars_ba4f3_31 : decode cJ6_getChars_ba4f3 31 = .ok (.idiv, 1) := by decide +kernel
theorem dJ6_getChars_ba4f3_32 : decode cJ6_getChars_ba4f3 32 = .ok (.istore_n 3, 1) := by decide +kernel
theorem dJ6_getChars_ba4f3_33 : decode cJ6_getChars_ba4f3 33 = .ok (.iload_n 3, 1) := by decide +kernel
theorem dJ6_getChars_ba4f3_34 : decode cJ6_getChars_ba4f3 34 = .ok (.bipush 100, 2) := by decide +kernel
theorem dJ6_getChars_ba4f3_36 : decode cJ6_getChars_ba4f3 36 = .ok (.imul, 1) := by decide +kernel
theorem dJ6_getChars_ba4f3_37 : decode cJ6_getChars_ba4f3 37 = .ok (.iload_n 0, 1) := by decide +kernel
theorem dJ6_getChars_ba4f3_38 : decode cJ6_getChars_ba4f3 38 = .ok (.isub, 1) := by decide +kernel
theorem dJ6_getChars_ba4f3_39 : decode cJ6_getChars_ba4f3 39 = .ok (.istore 4, 2) := by decide +kernel
theorem dJ6_getChars_ba4f3_41 : decode cJ6_getChars_ba4f3 41 = .ok (.iload_n 3, 1) := by decide +kernel
theorem dJ6_getChars_ba4f3_42 : decode cJ6_getChars_ba4f3 42 = .ok (.istore_n 0, 1) := by decide +kernel
theorem dJ6_getChars_ba4f3_43 : decode cJ6_getChars_ba4f3 43 = .ok (.aload_n 2, 1) := by decide +kernel
theorem dJ6_getChars_ba4f3_44 : decode cJ6_getChars_ba4f3 44 = .ok (.iinc 5 (-1), 3) := by decide +kernel
theorem dJ6_getChars_ba4f3_47 : decode cJ6_getChars_ba4f3 47 = .ok (.iload 5, 2) := by decide +kernel
theorem dJ6_getChars_ba4f3_49 : decode cJ6_getChars_ba4f3 49 = .ok (.getstatic 83, 3) := by decide +kernel
theorem dJ6_getChars_ba4f3_52 : decode cJ6_getChars_ba4f3 52 = .ok (.iload 4, 2) := by decide +kernel
theorem dJ6_getChars_ba4f3_54 : decode cJ6_getChars_ba4f3 54 = .ok (.baload, 1) := by decide +kernel
theorem dJ6_getChars_ba4f3_55 : decode cJ6_getChars_ba4f3 55 = .ok (.bastore, 1) := by decide +kernel
theorem dJ6_getChars_ba4f3_56 : decode cJ6_getChars_ba4f3 56 = .ok (.aload_n 2, 1) := by decide +kernel
theorem dJ6_getChars_ba4f3_57 : decode cJ6_getChars_ba4f3 57 = .ok (.iinc 5 (-1), 3) := by decide +kernel
theorem dJ6_getChars_ba4f3_60 : decode cJ6_getChars_ba4f3 60 = .ok (.iload 5, 2) := by decide +kernel
theorem dJ6_getChars_ba4f3_62 : decode cJ6_getChars_ba4f3 62 = .ok (.getstatic 87, 3) := by decide +kernel
theorem dJ6_getChars_ba4f3_65 : decode cJ6_getChars_ba4f3 65 = .ok (.iload 4, 2) := by decide +kernel
theorem dJ6_getChars_ba4f3_67 : decode cJ6_getChars_ba4f3 67 = .ok (.baload, 1) := by decide +kernel
theorem dJ6_getChars_ba4f3_68 : decode cJ6_getChars_ba4f3 68 = .ok (.bastore, 1) := by decide +kernel
theorem dJ6_getChars_ba4f3_69 : decode cJ6_getChars_ba4f3 69 = .ok (.goto (-47), 3) := by decide +kernel
theorem dJ6_getChars_ba4f3_72 : decode cJ6_getChars_ba4f3 72 = .ok (.aload_n 2, 1) := by decide +kernel
theorem dJ6_getChars_ba4f3_73 : decode cJ6_getChars_ba4f3 73 = .ok (.iinc 5 (-1), 3) := by decide +kernel
theorem dJ6_getChars_ba4f3_76 : decode cJ6_getChars_ba4f3 76 = .ok (.iload 5, 2) := by decide +kernel
theorem dJ6_getChars_ba4f3_78 : decode cJ6_getChars_ba4f3 78 = .ok (.getstatic 83, 3) := by decide +kernel
theorem dJ6_getChars_ba4f3_81 : decode cJ6_getChars_ba4f3 81 = .ok (.iload_n 0, 1) := by decide +kernel
theorem dJ6_getChars_ba4f3_82 : decode cJ6_getChars_ba4f3 82 = .ok (.ineg, 1) := by decide +kernel
theorem dJ6_getChars_ba4f3_83 : decode cJ6_getChars_ba4f3 83 = .ok (.baload, 1) := by decide +kernel
theorem dJ6_getChars_ba4f3_84 : decode cJ6_getChars_ba4f3 84 = .ok (.bastore, 1) := by decide +kernel
theorem dJ6_getChars_ba4f3_85 : decode cJ6_getChars_ba4f3 85 = .ok (.iload_n 0, 1) := by decide +kernel
theorem dJ6_getChars_ba4f3_86 : decode cJ6_getChars_ba4f3 86 = .ok (.bipush (-9), 2) := by decide +kernel
theorem dJ6_getChars_ba4f3_88 : decode cJ6_getChars_ba4f3 88 = .ok (.if_icmp .ge 16, 3) := by decide +kernel
theorem dJ6_getChars_ba4f3_91 : decode cJ6_getChars_ba4f3 91 = .ok (.aload_n 2, 1) := by decide +kernel
theorem dJ6_getChars_ba4f3_92 : decode cJ6_getChars_ba4f3 92 = .ok (.iinc 5 (-1), 3) := by decide +kernel
theorem dJ6_getChars_ba4f3_95 : decode cJ6_getChars_ba4f3 95 = .ok (.iload 5, 2) := by decide +kernel
theorem dJ6_getChars_ba4f3_97 : decode cJ6_getChars_ba4f3 97 = .ok (.getstatic 87, 3) := by decide +kernel
theorem dJ6_getChars_ba4f3_100 : decode cJ6_getChars_ba4f3 100 = .ok (.iload_n 0, 1) := by decide +kernel
theorem dJ6_getChars_ba4f3_101 : decode cJ6_getChars_ba4f3 101 = .ok (.ineg, 1) := by decide +kernel
theorem dJ6_getChars_ba4f3_102 : decode cJ6_getChars_ba4f3 102 = .ok (.baload, 1) := by decide +kernel
theorem dJ6_getChars_ba4f3_103 : decode cJ6_getChars_ba4f3 103 = .ok (.bastore, 1) := by decide +kernel
theorem dJ6_getChars_ba4f3_104 : decode cJ6_getChars_ba4f3 104 = .ok (.iload 6, 2) := by decide +kernel
theorem dJ6_getChars_ba4f3_106 : decode cJ6_getChars_ba4f3 106 = .ok (.ifCond .eq 12, 3) := by decide +kernel
theorem dJ6_getChars_ba4f3_109 : decode cJ6_getChars_ba4f3 109 = .ok (.aload_n 2, 1) := by decide +kernel
theorem dJ6_getChars_ba4f3_110 : decode cJ6_getChars_ba4f3 110 = .ok (.iinc 5 (-1), 3) := by decide +kernel
theorem dJ6_getChars_ba4f3_113 : decode cJ6_getChars_ba4f3 113 = .ok (.iload 5, 2) := by decide +kernel
theorem dJ6_getChars_ba4f3_115 : decode cJ6_getChars_ba4f3 115 = .ok (.bipush 45, 2) := by decide +kernel
theorem dJ6_getChars_ba4f3_117 : decode cJ6_getChars_ba4f3 117 = .ok (.bastore, 1) := by decide +kernel
theorem dJ6_getChars_ba4f3_118 : decode cJ6_getChars_ba4f3 118 = .ok (.iload 5, 2) := by decide +kernel
theorem dJ6_getChars_ba4f3_120 : decode cJ6_getChars_ba4f3 120 = .ok (.ireturn, 1) := by decide +kernel
theorem dJ6_stringSize_0f7a4_0 : decode cJ6_stringSize_0f7a4 0 = .ok (.iconst 1, 1) := by decide +kernel
theorem dJ6_stringSize_0f7a4_1 : decode cJ6_stringSize_0f7a4 1 = .ok (.istore_n 1, 1) := by decide +kernel
theorem dJ6_stringSize_0f7a4_2 : decode cJ6_stringSize_0f7a4 2 = .ok (.iload_n 0, 1) := by decide +kernel
theorem dJ6_stringSize_0f7a4_3 : decode cJ6_stringSize_0f7a4 3 = .ok (.ifCond .lt 8, 3) := by decide +kernel
theorem dJ6_stringSize_0f7a4_6 : decode cJ6_stringSize_0f7a4 6 = .ok (.iconst 0, 1) := by decide +kernel
theorem dJ6_stringSize_0f7a4_7 : decode cJ6_stringSize_0f7a4 7 = .ok (.istore_n 1, 1) := by decide +kernel
theorem dJ6_stringSize_0f7a4_8 : decode cJ6_stringSize_0f7a4 8 = .ok (.iload_n 0, 1) := by decide +kernel
theorem dJ6_stringSize_0f7a4_9 : decode cJ6_stringSize_0f7a4 9 = .ok (.ineg, 1) := by decide +kernel
theorem dJ6_stringSize_0f7a4_10 : decode cJ6_stringSize_0f7a4 10 = .ok (.istore_n 0, 1) := by decide +kernel
theorem dJ6_stringSize_0f7a4_11 : decode cJ6_stringSize_0f7a4 11 = .ok (.bipush (-10), 2) := by decide +kernel
theorem dJ6_stringSize_0f7a4_13 : decode cJ6_stringSize_0f7a4 13 = .ok (.istore_n 2, 1) := by decide +kernel
theorem dJ6_stringSize_0f7a4_14 : decode cJ6_stringSize_0f7a4 14 = .ok (.iconst 1, 1) := by decide +kernel
theorem dJ6_stringSize_0f7a4_15 : decode cJ6_stringSize_0f7a4 15 = .ok (.istore_n 3, 1) := by decide +kernel
theorem dJ6_stringSize_0f7a4_16 : decode cJ6_stringSize_0f7a4 16 = .ok (.iload_n 3, 1) := by decide +kernel
theorem dJ6_stringSize_0f7a4_17 : decode cJ6_stringSize_0f7a4 17 = .ok (.bipush 10, 2) := by decide +kernel
theorem dJ6_stringSize_0f7a4_19 : decode cJ6_stringSize_0f7a4 19 = .ok (.if_icmp .ge 23, 3) := by decide +kernel
theorem dJ6_stringSize_0f7a4_22 : decode cJ6_stringSize_0f7a4 22 = .ok (.iload_n 0, 1) := by decide +kernel
theorem dJ6_stringSize_0f7a4_23 : decode cJ6_stringSize_0f7a4 23 = .ok (.iload_n 2, 1) := by decide +kernel
theorem dJ6_stringSize_0f7a4_24 : decode cJ6_stringSize_0f7a4 24 = .ok (.if_icmp .le 7, 3) := by decide +kernel
theorem dJ6_stringSize_0f7a4_27 : decode cJ6_stringSize_0f7a4 27 = .ok (.iload_n 3, 1) := by decide +kernel
theorem dJ6_stringSize_0f7a4_28 : decode cJ6_stringSize_0f7a4 28 = .ok (.iload_n 1, 1) := by decide +kernel
theorem dJ6_stringSize_0f7a4_29 : decode cJ6_stringSize_0f7a4 29 = .ok (.iadd, 1) := by decide +kernel
theorem dJ6_stringSize_0f7a4_30 : decode cJ6_stringSize_0f7a4 30 = .ok (.ireturn, 1) := by decide +kernel
theorem dJ6_stringSize_0f7a4_31 : decode cJ6_stringSize_0f7a4 31 = .ok (.bipush 10, 2) := by decide +kernel
theorem dJ6_stringSize_0f7a4_33 : decode cJ6_stringSize_0f7a4 33 = .ok (.iload_n 2, 1) := by decide +kernel
theorem dJ6_stringSize_0f7a4_34 : decode cJ6_stringSize_0f7a4 34 = .ok (.imul, 1) := by decide +kernel
theorem dJ6_stringSize_0f7a4_35 : decode cJ6_stringSize_0f7a4 35 = .ok (.istore_n 2, 1) := by decide +kernel
theorem dJ6_stringSize_0f7a4_36 : decode cJ6_stringSize_0f7a4 36 = .ok (.iinc 3 1, 3) := by decide +kernel
theorem dJ6_stringSize_0f7a4_39 : decode cJ6_stringSize_0f7a4 39 = .ok (.goto (-23), 3) := by decide +kernel
def v_J6_stringSize_0f7a4 (v1 : Int32) : Int32 := if v1 < 0 then (if v1 ≤ (-10) then (if v1 ≤ (10 * (-10)) then 3 + 1 else 2 + 1) else 1 + 1) else (if (-v1) ≤ (-10) then (if (-v1) ≤ (10 * (-10)) then 3 + 0 else 2 + 0) else 1 + 0)
set_option maxRecDepth 100000 in
set_option maxHeartbeats 4000000 in
theorem r_J6_stringSize_0f7a4 (l : Launch) (D : va_G) (cI cB : ClassId) (v1 : Int32) (hv : -999 ≤ v1 ∧ v1 ≤ 999) : RD l yJ6_stringSize_0f7a4 cJ6_stringSize_0f7a4 4 (some .int) ({ frames := 0, cells := 0, slots := 0, locals := 0 } : Room) D cI cB [.int v1] [] (v_J6_stringSize_0f7a4 v1) := by
  refine bodyRD (by decide +kernel) (Nat.le_of_ble_eq_true rfl) (fun p e s m args below meth c ls FX hr hlk hK hP hl => ?_)
  have hl : lv_has ls 4 [(0, .int v1)] := hl
  refine lv_iconst (v := 1) FX.1 FX.2.1 dJ6_stringSize_0f7a4_0 (by decide) ?_
  refine lv_istore_n (lv' := [(1, .int 1), (0, .int v1)]) FX.1 FX.2.1 dJ6_stringSize_0f7a4_1 rfl hl (by decide) rfl (fun ls hl => ?_)
  refine lv_iload_n FX.1 FX.2.1 dJ6_stringSize_0f7a4_2 rfl (lv_at hl 1 rfl) ?_
  refine lv_if_lt (tgt := 11) FX.1 FX.2.1 dJ6_stringSize_0f7a4_3 (by decide) (fun c_1 => ?_) (fun c_1 => ?_)
  · refine lv_bipush (v := (-10)) FX.1 FX.2.1 dJ6_stringSize_0f7a4_11 (by decide) ?_
    refine lv_istore_n (lv' := [(2, .int (-10)), (1, .int 1), (0, .int v1)]) FX.1 FX.2.1 dJ6_stringSize_0f7a4_13 rfl hl (by decide) rfl (fun ls hl => ?_)
    refine lv_iconst (v := 1) FX.1 FX.2.1 dJ6_stringSize_0f7a4_14 (by decide) ?_
    refine lv_istore_n (lv' := [(3, .int 1), (2, .int (-10)), (1, .int 1), (0, .int v1)]) FX.1 FX.2.1 dJ6_stringSize_0f7a4_15 rfl hl (by decide) rfl (fun ls hl => ?_)
    refine lv_iload_n FX.1 FX.2.1 dJ6_stringSize_0f7a4_16 rfl (lv_at hl 0 rfl) ?_
    refine lv_bipush (v := 10) FX.1 FX.2.1 dJ6_stringSize_0f7a4_17 (by decide) ?_
    refine lv_icmp_ge (tgt := 42) FX.1 FX.2.1 dJ6_stringSize_0f7a4_19 (by decide) (fun c_2 => ?_) (fun c_2 => ?_)
    · exact absurd c_2 (by decide)
    · refine lv_iload_n FX.1 FX.2.1 dJ6_stringSize_0f7a4_22 rfl (lv_at hl 3 rfl) ?_
      refine lv_iload_n FX.1 FX.2.1 dJ6_stringSize_0f7a4_23 rfl (lv_at hl 1 rfl) ?_
      refine lv_icmp_le (tgt := 31) FX.1 FX.2.1 dJ6_stringSize_0f7a4_24 (by decide) (fun c_3 => ?_) (fun c_3 => ?_)
      · refine lv_bipush (v := 10) FX.1 FX.2.1 dJ6_stringSize_0f7a4_31 (by decide) ?_
        refine lv_iload_n FX.1 FX.2.1 dJ6_stringSize_0f7a4_33 rfl (lv_at hl 1 rfl) ?_
        refine lv_imul FX.1 FX.2.1 dJ6_stringSize_0f7a4_34 ?_
        refine lv_istore_n (lv' := [(2, .int (10 * (-10))), (3, .int 1), (1, .int 1), (0, .int v1)]) FX.1 FX.2.1 dJ6_stringSize_0f7a4_35 rfl hl (by decide) rfl (fun ls hl => ?_)
        refine lv_iinc (v := 2) (lv' := [(3, .int 2), (2, .int (10 * (-10))), (1, .int 1), (0, .int v1)]) FX.1 FX.2.1 dJ6_stringSize_0f7a4_36 hl (k := 1) rfl (by decide) (by decide) rfl (fun ls hl => ?_)
        refine lv_goto (tgt := 16) FX.1 FX.2.1 dJ6_stringSize_0f7a4_39 (by decide) ?_
        refine lv_iload_n FX.1 FX.2.1 dJ6_stringSize_0f7a4_16 rfl (lv_at hl 0 rfl) ?_
        refine lv_bipush (v := 10) FX.1 FX.2.1 dJ6_stringSize_0f7a4_17 (by decide) ?_
        refine lv_icmp_ge (tgt := 42) FX.1 FX.2.1 dJ6_stringSize_0f7a4_19 (by decide) (fun c_4 => ?_) (fun c_4 => ?_)
        · exact absurd c_4 (by decide)
        · refine lv_iload_n FX.1 FX.2.1 dJ6_stringSize_0f7a4_22 rfl (lv_at hl 3 rfl) ?_
          refine lv_iload_n FX.1 FX.2.1 dJ6_stringSize_0f7a4_23 rfl (lv_at hl 1 rfl) ?_
          refine lv_icmp_le (tgt := 31) FX.1 FX.2.1 dJ6_stringSize_0f7a4_24 (by decide) (fun c_5 => ?_) (fun c_5 => ?_)
          · refine lv_bipush (v := 10) FX.1 FX.2.1 dJ6_stringSize_0f7a4_31 (by decide) ?_
            refine lv_iload_n FX.1 FX.2.1 dJ6_stringSize_0f7a4_33 rfl (lv_at hl 1 rfl) ?_
            refine lv_imul FX.1 FX.2.1 dJ6_stringSize_0f7a4_34 ?_
            refine lv_istore_n (lv' := [(2, .int (10 * (10 * (-10)))), (3, .int 2), (1, .int 1), (0, .int v1)]) FX.1 FX.2.1 dJ6_stringSize_0f7a4_35 rfl hl (by decide) rfl (fun ls hl => ?_)
            refine lv_iinc (v := 3) (lv' := [(3, .int 3), (2, .int (10 * (10 * (-10)))), (1, .int 1), (0, .int v1)]) FX.1 FX.2.1 dJ6_stringSize_0f7a4_36 hl (k := 1) rfl (by decide) (by decide) rfl (fun ls hl => ?_)
            refine lv_goto (tgt := 16) FX.1 FX.2.1 dJ6_stringSize_0f7a4_39 (by decide) ?_
            refine lv_iload_n FX.1 FX.2.1 dJ6_stringSize_0f7a4_16 rfl (lv_at hl 0 rfl) ?_
            refine lv_bipush (v := 10) FX.1 FX.2.1 dJ6_stringSize_0f7a4_17 (by decide) ?_
            refine lv_icmp_ge (tgt := 42) FX.1 FX.2.1 dJ6_stringSize_0f7a4_19 (by decide) (fun c_6 => ?_) (fun c_6 => ?_)
            · exact absurd c_6 (by decide)
            · refine lv_iload_n FX.1 FX.2.1 dJ6_stringSize_0f7a4_22 rfl (lv_at hl 3 rfl) ?_
              refine lv_iload_n FX.1 FX.2.1 dJ6_stringSize_0f7a4_23 rfl (lv_at hl 1 rfl) ?_
              refine lv_icmp_le (tgt := 31) FX.1 FX.2.1 dJ6_stringSize_0f7a4_24 (by decide) (fun c_7 => ?_) (fun c_7 => ?_)
              · exact absurd c_7 (sz_a hv)
              · refine lv_iload_n FX.1 FX.2.1 dJ6_stringSize_0f7a4_27 rfl (lv_at hl 0 rfl) ?_
                refine lv_iload_n FX.1 FX.2.1 dJ6_stringSize_0f7a4_28 rfl (lv_at hl 2 rfl) ?_
                refine lv_iadd FX.1 FX.2.1 dJ6_stringSize_0f7a4_29 ?_
                exact retRD FX hr hlk dJ6_stringSize_0f7a4_30 rfl (by rw [v_J6_stringSize_0f7a4, if_pos c_1, if_pos c_3, if_pos c_5])
          · refine lv_iload_n FX.1 FX.2.1 dJ6_stringSize_0f7a4_27 rfl (lv_at hl 0 rfl) ?_
            refine lv_iload_n FX.1 FX.2.1 dJ6_stringSize_0f7a4_28 rfl (lv_at hl 2 rfl) ?_
            refine lv_iadd FX.1 FX.2.1 dJ6_stringSize_0f7a4_29 ?_
            exact retRD FX hr hlk dJ6_stringSize_0f7a4_30 rfl (by rw [v_J6_stringSize_0f7a4, if_pos c_1, if_pos c_3, if_neg c_5])
      · refine lv_iload_n FX.1 FX.2.1 dJ6_stringSize_0f7a4_27 rfl (lv_at hl 0 rfl) ?_
        refine lv_iload_n FX.1 FX.2.1 dJ6_stringSize_0f7a4_28 rfl (lv_at hl 2 rfl) ?_
        refine lv_iadd FX.1 FX.2.1 dJ6_stringSize_0f7a4_29 ?_
        exact retRD FX hr hlk dJ6_stringSize_0f7a4_30 rfl (by rw [v_J6_stringSize_0f7a4, if_pos c_1, if_neg c_3])
  · refine lv_iconst (v := 0) FX.1 FX.2.1 dJ6_stringSize_0f7a4_6 (by decide) ?_
    refine lv_istore_n (lv' := [(1, .int 0), (0, .int v1)]) FX.1 FX.2.1 dJ6_stringSize_0f7a4_7 rfl hl (by decide) rfl (fun ls hl => ?_)
    refine lv_iload_n FX.1 FX.2.1 dJ6_stringSize_0f7a4_8 rfl (lv_at hl 1 rfl) ?_
    refine lv_ineg FX.1 FX.2.1 dJ6_stringSize_0f7a4_9 ?_
    refine lv_istore_n (lv' := [(0, .int (-v1)), (1, .int 0)]) FX.1 FX.2.1 dJ6_stringSize_0f7a4_10 rfl hl (by decide) rfl (fun ls hl => ?_)
    refine lv_bipush (v := (-10)) FX.1 FX.2.1 dJ6_stringSize_0f7a4_11 (by decide) ?_
    refine lv_istore_n (lv' := [(2, .int (-10)), (0, .int (-v1)), (1, .int 0)]) FX.1 FX.2.1 dJ6_stringSize_0f7a4_13 rfl hl (by decide) rfl (fun ls hl => ?_)
    refine lv_iconst (v := 1) FX.1 FX.2.1 dJ6_stringSize_0f7a4_14 (by decide) ?_
    refine lv_istore_n (lv' := [(3, .int 1), (2, .int (-10)), (0, .int (-v1)), (1, .int 0)]) FX.1 FX.2.1 dJ6_stringSize_0f7a4_15 rfl hl (by decide) rfl (fun ls hl => ?_)
    refine lv_iload_n FX.1 FX.2.1 dJ6_stringSize_0f7a4_16 rfl (lv_at hl 0 rfl) ?_
    refine lv_bipush (v := 10) FX.1 FX.2.1 dJ6_stringSize_0f7a4_17 (by decide) ?_
    refine lv_icmp_ge (tgt := 42) FX.1 FX.2.1 dJ6_stringSize_0f7a4_19 (by decide) (fun c_8 => ?_) (fun c_8 => ?_)
    · exact absurd c_8 (by decide)
    · refine lv_iload_n FX.1 FX.2.1 dJ6_stringSize_0f7a4_22 rfl (lv_at hl 2 rfl) ?_
      refine lv_iload_n FX.1 FX.2.1 dJ6_stringSize_0f7a4_23 rfl (lv_at hl 1 rfl) ?_
      refine lv_icmp_le (tgt := 31) FX.1 FX.2.1 dJ6_stringSize_0f7a4_24 (by decide) (fun c_9 => ?_) (fun c_9 => ?_)
      · refine lv_bipush (v := 10) FX.1 FX.2.1 dJ6_stringSize_0f7a4_31 (by decide) ?_
        refine lv_iload_n FX.1 FX.2.1 dJ6_stringSize_0f7a4_33 rfl (lv_at hl 1 rfl) ?_
        refine lv_imul FX.1 FX.2.1 dJ6_stringSize_0f7a4_34 ?_
        refine lv_istore_n (lv' := [(2, .int (10 * (-10))), (3, .int 1), (0, .int (-v1)), (1, .int 0)]) FX.1 FX.2.1 dJ6_stringSize_0f7a4_35 rfl hl (by decide) rfl (fun ls hl => ?_)
        refine lv_iinc (v := 2) (lv' := [(3, .int 2), (2, .int (10 * (-10))), (0, .int (-v1)), (1, .int 0)]) FX.1 FX.2.1 dJ6_stringSize_0f7a4_36 hl (k := 1) rfl (by decide) (by decide) rfl (fun ls hl => ?_)
        refine lv_goto (tgt := 16) FX.1 FX.2.1 dJ6_stringSize_0f7a4_39 (by decide) ?_
        refine lv_iload_n FX.1 FX.2.1 dJ6_stringSize_0f7a4_16 rfl (lv_at hl 0 rfl) ?_
        refine lv_bipush (v := 10) FX.1 FX.2.1 dJ6_stringSize_0f7a4_17 (by decide) ?_
        refine lv_icmp_ge (tgt := 42) FX.1 FX.2.1 dJ6_stringSize_0f7a4_19 (by decide) (fun c_10 => ?_) (fun c_10 => ?_)
        · exact absurd c_10 (by decide)
        · refine lv_iload_n FX.1 FX.2.1 dJ6_stringSize_0f7a4_22 rfl (lv_at hl 2 rfl) ?_
          refine lv_iload_n FX.1 FX.2.1 dJ6_stringSize_0f7a4_23 rfl (lv_at hl 1 rfl) ?_
          refine lv_icmp_le (tgt := 31) FX.1 FX.2.1 dJ6_stringSize_0f7a4_24 (by decide) (fun c_11 => ?_) (fun c_11 => ?_)
          · refine lv_bipush (v := 10) FX.1 FX.2.1 dJ6_stringSize_0f7a4_31 (by decide) ?_
            refine lv_iload_n FX.1 FX.2.1 dJ6_stringSize_0f7a4_33 rfl (lv_at hl 1 rfl) ?_
            refine lv_imul FX.1 FX.2.1 dJ6_stringSize_0f7a4_34 ?_
            refine lv_istore_n (lv' := [(2, .int (10 * (10 * (-10)))), (3, .int 2), (0, .int (-v1)), (1, .int 0)]) FX.1 FX.2.1 dJ6_stringSize_0f7a4_35 rfl hl (by decide) rfl (fun ls hl => ?_)
            refine lv_iinc (v := 3) (lv' := [(3, .int 3), (2, .int (10 * (10 * (-10)))), (0, .int (-v1)), (1, .int 0)]) FX.1 FX.2.1 dJ6_stringSize_0f7a4_36 hl (k := 1) rfl (by decide) (by decide) rfl (fun ls hl => ?_)
            refine lv_goto (tgt := 16) FX.1 FX.2.1 dJ6_stringSize_0f7a4_39 (by decide) ?_
            refine lv_iload_n FX.1 FX.2.1 dJ6_stringSize_0f7a4_16 rfl (lv_at hl 0 rfl) ?_
            refine lv_bipush (v := 10) FX.1 FX.2.1 dJ6_stringSize_0f7a4_17 (by decide) ?_
            refine lv_icmp_ge (tgt := 42) FX.1 FX.2.1 dJ6_stringSize_0f7a4_19 (by decide) (fun c_12 => ?_) (fun c_12 => ?_)
            · exact absurd c_12 (by decide)
            · refine lv_iload_n FX.1 FX.2.1 dJ6_stringSize_0f7a4_22 rfl (lv_at hl 2 rfl) ?_
              refine lv_iload_n FX.1 FX.2.1 dJ6_stringSize_0f7a4_23 rfl (lv_at hl 1 rfl) ?_
              refine lv_icmp_le (tgt := 31) FX.1 FX.2.1 dJ6_stringSize_0f7a4_24 (by decide) (fun c_13 => ?_) (fun c_13 => ?_)
              · exact absurd c_13 (sz_b hv)
              · refine lv_iload_n FX.1 FX.2.1 dJ6_stringSize_0f7a4_27 rfl (lv_at hl 0 rfl) ?_
                refine lv_iload_n FX.1 FX.2.1 dJ6_stringSize_0f7a4_28 rfl (lv_at hl 3 rfl) ?_
                refine lv_iadd FX.1 FX.2.1 dJ6_stringSize_0f7a4_29 ?_
                exact retRD FX hr hlk dJ6_stringSize_0f7a4_30 rfl (by rw [v_J6_stringSize_0f7a4, if_neg c_1, if_pos c_9, if_pos c_11])
          · refine lv_iload_n FX.1 FX.2.1 dJ6_stringSize_0f7a4_27 rfl (lv_at hl 0 rfl) ?_
            refine lv_iload_n FX.1 FX.2.1 dJ6_stringSize_0f7a4_28 rfl (lv_at hl 3 rfl) ?_
            refine lv_iadd FX.1 FX.2.1 dJ6_stringSize_0f7a4_29 ?_
            exact retRD FX hr hlk dJ6_stringSize_0f7a4_30 rfl (by rw [v_J6_stringSize_0f7a4, if_neg c_1, if_pos c_9, if_neg c_11])
      · refine lv_iload_n FX.1 FX.2.1 dJ6_stringSize_0f7a4_27 rfl (lv_at hl 0 rfl) ?_
        refine lv_iload_n FX.1 FX.2.1 dJ6_stringSize_0f7a4_28 rfl (lv_at hl 3 rfl) ?_
        refine lv_iadd FX.1 FX.2.1 dJ6_stringSize_0f7a4_29 ?_
        exact retRD FX hr hlk dJ6_stringSize_0f7a4_30 rfl (by rw [v_J6_stringSize_0f7a4, if_neg c_1, if_neg c_9])
def T_A1 (v : Int32) (go gt : Nat → Int32) : Nat → Int32 := upd (fun _ => 0) (0) (vp_nar (FieldType.byte) (go (-(-v)).toNatClampNeg))
set_option maxRecDepth 100000 in
set_option maxHeartbeats 4000000 in
theorem j_J6_getChars_A1 (l : Launch) (D : va_G) (cI cB : ClassId) (v : Int32) (bt : Nat) (bs : Nat → Int32) (to tt : Nat) (go gt : Nat → Int32) (hk : kd false 0 9 v) (hb : sb_Fit bs) : JW (S := Nat → Int32) l yJ6_getChars_ba4f3 cJ6_getChars_ba4f3 7 (some .int) ({ frames := 0, cells := 0, slots := 0, locals := 0 } : Room) D cI cB [.int v, .int 1, .ref bt] [(bt, .inl (cB, 16, .inl bs))] (zAnd (zDg "DigitOnes" to go) (zDg "DigitTens" tt gt)) (fun u => some (.int 0)) (fun u => sb_Fit u ∧ TL 1 u (T_A1 v go gt)) (fun u => [(bt, .inl (cB, 16, .inl u))]) 0 0 := by
  refine bodyJ (by decide +kernel) (Nat.le_of_ble_eq_true rfl) (fun p e s m args below meth c ls A ZZ => ?_)
  obtain ⟨FX, hr, hlk, hK, hP, hD, hS, hA, hz, hnm, hl⟩ := ZZ
  have hl : lv_has ls 7 [(0, .int v), (1, .int 1), (2, .ref bt)] := hl
  have hP : va_P D KL [(bt, .inl (cB, 16, .inl bs))] s.heap := hP
  refine lv_iload_n FX.1 FX.2.1 dJ6_getChars_ba4f3_0 rfl (lv_at hl 1 rfl) ?_
  refine lv_istore (lv' := [(5, .int 1), (0, .int v), (1, .int 1), (2, .ref bt)]) FX.1 FX.2.1 dJ6_getChars_ba4f3_1 hl (by decide) rfl (fun ls hl => ?_)
  refine lv_iload_n FX.1 FX.2.1 dJ6_getChars_ba4f3_3 rfl (lv_at hl 1 rfl) ?_
  refine lv_if_ge (tgt := 11) FX.1 FX.2.1 dJ6_getChars_ba4f3_4 (by decide) (fun c_1 => ?_) (fun c_1 => ?_)
  · refine lv_iconst (v := 0) FX.1 FX.2.1 dJ6_getChars_ba4f3_11 (by decide) ?_
    refine lv_istore (lv' := [(6, .int 0), (5, .int 1), (0, .int v), (1, .int 1), (2, .ref bt)]) FX.1 FX.2.1 dJ6_getChars_ba4f3_12 hl (by decide) rfl (fun ls hl => ?_)
    refine lv_iload FX.1 FX.2.1 dJ6_getChars_ba4f3_14 (lv_at hl 0 rfl) ?_
    refine lv_if_ne (tgt := 22) FX.1 FX.2.1 dJ6_getChars_ba4f3_16 (by decide) (fun c_2 => ?_) (fun c_2 => ?_)
    · exact absurd c_2 (by decide)
    · refine lv_iload_n FX.1 FX.2.1 dJ6_getChars_ba4f3_19 rfl (lv_at hl 2 rfl) ?_
      refine lv_ineg FX.1 FX.2.1 dJ6_getChars_ba4f3_20 ?_
      refine lv_istore_n (lv' := [(0, .int (-v)), (6, .int 0), (5, .int 1), (1, .int 1), (2, .ref bt)]) FX.1 FX.2.1 dJ6_getChars_ba4f3_21 rfl hl (by decide) rfl (fun ls hl => ?_)
      refine lv_iload_n FX.1 FX.2.1 dJ6_getChars_ba4f3_22 rfl (lv_at hl 0 rfl) ?_
      refine lv_bipush (v := (-100)) FX.1 FX.2.1 dJ6_getChars_ba4f3_23 (by decide) ?_
      refine lv_icmp_gt (tgt := 72) FX.1 FX.2.1 dJ6_getChars_ba4f3_25 (by decide) (fun c_3 => ?_) (fun c_3 => ?_)
      · refine lv_aload_n FX.1 FX.2.1 dJ6_getChars_ba4f3_72 rfl (lv_at hl 4 rfl) ?_
        refine lv_iinc (v := 0) (lv' := [(5, .int 0), (0, .int (-v)), (6, .int 0), (1, .int 1), (2, .ref bt)]) FX.1 FX.2.1 dJ6_getChars_ba4f3_73 hl (k := 2) rfl (by decide) (by decide) rfl (fun ls hl => ?_)
        refine lv_iload FX.1 FX.2.1 dJ6_getChars_ba4f3_76 (lv_at hl 0 rfl) ?_
        refine va_gets FX.1 FX.2.1 hz.1.1 hS FX.2.2.2.1 (FX.2.2.2.2 _ fl_RJ6_83) (fun _ h9 => h9) dJ6_getChars_ba4f3_78 ?_
        refine lv_iload_n FX.1 FX.2.1 dJ6_getChars_ba4f3_81 rfl (lv_at hl 1 rfl) ?_
        refine lv_ineg FX.1 FX.2.1 dJ6_getChars_ba4f3_82 ?_
        refine va_tb FX.1 FX.2.1 hz.1.2 hS (dg_i (kd_p hk (by decide)).1 (by decide)) (v := .int (go (-(-v)).toNatClampNeg)) rfl dJ6_getChars_ba4f3_83 ?_
        refine p_bast (wsN := [(bt, .inl (cB, 16, .inl (upd bs (0) (vp_nar (FieldType.byte) (go (-(-v)).toNatClampNeg)))))]) FX hK hP hD hS 0 rfl (vp_in_iff.mpr ⟨by decide, by decide⟩) dJ6_getChars_ba4f3_84 rfl (fun H locs hP hD hS => ?_)
        refine lv_iload_n FX.1 FX.2.1 dJ6_getChars_ba4f3_85 rfl (lv_at hl 1 rfl) ?_
        refine lv_bipush (v := (-9)) FX.1 FX.2.1 dJ6_getChars_ba4f3_86 (by decide) ?_
        refine lv_icmp_ge (tgt := 104) FX.1 FX.2.1 dJ6_getChars_ba4f3_88 (by decide) (fun c_4 => ?_) (fun c_4 => ?_)
        · refine lv_iload FX.1 FX.2.1 dJ6_getChars_ba4f3_104 (lv_at hl 2 rfl) ?_
          refine lv_if_eq (tgt := 118) FX.1 FX.2.1 dJ6_getChars_ba4f3_106 (by decide) (fun c_5 => ?_) (fun c_5 => ?_)
          · refine lv_iload FX.1 FX.2.1 dJ6_getChars_ba4f3_118 (lv_at hl 0 rfl) ?_
            exact retJi (upd bs (0) (vp_nar (FieldType.byte) (go (-(-v)).toNatClampNeg))) FX hr hlk dJ6_getChars_ba4f3_120 rfl hP hK hD hS (by decide) (by decide) rfl ⟨(sb_fitU hb (fitB _)), fun j hj => by obtain rfl : j = 0 := (by omega); rfl⟩
          · exact absurd c_5 (by decide)
        · exact absurd (dg_9 (kd_p hk (by decide)).1 (by decide)) c_4
      · exact absurd (dg_hi (kd_p hk (by decide)).1 (by decide)) c_3
  · exact absurd (kd_p hk (by decide)).2 c_1
def T_A2 (v : Int32) (go gt : Nat → Int32) : Nat → Int32 := upd (upd (fun _ => 0) (1) (vp_nar (FieldType.byte) (go (-(-v)).toNatClampNeg))) (0) (vp_nar (FieldType.byte) (gt (-(-v)).toNatClampNeg))
set_option maxRecDepth 100000 in
set_option maxHeartbeats 4000000 in
theorem j_J6_getChars_A2 (l : Launch) (D : va_G) (cI cB : ClassId) (v : Int32) (bt : Nat) (bs : Nat → Int32) (to tt : Nat) (go gt : Nat → Int32) (hk : kd false 10 99 v) (hb : sb_Fit bs) : JW (S := Nat → Int32) l yJ6_getChars_ba4f3 cJ6_getChars_ba4f3 7 (some .int) ({ frames := 0, cells := 0, slots := 0, locals := 0 } : Room) D cI cB [.int v, .int 2, .ref bt] [(bt, .inl (cB, 16, .inl bs))] (zAnd (zDg "DigitOnes" to go) (zDg "DigitTens" tt gt)) (fun u => some (.int 0)) (fun u => sb_Fit u ∧ TL 2 u (T_A2 v go gt)) (fun u => [(bt, .inl (cB, 16, .inl u))]) 0 0 := by
  refine bodyJ (by decide +kernel) (Nat.le_of_ble_eq_true rfl) (fun p e s m args below meth c ls A ZZ => ?_)
  obtain ⟨FX, hr, hlk, hK, hP, hD, hS, hA, hz, hnm, hl⟩ := ZZ
  have hl : lv_has ls 7 [(0, .int v), (1, .int 2), (2, .ref bt)] := hl
  have hP : va_P D KL [(bt, .inl (cB, 16, .inl bs))] s.heap := hP
  refine lv_iload_n FX.1 FX.2.1 dJ6_getChars_ba4f3_0 rfl (lv_at hl 1 rfl) ?_
  refine lv_istore (lv' := [(5, .int 2), (0, .int v), (1, .int 2), (2, .ref bt)]) FX.1 FX.2.1 dJ6_getChars_ba4f3_1 hl (by decide) rfl (fun ls hl => ?_)
  refine lv_iload_n FX.1 FX.2.1 dJ6_getChars_ba4f3_3 rfl (lv_at hl 1 rfl) ?_
  refine lv_if_ge (tgt := 11) FX.1 FX.2.1 dJ6_getChars_ba4f3_4 (by decide) (fun c_1 => ?_) (fun c_1 => ?_)
  · refine lv_iconst (v := 0) FX.1 FX.2.1 dJ6_getChars_ba4f3_11 (by decide) ?_
    refine lv_istore (lv' := [(6, .int 0), (5, .int 2), (0, .int v), (1, .int 2), (2, .ref bt)]) FX.1 FX.2.1 dJ6_getChars_ba4f3_12 hl (by decide) rfl (fun ls hl => ?_)
    refine lv_iload FX.1 FX.2.1 dJ6_getChars_ba4f3_14 (lv_at hl 0 rfl) ?_
    refine lv_if_ne (tgt := 22) FX.1 FX.2.1 dJ6_getChars_ba4f3_16 (by decide) (fun c_2 => ?_) (fun c_2 => ?_)
    · exact absurd c_2 (by decide)
    · refine lv_iload_n FX.1 FX.2.1 dJ6_getChars_ba4f3_19 rfl (lv_at hl 2 rfl) ?_
      refine lv_ineg FX.1 FX.2.1 dJ6_getChars_ba4f3_20 ?_
      refine lv_istore_n (lv' := [(0, .int (-v)), (6, .int 0), (5, .int 2), (1, .int 2), (2, .ref bt)]) FX.1 FX.2.1 dJ6_getChars_ba4f3_21 rfl hl (by decide) rfl (fun ls hl => ?_)
      refine lv_iload_n FX.1 FX.2.1 dJ6_getChars_ba4f3_22 rfl (lv_at hl 0 rfl) ?_
      refine lv_bipush (v := (-100)) FX.1 FX.2.1 dJ6_getChars_ba4f3_23 (by decide) ?_
      refine lv_icmp_gt (tgt := 72) FX.1 FX.2.1 dJ6_getChars_ba4f3_25 (by decide) (fun c_3 => ?_) (fun c_3 => ?_)
      · refine lv_aload_n FX.1 FX.2.1 dJ6_getChars_ba4f3_72 rfl (lv_at hl 4 rfl) ?_
        refine lv_iinc (v := 1) (lv' := [(5, .int 1), (0, .int (-v)), (6, .int 0), (1, .int 2), (2, .ref bt)]) FX.1 FX.2.1 dJ6_getChars_ba4f3_73 hl (k := 2) rfl (by decide) (by decide) rfl (fun ls hl => ?_)
        refine lv_iload FX.1 FX.2.1 dJ6_getChars_ba4f3_76 (lv_at hl 0 rfl) ?_
        refine va_gets FX.1 FX.2.1 hz.1.1 hS FX.2.2.2.1 (FX.2.2.2.2 _ fl_RJ6_83) (fun _ h9 => h9) dJ6_getChars_ba4f3_78 ?_
        refine lv_iload_n FX.1 FX.2.1 dJ6_getChars_ba4f3_81 rfl (lv_at hl 1 rfl) ?_
        refine lv_ineg FX.1 FX.2.1 dJ6_getChars_ba4f3_82 ?_
        refine va_tb FX.1 FX.2.1 hz.1.2 hS (dg_i (kd_p hk (by decide)).1 (by decide)) (v := .int (go (-(-v)).toNatClampNeg)) rfl dJ6_getChars_ba4f3_83 ?_
        refine p_bast (wsN := [(bt, .inl (cB, 16, .inl (upd bs (1) (vp_nar (FieldType.byte) (go (-(-v)).toNatClampNeg)))))]) FX hK hP hD hS 0 rfl (vp_in_iff.mpr ⟨by decide, by decide⟩) dJ6_getChars_ba4f3_84 rfl (fun H locs hP hD hS => ?_)
        refine lv_iload_n FX.1 FX.2.1 dJ6_getChars_ba4f3_85 rfl (lv_at hl 1 rfl) ?_
        refine lv_bipush (v := (-9)) FX.1 FX.2.1 dJ6_getChars_ba4f3_86 (by decide) ?_
        refine lv_icmp_ge (tgt := 104) FX.1 FX.2.1 dJ6_getChars_ba4f3_88 (by decide) (fun c_4 => ?_) (fun c_4 => ?_)
        · exact absurd c_4 (dg_n9 (kd_p hk (by decide)).1 (by decide))
        · refine lv_aload_n FX.1 FX.2.1 dJ6_getChars_ba4f3_91 rfl (lv_at hl 4 rfl) ?_
          refine lv_iinc (v := 0) (lv' := [(5, .int 0), (0, .int (-v)), (6, .int 0), (1, .int 2), (2, .ref bt)]) FX.1 FX.2.1 dJ6_getChars_ba4f3_92 hl (k := 0) rfl (by decide) (by decide) rfl (fun ls hl => ?_)
          refine lv_iload FX.1 FX.2.1 dJ6_getChars_ba4f3_95 (lv_at hl 0 rfl) ?_
          refine va_gets FX.1 FX.2.1 hz.2.1 hS FX.2.2.2.1 (FX.2.2.2.2 _ fl_RJ6_87) (fun _ h9 => h9) dJ6_getChars_ba4f3_97 ?_
          refine lv_iload_n FX.1 FX.2.1 dJ6_getChars_ba4f3_100 rfl (lv_at hl 1 rfl) ?_
          refine lv_ineg FX.1 FX.2.1 dJ6_getChars_ba4f3_101 ?_
          refine va_tb FX.1 FX.2.1 hz.2.2 hS (dg_i (kd_p hk (by decide)).1 (by decide)) (v := .int (gt (-(-v)).toNatClampNeg)) rfl dJ6_getChars_ba4f3_102 ?_
          refine p_bast (wsN := [(bt, .inl (cB, 16, .inl (upd (upd bs (1) (vp_nar (FieldType.byte) (go (-(-v)).toNatClampNeg))) (0) (vp_nar (FieldType.byte) (gt (-(-v)).toNatClampNeg)))))]) FX hK hP hD hS 0 rfl (vp_in_iff.mpr ⟨by decide, by decide⟩) dJ6_getChars_ba4f3_103 rfl (fun H locs hP hD hS => ?_)
          refine lv_iload FX.1 FX.2.1 dJ6_getChars_ba4f3_104 (lv_at hl 2 rfl) ?_
          refine lv_if_eq (tgt := 118) FX.1 FX.2.1 dJ6_getChars_ba4f3_106 (by decide) (fun c_5 => ?_) (fun c_5 => ?_)
          · refine lv_iload FX.1 FX.2.1 dJ6_getChars_ba4f3_118 (lv_at hl 0 rfl) ?_
            exact retJi (upd (upd bs (1) (vp_nar (FieldType.byte) (go (-(-v)).toNatClampNeg))) (0) (vp_nar (FieldType.byte) (gt (-(-v)).toNatClampNeg))) FX hr hlk dJ6_getChars_ba4f3_120 rfl hP hK hD hS (by decide) (by decide) rfl ⟨(sb_fitU (sb_fitU hb (fitB _)) (fitB _)), fun j hj => by rcases (show j = 0 ∨ j = 1 by omega) with rfl | rfl <;> rfl⟩
          · exact absurd c_5 (by decide)
      · exact absurd (dg_hi (kd_p hk (by decide)).1 (by decide)) c_3
  · exact absurd (kd_p hk (by decide)).2 c_1
def T_A3 (v : Int32) (go gt : Nat → Int32) : Nat → Int32 := upd (upd (upd (fun _ => 0) (2) (vp_nar (FieldType.byte) (go ((((-v) / 100) * 100) - (-v)).toNatClampNeg))) (1) (vp_nar (FieldType.byte) (gt ((((-v) / 100) * 100) - (-v)).toNatClampNeg))) (0) (vp_nar (FieldType.byte) (go (-((-v) / 100)).toNatClampNeg))
set_option maxRecDepth 100000 in
set_option maxHeartbeats 4000000 in
theorem j_J6_getChars_A3 (l : Launch) (D : va_G) (cI cB : ClassId) (v : Int32) (bt : Nat) (bs : Nat → Int32) (to tt : Nat) (go gt : Nat → Int32) (hk : kd false 100 999 v) (hb : sb_Fit bs) : JW (S := Nat → Int32) l yJ6_getChars_ba4f3 cJ6_getChars_ba4f3 7 (some .int) ({ frames := 0, cells := 0, slots := 0, locals := 0 } : Room) D cI cB [.int v, .int 3, .ref bt] [(bt, .inl (cB, 16, .inl bs))] (zAnd (zDg "DigitOnes" to go) (zDg "DigitTens" tt gt)) (fun u => some (.int 0)) (fun u => sb_Fit u ∧ TL 3 u (T_A3 v go gt)) (fun u => [(bt, .inl (cB, 16, .inl u))]) 0 0 := by
  refine bodyJ (by decide +kernel) (Nat.le_of_ble_eq_true rfl) (fun p e s m args below meth c ls A ZZ => ?_)
  obtain ⟨FX, hr, hlk, hK, hP, hD, hS, hA, hz, hnm, hl⟩ := ZZ
  have hl : lv_has ls 7 [(0, .int v), (1, .int 3), (2, .ref bt)] := hl
  have hP : va_P D KL [(bt, .inl (cB, 16, .inl bs))] s.heap := hP
  refine lv_iload_n FX.1 FX.2.1 dJ6_getChars_ba4f3_0 rfl (lv_at hl 1 rfl) ?_
  refine lv_istore (lv' := [(5, .int 3), (0, .int v), (1, .int 3), (2, .ref bt)]) FX.1 FX.2.1 dJ6_getChars_ba4f3_1 hl (by decide) rfl (fun ls hl => ?_)
  refine lv_iload_n FX.1 FX.2.1 dJ6_getChars_ba4f3_3 rfl (lv_at hl 1 rfl) ?_
  refine lv_if_ge (tgt := 11) FX.1 FX.2.1 dJ6_getChars_ba4f3_4 (by decide) (fun c_1 => ?_) (fun c_1 => ?_)
  · refine lv_iconst (v := 0) FX.1 FX.2.1 dJ6_getChars_ba4f3_11 (by decide) ?_
    refine lv_istore (lv' := [(6, .int 0), (5, .int 3), (0, .int v), (1, .int 3), (2, .ref bt)]) FX.1 FX.2.1 dJ6_getChars_ba4f3_12 hl (by decide) rfl (fun ls hl => ?_)
    refine lv_iload FX.1 FX.2.1 dJ6_getChars_ba4f3_14 (lv_at hl 0 rfl) ?_
    refine lv_if_ne (tgt := 22) FX.1 FX.2.1 dJ6_getChars_ba4f3_16 (by decide) (fun c_2 => ?_) (fun c_2 => ?_)
    · exact absurd c_2 (by decide)
    · refine lv_iload_n FX.1 FX.2.1 dJ6_getChars_ba4f3_19 rfl (lv_at hl 2 rfl) ?_
      refine lv_ineg FX.1 FX.2.1 dJ6_getChars_ba4f3_20 ?_
      refine lv_istore_n (lv' := [(0, .int (-v)), (6, .int 0), (5, .int 3), (1, .int 3), (2, .ref bt)]) FX.1 FX.2.1 dJ6_getChars_ba4f3_21 rfl hl (by decide) rfl (fun ls hl => ?_)
      refine lv_iload_n FX.1 FX.2.1 dJ6_getChars_ba4f3_22 rfl (lv_at hl 0 rfl) ?_
      refine lv_bipush (v := (-100)) FX.1 FX.2.1 dJ6_getChars_ba4f3_23 (by decide) ?_
      refine lv_icmp_gt (tgt := 72) FX.1 FX.2.1 dJ6_getChars_ba4f3_25 (by decide) (fun c_3 => ?_) (fun c_3 => ?_)
      · exact absurd c_3 (dg_lo (kd_p hk (by decide)).1 (by decide))
      · refine lv_iload_n FX.1 FX.2.1 dJ6_getChars_ba4f3_28 rfl (lv_at hl 0 rfl) ?_
        refine lv_bipush (v := 100) FX.1 FX.2.1 dJ6_getChars_ba4f3_29 (by decide) ?_
        refine lv_idiv FX.1 FX.2.1 dJ6_getChars_ba4f3_31 (by decide) ?_
        refine lv_istore_n (lv' := [(3, .int ((-v) / 100)), (0, .int (-v)), (6, .int 0), (5, .int 3), (1, .int 3), (2, .ref bt)]) FX.1 FX.2.1 dJ6_getChars_ba4f3_32 rfl hl (by decide) rfl (fun ls hl => ?_)
        refine lv_iload_n FX.1 FX.2.1 dJ6_getChars_ba4f3_33 rfl (lv_at hl 0 rfl) ?_
        refine lv_bipush (v := 100) FX.1 FX.2.1 dJ6_getChars_ba4f3_34 (by decide) ?_
        refine lv_imul FX.1 FX.2.1 dJ6_getChars_ba4f3_36 ?_
        refine lv_iload_n FX.1 FX.2.1 dJ6_getChars_ba4f3_37 rfl (lv_at hl 1 rfl) ?_
        refine lv_isub FX.1 FX.2.1 dJ6_getChars_ba4f3_38 ?_
        refine lv_istore (lv' := [(4, .int ((((-v) / 100) * 100) - (-v))), (3, .int ((-v) / 100)), (0, .int (-v)), (6, .int 0), (5, .int 3), (1, .int 3), (2, .ref bt)]) FX.1 FX.2.1 dJ6_getChars_ba4f3_39 hl (by decide) rfl (fun ls hl => ?_)
        refine lv_iload_n FX.1 FX.2.1 dJ6_getChars_ba4f3_41 rfl (lv_at hl 1 rfl) ?_
        refine lv_istore_n (lv' := [(0, .int ((-v) / 100)), (4, .int ((((-v) / 100) * 100) - (-v))), (3, .int ((-v) / 100)), (6, .int 0), (5, .int 3), (1, .int 3), (2, .ref bt)]) FX.1 FX.2.1 dJ6_getChars_ba4f3_42 rfl hl (by decide) rfl (fun ls hl => ?_)
        refine lv_aload_n FX.1 FX.2.1 dJ6_getChars_ba4f3_43 rfl (lv_at hl 6 rfl) ?_
        refine lv_iinc (v := 2) (lv' := [(5, .int 2), (0, .int ((-v) / 100)), (4, .int ((((-v) / 100) * 100) - (-v))), (3, .int ((-v) / 100)), (6, .int 0), (1, .int 3), (2, .ref bt)]) FX.1 FX.2.1 dJ6_getChars_ba4f3_44 hl (k := 4) rfl (by decide) (by decide) rfl (fun ls hl => ?_)
        refine lv_iload FX.1 FX.2.1 dJ6_getChars_ba4f3_47 (lv_at hl 0 rfl) ?_
        refine va_gets FX.1 FX.2.1 hz.1.1 hS FX.2.2.2.1 (FX.2.2.2.2 _ fl_RJ6_83) (fun _ h9 => h9) dJ6_getChars_ba4f3_49 ?_
        refine lv_iload FX.1 FX.2.1 dJ6_getChars_ba4f3_52 (lv_at hl 2 rfl) ?_
        refine va_tb FX.1 FX.2.1 hz.1.2 hS (dg_r (kd_p hk (by decide)).1) (v := .int (go ((((-v) / 100) * 100) - (-v)).toNatClampNeg)) rfl dJ6_getChars_ba4f3_54 ?_
        refine p_bast (wsN := [(bt, .inl (cB, 16, .inl (upd bs (2) (vp_nar (FieldType.byte) (go ((((-v) / 100) * 100) - (-v)).toNatClampNeg)))))]) FX hK hP hD hS 0 rfl (vp_in_iff.mpr ⟨by decide, by decide⟩) dJ6_getChars_ba4f3_55 rfl (fun H locs hP hD hS => ?_)
        refine lv_aload_n FX.1 FX.2.1 dJ6_getChars_ba4f3_56 rfl (lv_at hl 6 rfl) ?_
        refine lv_iinc (v := 1) (lv' := [(5, .int 1), (0, .int ((-v) / 100)), (4, .int ((((-v) / 100) * 100) - (-v))), (3, .int ((-v) / 100)), (6, .int 0), (1, .int 3), (2, .ref bt)]) FX.1 FX.2.1 dJ6_getChars_ba4f3_57 hl (k := 0) rfl (by decide) (by decide) rfl (fun ls hl => ?_)
        refine lv_iload FX.1 FX.2.1 dJ6_getChars_ba4f3_60 (lv_at hl 0 rfl) ?_
        refine va_gets FX.1 FX.2.1 hz.2.1 hS FX.2.2.2.1 (FX.2.2.2.2 _ fl_RJ6_87) (fun _ h9 => h9) dJ6_getChars_ba4f3_62 ?_
        refine lv_iload FX.1 FX.2.1 dJ6_getChars_ba4f3_65 (lv_at hl 2 rfl) ?_
        refine va_tb FX.1 FX.2.1 hz.2.2 hS (dg_r (kd_p hk (by decide)).1) (v := .int (gt ((((-v) / 100) * 100) - (-v)).toNatClampNeg)) rfl dJ6_getChars_ba4f3_67 ?_
        refine p_bast (wsN := [(bt, .inl (cB, 16, .inl (upd (upd bs (2) (vp_nar (FieldType.byte) (go ((((-v) / 100) * 100) - (-v)).toNatClampNeg))) (1) (vp_nar (FieldType.byte) (gt ((((-v) / 100) * 100) - (-v)).toNatClampNeg)))))]) FX hK hP hD hS 0 rfl (vp_in_iff.mpr ⟨by decide, by decide⟩) dJ6_getChars_ba4f3_68 rfl (fun H locs hP hD hS => ?_)
        refine lv_goto (tgt := 22) FX.1 FX.2.1 dJ6_getChars_ba4f3_69 (by decide) ?_
        refine lv_iload_n FX.1 FX.2.1 dJ6_getChars_ba4f3_22 rfl (lv_at hl 1 rfl) ?_
        refine lv_bipush (v := (-100)) FX.1 FX.2.1 dJ6_getChars_ba4f3_23 (by decide) ?_
        refine lv_icmp_gt (tgt := 72) FX.1 FX.2.1 dJ6_getChars_ba4f3_25 (by decide) (fun c_4 => ?_) (fun c_4 => ?_)
        · refine lv_aload_n FX.1 FX.2.1 dJ6_getChars_ba4f3_72 rfl (lv_at hl 6 rfl) ?_
          refine lv_iinc (v := 0) (lv' := [(5, .int 0), (0, .int ((-v) / 100)), (4, .int ((((-v) / 100) * 100) - (-v))), (3, .int ((-v) / 100)), (6, .int 0), (1, .int 3), (2, .ref bt)]) FX.1 FX.2.1 dJ6_getChars_ba4f3_73 hl (k := 0) rfl (by decide) (by decide) rfl (fun ls hl => ?_)
          refine lv_iload FX.1 FX.2.1 dJ6_getChars_ba4f3_76 (lv_at hl 0 rfl) ?_
          refine va_gets FX.1 FX.2.1 hz.1.1 hS FX.2.2.2.1 (FX.2.2.2.2 _ fl_RJ6_83) (fun _ h9 => h9) dJ6_getChars_ba4f3_78 ?_
          refine lv_iload_n FX.1 FX.2.1 dJ6_getChars_ba4f3_81 rfl (lv_at hl 1 rfl) ?_
          refine lv_ineg FX.1 FX.2.1 dJ6_getChars_ba4f3_82 ?_
          refine va_tb FX.1 FX.2.1 hz.1.2 hS (dg_i (dg_q (kd_p hk (by decide)).1) (by decide)) (v := .int (go (-((-v) / 100)).toNatClampNeg)) rfl dJ6_getChars_ba4f3_83 ?_
          refine p_bast (wsN := [(bt, .inl (cB, 16, .inl (upd (upd (upd bs (2) (vp_nar (FieldType.byte) (go ((((-v) / 100) * 100) - (-v)).toNatClampNeg))) (1) (vp_nar (FieldType.byte) (gt ((((-v) / 100) * 100) - (-v)).toNatClampNeg))) (0) (vp_nar (FieldType.byte) (go (-((-v) / 100)).toNatClampNeg)))))]) FX hK hP hD hS 0 rfl (vp_in_iff.mpr ⟨by decide, by decide⟩) dJ6_getChars_ba4f3_84 rfl (fun H locs hP hD hS => ?_)
          refine lv_iload_n FX.1 FX.2.1 dJ6_getChars_ba4f3_85 rfl (lv_at hl 1 rfl) ?_
          refine lv_bipush (v := (-9)) FX.1 FX.2.1 dJ6_getChars_ba4f3_86 (by decide) ?_
          refine lv_icmp_ge (tgt := 104) FX.1 FX.2.1 dJ6_getChars_ba4f3_88 (by decide) (fun c_5 => ?_) (fun c_5 => ?_)
          · refine lv_iload FX.1 FX.2.1 dJ6_getChars_ba4f3_104 (lv_at hl 4 rfl) ?_
            refine lv_if_eq (tgt := 118) FX.1 FX.2.1 dJ6_getChars_ba4f3_106 (by decide) (fun c_6 => ?_) (fun c_6 => ?_)
            · refine lv_iload FX.1 FX.2.1 dJ6_getChars_ba4f3_118 (lv_at hl 0 rfl) ?_
              exact retJi (upd (upd (upd bs (2) (vp_nar (FieldType.byte) (go ((((-v) / 100) * 100) - (-v)).toNatClampNeg))) (1) (vp_nar (FieldType.byte) (gt ((((-v) / 100) * 100) - (-v)).toNatClampNeg))) (0) (vp_nar (FieldType.byte) (go (-((-v) / 100)).toNatClampNeg))) FX hr hlk dJ6_getChars_ba4f3_120 rfl hP hK hD hS (by decide) (by decide) rfl ⟨(sb_fitU (sb_fitU (sb_fitU hb (fitB _)) (fitB _)) (fitB _)), fun j hj => by rcases (show j = 0 ∨ j = 1 ∨ j = 2 by omega) with rfl | rfl | rfl <;> rfl⟩
            · exact absurd c_6 (by decide)
          · exact absurd (dg_9 (dg_q (kd_p hk (by decide)).1) (by decide)) c_5
        · exact absurd (dg_hi (dg_q (kd_p hk (by decide)).1) (by decide)) c_4
  · exact absurd (kd_p hk (by decide)).2 c_1
def T_B1 (v : Int32) (go gt : Nat → Int32) : Nat → Int32 := upd (upd (fun _ => 0) (1) (vp_nar (FieldType.byte) (go (-v).toNatClampNeg))) (0) (vp_nar (FieldType.byte) 45)
set_option maxRecDepth 100000 in
set_option maxHeartbeats 4000000 in
theorem j_J6_getChars_B1 (l : Launch) (D : va_G) (cI cB : ClassId) (v : Int32) (bt : Nat) (bs : Nat → Int32) (to tt : Nat) (go gt : Nat → Int32) (hk : kd true 1 9 v) (hb : sb_Fit bs) : JW (S := Nat → Int32) l yJ6_getChars_ba4f3 cJ6_getChars_ba4f3 7 (some .int) ({ frames := 0, cells := 0, slots := 0, locals := 0 } : Room) D cI cB [.int v, .int 2, .ref bt] [(bt, .inl (cB, 16, .inl bs))] (zAnd (zDg "DigitOnes" to go) (zDg "DigitTens" tt gt)) (fun u => some (.int 0)) (fun u => sb_Fit u ∧ TL 2 u (T_B1 v go gt)) (fun u => [(bt, .inl (cB, 16, .inl u))]) 0 0 := by
  refine bodyJ (by decide +kernel) (Nat.le_of_ble_eq_true rfl) (fun p e s m args below meth c ls A ZZ => ?_)
  obtain ⟨FX, hr, hlk, hK, hP, hD, hS, hA, hz, hnm, hl⟩ := ZZ
  have hl : lv_has ls 7 [(0, .int v), (1, .int 2), (2, .ref bt)] := hl
  have hP : va_P D KL [(bt, .inl (cB, 16, .inl bs))] s.heap := hP
  refine lv_iload_n FX.1 FX.2.1 dJ6_getChars_ba4f3_0 rfl (lv_at hl 1 rfl) ?_
  refine lv_istore (lv' := [(5, .int 2), (0, .int v), (1, .int 2), (2, .ref bt)]) FX.1 FX.2.1 dJ6_getChars_ba4f3_1 hl (by decide) rfl (fun ls hl => ?_)
  refine lv_iload_n FX.1 FX.2.1 dJ6_getChars_ba4f3_3 rfl (lv_at hl 1 rfl) ?_
  refine lv_if_ge (tgt := 11) FX.1 FX.2.1 dJ6_getChars_ba4f3_4 (by decide) (fun c_1 => ?_) (fun c_1 => ?_)
  · exact absurd c_1 (kd_n hk).2
  · refine lv_iconst (v := 1) FX.1 FX.2.1 dJ6_getChars_ba4f3_7 (by decide) ?_
    refine lv_goto (tgt := 12) FX.1 FX.2.1 dJ6_getChars_ba4f3_8 (by decide) ?_
    refine lv_istore (lv' := [(6, .int 1), (5, .int 2), (0, .int v), (1, .int 2), (2, .ref bt)]) FX.1 FX.2.1 dJ6_getChars_ba4f3_12 hl (by decide) rfl (fun ls hl => ?_)
    refine lv_iload FX.1 FX.2.1 dJ6_getChars_ba4f3_14 (lv_at hl 0 rfl) ?_
    refine lv_if_ne (tgt := 22) FX.1 FX.2.1 dJ6_getChars_ba4f3_16 (by decide) (fun c_2 => ?_) (fun c_2 => ?_)
    · refine lv_iload_n FX.1 FX.2.1 dJ6_getChars_ba4f3_22 rfl (lv_at hl 2 rfl) ?_
      refine lv_bipush (v := (-100)) FX.1 FX.2.1 dJ6_getChars_ba4f3_23 (by decide) ?_
      refine lv_icmp_gt (tgt := 72) FX.1 FX.2.1 dJ6_getChars_ba4f3_25 (by decide) (fun c_3 => ?_) (fun c_3 => ?_)
      · refine lv_aload_n FX.1 FX.2.1 dJ6_getChars_ba4f3_72 rfl (lv_at hl 4 rfl) ?_
        refine lv_iinc (v := 1) (lv' := [(5, .int 1), (6, .int 1), (0, .int v), (1, .int 2), (2, .ref bt)]) FX.1 FX.2.1 dJ6_getChars_ba4f3_73 hl (k := 1) rfl (by decide) (by decide) rfl (fun ls hl => ?_)
        refine lv_iload FX.1 FX.2.1 dJ6_getChars_ba4f3_76 (lv_at hl 0 rfl) ?_
        refine va_gets FX.1 FX.2.1 hz.1.1 hS FX.2.2.2.1 (FX.2.2.2.2 _ fl_RJ6_83) (fun _ h9 => h9) dJ6_getChars_ba4f3_78 ?_
        refine lv_iload_n FX.1 FX.2.1 dJ6_getChars_ba4f3_81 rfl (lv_at hl 2 rfl) ?_
        refine lv_ineg FX.1 FX.2.1 dJ6_getChars_ba4f3_82 ?_
        refine va_tb FX.1 FX.2.1 hz.1.2 hS (dg_i (kd_n hk).1 (by decide)) (v := .int (go (-v).toNatClampNeg)) rfl dJ6_getChars_ba4f3_83 ?_
        refine p_bast (wsN := [(bt, .inl (cB, 16, .inl (upd bs (1) (vp_nar (FieldType.byte) (go (-v).toNatClampNeg)))))]) FX hK hP hD hS 0 rfl (vp_in_iff.mpr ⟨by decide, by decide⟩) dJ6_getChars_ba4f3_84 rfl (fun H locs hP hD hS => ?_)
        refine lv_iload_n FX.1 FX.2.1 dJ6_getChars_ba4f3_85 rfl (lv_at hl 2 rfl) ?_
        refine lv_bipush (v := (-9)) FX.1 FX.2.1 dJ6_getChars_ba4f3_86 (by decide) ?_
        refine lv_icmp_ge (tgt := 104) FX.1 FX.2.1 dJ6_getChars_ba4f3_88 (by decide) (fun c_4 => ?_) (fun c_4 => ?_)
        · refine lv_iload FX.1 FX.2.1 dJ6_getChars_ba4f3_104 (lv_at hl 1 rfl) ?_
          refine lv_if_eq (tgt := 118) FX.1 FX.2.1 dJ6_getChars_ba4f3_106 (by decide) (fun c_5 => ?_) (fun c_5 => ?_)
          · exact absurd c_5 (by decide)
          · refine lv_aload_n FX.1 FX.2.1 dJ6_getChars_ba4f3_109 rfl (lv_at hl 4 rfl) ?_
            refine lv_iinc (v := 0) (lv' := [(5, .int 0), (6, .int 1), (0, .int v), (1, .int 2), (2, .ref bt)]) FX.1 FX.2.1 dJ6_getChars_ba4f3_110 hl (k := 0) rfl (by decide) (by decide) rfl (fun ls hl => ?_)
            refine lv_iload FX.1 FX.2.1 dJ6_getChars_ba4f3_113 (lv_at hl 0 rfl) ?_
            refine lv_bipush (v := 45) FX.1 FX.2.1 dJ6_getChars_ba4f3_115 (by decide) ?_
            refine p_bast (wsN := [(bt, .inl (cB, 16, .inl (upd (upd bs (1) (vp_nar (FieldType.byte) (go (-v).toNatClampNeg))) (0) (vp_nar (FieldType.byte) 45))))]) FX hK hP hD hS 0 rfl (vp_in_iff.mpr ⟨by decide, by decide⟩) dJ6_getChars_ba4f3_117 rfl (fun H locs hP hD hS => ?_)
            refine lv_iload FX.1 FX.2.1 dJ6_getChars_ba4f3_118 (lv_at hl 0 rfl) ?_
            exact retJi (upd (upd bs (1) (vp_nar (FieldType.byte) (go (-v).toNatClampNeg))) (0) (vp_nar (FieldType.byte) 45)) FX hr hlk dJ6_getChars_ba4f3_120 rfl hP hK hD hS (by decide) (by decide) rfl ⟨(sb_fitU (sb_fitU hb (fitB _)) (fitB _)), fun j hj => by rcases (show j = 0 ∨ j = 1 by omega) with rfl | rfl <;> rfl⟩
        · exact absurd (dg_9 (kd_n hk).1 (by decide)) c_4
      · exact absurd (dg_hi (kd_n hk).1 (by decide)) c_3
    · exact absurd c_2 (by decide)
def T_B2 (v : Int32) (go gt : Nat → Int32) : Nat → Int32 := upd (upd (upd (fun _ => 0) (2) (vp_nar (FieldType.byte) (go (-v).toNatClampNeg))) (1) (vp_nar (FieldType.byte) (gt (-v).toNatClampNeg))) (0) (vp_nar (FieldType.byte) 45)
set_option maxRecDepth 100000 in
set_option maxHeartbeats 4000000 in
theorem j_J6_getChars_B2 (l : Launch) (D : va_G) (cI cB : ClassId) (v : Int32) (bt : Nat) (bs : Nat → Int32) (to tt : Nat) (go gt : Nat → Int32) (hk : kd true 10 99 v) (hb : sb_Fit bs) : JW (S := Nat → Int32) l yJ6_getChars_ba4f3 cJ6_getChars_ba4f3 7 (some .int) ({ frames := 0, cells := 0, slots := 0, locals := 0 } : Room) D cI cB [.int v, .int 3, .ref bt] [(bt, .inl (cB, 16, .inl bs))] (zAnd (zDg "DigitOnes" to go) (zDg "DigitTens" tt gt)) (fun u => some (.int 0)) (fun u => sb_Fit u ∧ TL 3 u (T_B2 v go gt)) (fun u => [(bt, .inl (cB, 16, .inl u))]) 0 0 := by
  refine bodyJ (by decide +kernel) (Nat.le_of_ble_eq_true rfl) (fun p e s m args below meth c ls A ZZ => ?_)
  obtain ⟨FX, hr, hlk, hK, hP, hD, hS, hA, hz, hnm, hl⟩ := ZZ
  have hl : lv_has ls 7 [(0, .int v), (1, .int 3), (2, .ref bt)] := hl
  have hP : va_P D KL [(bt, .inl (cB, 16, .inl bs))] s.heap := hP
  refine lv_iload_n FX.1 FX.2.1 dJ6_getChars_ba4f3_0 rfl (lv_at hl 1 rfl) ?_
  refine lv_istore (lv' := [(5, .int 3), (0, .int v), (1, .int 3), (2, .ref bt)]) FX.1 FX.2.1 dJ6_getChars_ba4f3_1 hl (by decide) rfl (fun ls hl => ?_)
  refine lv_iload_n FX.1 FX.2.1 dJ6_getChars_ba4f3_3 rfl (lv_at hl 1 rfl) ?_
  refine lv_if_ge (tgt := 11) FX.1 FX.2.1 dJ6_getChars_ba4f3_4 (by decide) (fun c_1 => ?_) (fun c_1 => ?_)
  · exact absurd c_1 (kd_n hk).2
  · refine lv_iconst (v := 1) FX.1 FX.2.1 dJ6_getChars_ba4f3_7 (by decide) ?_
    refine lv_goto (tgt := 12) FX.1 FX.2.1 dJ6_getChars_ba4f3_8 (by decide) ?_
    refine lv_istore (lv' := [(6, .int 1), (5, .int 3), (0, .int v), (1, .int 3), (2, .ref bt)]) FX.1 FX.2.1 dJ6_getChars_ba4f3_12 hl (by decide) rfl (fun ls hl => ?_)
    refine lv_iload FX.1 FX.2.1 dJ6_getChars_ba4f3_14 (lv_at hl 0 rfl) ?_
    refine lv_if_ne (tgt := 22) FX.1 FX.2.1 dJ6_getChars_ba4f3_16 (by decide) (fun c_2 => ?_) (fun c_2 => ?_)
    · refine lv_iload_n FX.1 FX.2.1 dJ6_getChars_ba4f3_22 rfl (lv_at hl 2 rfl) ?_
      refine lv_bipush (v := (-100)) FX.1 FX.2.1 dJ6_getChars_ba4f3_23 (by decide) ?_
      refine lv_icmp_gt (tgt := 72) FX.1 FX.2.1 dJ6_getChars_ba4f3_25 (by decide) (fun c_3 => ?_) (fun c_3 => ?_)
      · refine lv_aload_n FX.1 FX.2.1 dJ6_getChars_ba4f3_72 rfl (lv_at hl 4 rfl) ?_
        refine lv_iinc (v := 2) (lv' := [(5, .int 2), (6, .int 1), (0, .int v), (1, .int 3), (2, .ref bt)]) FX.1 FX.2.1 dJ6_getChars_ba4f3_73 hl (k := 1) rfl (by decide) (by decide) rfl (fun ls hl => ?_)
        refine lv_iload FX.1 FX.2.1 dJ6_getChars_ba4f3_76 (lv_at hl 0 rfl) ?_
        refine va_gets FX.1 FX.2.1 hz.1.1 hS FX.2.2.2.1 (FX.2.2.2.2 _ fl_RJ6_83) (fun _ h9 => h9) dJ6_getChars_ba4f3_78 ?_
        refine lv_iload_n FX.1 FX.2.1 dJ6_getChars_ba4f3_81 rfl (lv_at hl 2 rfl) ?_
        refine lv_ineg FX.1 FX.2.1 dJ6_getChars_ba4f3_82 ?_
        refine va_tb FX.1 FX.2.1 hz.1.2 hS (dg_i (kd_n hk).1 (by decide)) (v := .int (go (-v).toNatClampNeg)) rfl dJ6_getChars_ba4f3_83 ?_
        refine p_bast (wsN := [(bt, .inl (cB, 16, .inl (upd bs (2) (vp_nar (FieldType.byte) (go (-v).toNatClampNeg)))))]) FX hK hP hD hS 0 rfl (vp_in_iff.mpr ⟨by decide, by decide⟩) dJ6_getChars_ba4f3_84 rfl (fun H locs hP hD hS => ?_)
        refine lv_iload_n FX.1 FX.2.1 dJ6_getChars_ba4f3_85 rfl (lv_at hl 2 rfl) ?_
        refine lv_bipush (v := (-9)) FX.1 FX.2.1 dJ6_getChars_ba4f3_86 (by decide) ?_
        refine lv_icmp_ge (tgt := 104) FX.1 FX.2.1 dJ6_getChars_ba4f3_88 (by decide) (fun c_4 => ?_) (fun c_4 => ?_)
        · exact absurd c_4 (dg_n9 (kd_n hk).1 (by decide))
        · refine lv_aload_n FX.1 FX.2.1 dJ6_getChars_ba4f3_91 rfl (lv_at hl 4 rfl) ?_
          refine lv_iinc (v := 1) (lv' := [(5, .int 1), (6, .int 1), (0, .int v), (1, .int 3), (2, .ref bt)]) FX.1 FX.2.1 dJ6_getChars_ba4f3_92 hl (k := 0) rfl (by decide) (by decide) rfl (fun ls hl => ?_)
          refine lv_iload FX.1 FX.2.1 dJ6_getChars_ba4f3_95 (lv_at hl 0 rfl) ?_
          refine va_gets FX.1 FX.2.1 hz.2.1 hS FX.2.2.2.1 (FX.2.2.2.2 _ fl_RJ6_87) (fun _ h9 => h9) dJ6_getChars_ba4f3_97 ?_
          refine lv_iload_n FX.1 FX.2.1 dJ6_getChars_ba4f3_100 rfl (lv_at hl 2 rfl) ?_
          refine lv_ineg FX.1 FX.2.1 dJ6_getChars_ba4f3_101 ?_
          refine va_tb FX.1 FX.2.1 hz.2.2 hS (dg_i (kd_n hk).1 (by decide)) (v := .int (gt (-v).toNatClampNeg)) rfl dJ6_getChars_ba4f3_102 ?_
          refine p_bast (wsN := [(bt, .inl (cB, 16, .inl (upd (upd bs (2) (vp_nar (FieldType.byte) (go (-v).toNatClampNeg))) (1) (vp_nar (FieldType.byte) (gt (-v).toNatClampNeg)))))]) FX hK hP hD hS 0 rfl (vp_in_iff.mpr ⟨by decide, by decide⟩) dJ6_getChars_ba4f3_103 rfl (fun H locs hP hD hS => ?_)
          refine lv_iload FX.1 FX.2.1 dJ6_getChars_ba4f3_104 (lv_at hl 1 rfl) ?_
          refine lv_if_eq (tgt := 118) FX.1 FX.2.1 dJ6_getChars_ba4f3_106 (by decide) (fun c_5 => ?_) (fun c_5 => ?_)
          · exact absurd c_5 (by decide)
          · refine lv_aload_n FX.1 FX.2.1 dJ6_getChars_ba4f3_109 rfl (lv_at hl 4 rfl) ?_
            refine lv_iinc (v := 0) (lv' := [(5, .int 0), (6, .int 1), (0, .int v), (1, .int 3), (2, .ref bt)]) FX.1 FX.2.1 dJ6_getChars_ba4f3_110 hl (k := 0) rfl (by decide) (by decide) rfl (fun ls hl => ?_)
            refine lv_iload FX.1 FX.2.1 dJ6_getChars_ba4f3_113 (lv_at hl 0 rfl) ?_
            refine lv_bipush (v := 45) FX.1 FX.2.1 dJ6_getChars_ba4f3_115 (by decide) ?_
            refine p_bast (wsN := [(bt, .inl (cB, 16, .inl (upd (upd (upd bs (2) (vp_nar (FieldType.byte) (go (-v).toNatClampNeg))) (1) (vp_nar (FieldType.byte) (gt (-v).toNatClampNeg))) (0) (vp_nar (FieldType.byte) 45))))]) FX hK hP hD hS 0 rfl (vp_in_iff.mpr ⟨by decide, by decide⟩) dJ6_getChars_ba4f3_117 rfl (fun H locs hP hD hS => ?_)
            refine lv_iload FX.1 FX.2.1 dJ6_getChars_ba4f3_118 (lv_at hl 0 rfl) ?_
            exact retJi (upd (upd (upd bs (2) (vp_nar (FieldType.byte) (go (-v).toNatClampNeg))) (1) (vp_nar (FieldType.byte) (gt (-v).toNatClampNeg))) (0) (vp_nar (FieldType.byte) 45)) FX hr hlk dJ6_getChars_ba4f3_120 rfl hP hK hD hS (by decide) (by decide) rfl ⟨(sb_fitU (sb_fitU (sb_fitU hb (fitB _)) (fitB _)) (fitB _)), fun j hj => by rcases (show j = 0 ∨ j = 1 ∨ j = 2 by omega) with rfl | rfl | rfl <;> rfl⟩
      · exact absurd (dg_hi (kd_n hk).1 (by decide)) c_3
    · exact absurd c_2 (by decide)
def T_B3 (v : Int32) (go gt : Nat → Int32) : Nat → Int32 := upd (upd (upd (upd (fun _ => 0) (3) (vp_nar (FieldType.byte) (go (((v / 100) * 100) - v).toNatClampNeg))) (2) (vp_nar (FieldType.byte) (gt (((v / 100) * 100) - v).toNatClampNeg))) (1) (vp_nar (FieldType.byte) (go (-(v / 100)).toNatClampNeg))) (0) (vp_nar (FieldType.byte) 45)
set_option maxRecDepth 100000 in
set_option maxHeartbeats 4000000 in
theorem j_J6_getChars_B3 (l : Launch) (D : va_G) (cI cB : ClassId) (v : Int32) (bt : Nat) (bs : Nat → Int32) (to tt : Nat) (go gt : Nat → Int32) (hk : kd true 100 999 v) (hb : sb_Fit bs) : JW (S := Nat → Int32) l yJ6_getChars_ba4f3 cJ6_getChars_ba4f3 7 (some .int) ({ frames := 0, cells := 0, slots := 0, locals := 0 } : Room) D cI cB [.int v, .int 4, .ref bt] [(bt, .inl (cB, 16, .inl bs))] (zAnd (zDg "DigitOnes" to go) (zDg "DigitTens" tt gt)) (fun u => some (.int 0)) (fun u => sb_Fit u ∧ TL 4 u (T_B3 v go gt)) (fun u => [(bt, .inl (cB, 16, .inl u))]) 0 0 := by
  refine bodyJ (by decide +kernel) (Nat.le_of_ble_eq_true rfl) (fun p e s m args below meth c ls A ZZ => ?_)
  obtain ⟨FX, hr, hlk, hK, hP, hD, hS, hA, hz, hnm, hl⟩ := ZZ
  have hl : lv_has ls 7 [(0, .int v), (1, .int 4), (2, .ref bt)] := hl
  have hP : va_P D KL [(bt, .inl (cB, 16, .inl bs))] s.heap := hP
  refine lv_iload_n FX.1 FX.2.1 dJ6_getChars_ba4f3_0 rfl (lv_at hl 1 rfl) ?_
  refine lv_istore (lv' := [(5, .int 4), (0, .int v), (1, .int 4), (2, .ref bt)]) FX.1 FX.2.1 dJ6_getChars_ba4f3_1 hl (by decide) rfl (fun ls hl => ?_)
  refine lv_iload_n FX.1 FX.2.1 dJ6_getChars_ba4f3_3 rfl (lv_at hl 1 rfl) ?_
  refine lv_if_ge (tgt := 11) FX.1 FX.2.1 dJ6_getChars_ba4f3_4 (by decide) (fun c_1 => ?_) (fun c_1 => ?_)
  · exact absurd c_1 (kd_n hk).2
  · refine lv_iconst (v := 1) FX.1 FX.2.1 dJ6_getChars_ba4f3_7 (by decide) ?_
    refine lv_goto (tgt := 12) FX.1 FX.2.1 dJ6_getChars_ba4f3_8 (by decide) ?_
    refine lv_istore (lv' := [(6, .int 1), (5, .int 4), (0, .int v), (1, .int 4), (2, .ref bt)]) FX.1 FX.2.1 dJ6_getChars_ba4f3_12 hl (by decide) rfl (fun ls hl => ?_)
    refine lv_iload FX.1 FX.2.1 dJ6_getChars_ba4f3_14 (lv_at hl 0 rfl) ?_
    refine lv_if_ne (tgt := 22) FX.1 FX.2.1 dJ6_getChars_ba4f3_16 (by decide) (fun c_2 => ?_) (fun c_2 => ?_)
    · refine lv_iload_n FX.1 FX.2.1 dJ6_getChars_ba4f3_22 rfl (lv_at hl 2 rfl) ?_
      refine lv_bipush (v := (-100)) FX.1 FX.2.1 dJ6_getChars_ba4f3_23 (by decide) ?_
      refine lv_icmp_gt (tgt := 72) FX.1 FX.2.1 dJ6_getChars_ba4f3_25 (by decide) (fun c_3 => ?_) (fun c_3 => ?_)
      · exact absurd c_3 (dg_lo (kd_n hk).1 (by decide))
      · refine lv_iload_n FX.1 FX.2.1 dJ6_getChars_ba4f3_28 rfl (lv_at hl 2 rfl) ?_
        refine lv_bipush (v := 100) FX.1 FX.2.1 dJ6_getChars_ba4f3_29 (by decide) ?_
        refine lv_idiv FX.1 FX.2.1 dJ6_getChars_ba4f3_31 (by decide) ?_
        refine lv_istore_n (lv' := [(3, .int (v / 100)), (6, .int 1), (5, .int 4), (0, .int v), (1, .int 4), (2, .ref bt)]) FX.1 FX.2.1 dJ6_getChars_ba4f3_32 rfl hl (by decide) rfl (fun ls hl => ?_)
        refine lv_iload_n FX.1 FX.2.1 dJ6_getChars_ba4f3_33 rfl (lv_at hl 0 rfl) ?_
        refine lv_bipush (v := 100) FX.1 FX.2.1 dJ6_getChars_ba4f3_34 (by decide) ?_
        refine lv_imul FX.1 FX.2.1 dJ6_getChars_ba4f3_36 ?_
        refine lv_iload_n FX.1 FX.2.1 dJ6_getChars_ba4f3_37 rfl (lv_at hl 3 rfl) ?_
        refine lv_isub FX.1 FX.2.1 dJ6_getChars_ba4f3_38 ?_
        refine lv_istore (lv' := [(4, .int (((v / 100) * 100) - v)), (3, .int (v / 100)), (6, .int 1), (5, .int 4), (0, .int v), (1, .int 4), (2, .ref bt)]) FX.1 FX.2.1 dJ6_getChars_ba4f3_39 hl (by decide) rfl (fun ls hl => ?_)
        refine lv_iload_n FX.1 FX.2.1 dJ6_getChars_ba4f3_41 rfl (lv_at hl 1 rfl) ?_
        refine lv_istore_n (lv' := [(0, .int (v / 100)), (4, .int (((v / 100) * 100) - v)), (3, .int (v / 100)), (6, .int 1), (5, .int 4), (1, .int 4), (2, .ref bt)]) FX.1 FX.2.1 dJ6_getChars_ba4f3_42 rfl hl (by decide) rfl (fun ls hl => ?_)
        refine lv_aload_n FX.1 FX.2.1 dJ6_getChars_ba4f3_43 rfl (lv_at hl 6 rfl) ?_
        refine lv_iinc (v := 3) (lv' := [(5, .int 3), (0, .int (v / 100)), (4, .int (((v / 100) * 100) - v)), (3, .int (v / 100)), (6, .int 1), (1, .int 4), (2, .ref bt)]) FX.1 FX.2.1 dJ6_getChars_ba4f3_44 hl (k := 4) rfl (by decide) (by decide) rfl (fun ls hl => ?_)
        refine lv_iload FX.1 FX.2.1 dJ6_getChars_ba4f3_47 (lv_at hl 0 rfl) ?_
        refine va_gets FX.1 FX.2.1 hz.1.1 hS FX.2.2.2.1 (FX.2.2.2.2 _ fl_RJ6_83) (fun _ h9 => h9) dJ6_getChars_ba4f3_49 ?_
        refine lv_iload FX.1 FX.2.1 dJ6_getChars_ba4f3_52 (lv_at hl 2 rfl) ?_
        refine va_tb FX.1 FX.2.1 hz.1.2 hS (dg_r (kd_n hk).1) (v := .int (go (((v / 100) * 100) - v).toNatClampNeg)) rfl dJ6_getChars_ba4f3_54 ?_
        refine p_bast (wsN := [(bt, .inl (cB, 16, .inl (upd bs (3) (vp_nar (FieldType.byte) (go (((v / 100) * 100) - v).toNatClampNeg)))))]) FX hK hP hD hS 0 rfl (vp_in_iff.mpr ⟨by decide, by decide⟩) dJ6_getChars_ba4f3_55 rfl (fun H locs hP hD hS => ?_)
        refine lv_aload_n FX.1 FX.2.1 dJ6_getChars_ba4f3_56 rfl (lv_at hl 6 rfl) ?_
        refine lv_iinc (v := 2) (lv' := [(5, .int 2), (0, .int (v / 100)), (4, .int (((v / 100) * 100) - v)), (3, .int (v / 100)), (6, .int 1), (1, .int 4), (2, .ref bt)]) FX.1 FX.2.1 dJ6_getChars_ba4f3_57 hl (k := 0) rfl (by decide) (by decide) rfl (fun ls hl => ?_)
        refine lv_iload FX.1 FX.2.1 dJ6_getChars_ba4f3_60 (lv_at hl 0 rfl) ?_
        refine va_gets FX.1 FX.2.1 hz.2.1 hS FX.2.2.2.1 (FX.2.2.2.2 _ fl_RJ6_87) (fun _ h9 => h9) dJ6_getChars_ba4f3_62 ?_
        refine lv_iload FX.1 FX.2.1 dJ6_getChars_ba4f3_65 (lv_at hl 2 rfl) ?_
        refine va_tb FX.1 FX.2.1 hz.2.2 hS (dg_r (kd_n hk).1) (v := .int (gt (((v / 100) * 100) - v).toNatClampNeg)) rfl dJ6_getChars_ba4f3_67 ?_
        refine p_bast (wsN := [(bt, .inl (cB, 16, .inl (upd (upd bs (3) (vp_nar (FieldType.byte) (go (((v / 100) * 100) - v).toNatClampNeg))) (2) (vp_nar (FieldType.byte) (gt (((v / 100) * 100) - v).toNatClampNeg)))))]) FX hK hP hD hS 0 rfl (vp_in_iff.mpr ⟨by decide, by decide⟩) dJ6_getChars_ba4f3_68 rfl (fun H locs hP hD hS => ?_)
        refine lv_goto (tgt := 22) FX.1 FX.2.1 dJ6_getChars_ba4f3_69 (by decide) ?_
        refine lv_iload_n FX.1 FX.2.1 dJ6_getChars_ba4f3_22 rfl (lv_at hl 1 rfl) ?_
        refine lv_bipush (v := (-100)) FX.1 FX.2.1 dJ6_getChars_ba4f3_23 (by decide) ?_
        refine lv_icmp_gt (tgt := 72) FX.1 FX.2.1 dJ6_getChars_ba4f3_25 (by decide) (fun c_4 => ?_) (fun c_4 => ?_)
        · refine lv_aload_n FX.1 FX.2.1 dJ6_getChars_ba4f3_72 rfl (lv_at hl 6 rfl) ?_
          refine lv_iinc (v := 1) (lv' := [(5, .int 1), (0, .int (v / 100)), (4, .int (((v / 100) * 100) - v)), (3, .int (v / 100)), (6, .int 1), (1, .int 4), (2, .ref bt)]) FX.1 FX.2.1 dJ6_getChars_ba4f3_73 hl (k := 0) rfl (by decide) (by decide) rfl (fun ls hl => ?_)
          refine lv_iload FX.1 FX.2.1 dJ6_getChars_ba4f3_76 (lv_at hl 0 rfl) ?_
          refine va_gets FX.1 FX.2.1 hz.1.1 hS FX.2.2.2.1 (FX.2.2.2.2 _ fl_RJ6_83) (fun _ h9 => h9) dJ6_getChars_ba4f3_78 ?_
          refine lv_iload_n FX.1 FX.2.1 dJ6_getChars_ba4f3_81 rfl (lv_at hl 1 rfl) ?_
          refine lv_ineg FX.1 FX.2.1 dJ6_getChars_ba4f3_82 ?_
          refine va_tb FX.1 FX.2.1 hz.1.2 hS (dg_i (dg_q (kd_n hk).1) (by decide)) (v := .int (go (-(v / 100)).toNatClampNeg)) rfl dJ6_getChars_ba4f3_83 ?_
          refine p_bast (wsN := [(bt, .inl (cB, 16, .inl (upd (upd (upd bs (3) (vp_nar (FieldType.byte) (go (((v / 100) * 100) - v).toNatClampNeg))) (2) (vp_nar (FieldType.byte) (gt (((v / 100) * 100) - v).toNatClampNeg))) (1) (vp_nar (FieldType.byte) (go (-(v / 100)).toNatClampNeg)))))]) FX hK hP hD hS 0 rfl (vp_in_iff.mpr ⟨by decide, by decide⟩) dJ6_getChars_ba4f3_84 rfl (fun H locs hP hD hS => ?_)
          refine lv_iload_n FX.1 FX.2.1 dJ6_getChars_ba4f3_85 rfl (lv_at hl 1 rfl) ?_
          refine lv_bipush (v := (-9)) FX.1 FX.2.1 dJ6_getChars_ba4f3_86 (by decide) ?_
          refine lv_icmp_ge (tgt := 104) FX.1 FX.2.1 dJ6_getChars_ba4f3_88 (by decide) (fun c_5 => ?_) (fun c_5 => ?_)
          · refine lv_iload FX.1 FX.2.1 dJ6_getChars_ba4f3_104 (lv_at hl 4 rfl) ?_
            refine lv_if_eq (tgt := 118) FX.1 FX.2.1 dJ6_getChars_ba4f3_106 (by decide) (fun c_6 => ?_) (fun c_6 => ?_)
            · exact absurd c_6 (by decide)
            · refine lv_aload_n FX.1 FX.2.1 dJ6_getChars_ba4f3_109 rfl (lv_at hl 6 rfl) ?_
              refine lv_iinc (v := 0) (lv' := [(5, .int 0), (0, .int (v / 100)), (4, .int (((v / 100) * 100) - v)), (3, .int (v / 100)), (6, .int 1), (1, .int 4), (2, .ref bt)]) FX.1 FX.2.1 dJ6_getChars_ba4f3_110 hl (k := 0) rfl (by decide) (by decide) rfl (fun ls hl => ?_)
              refine lv_iload FX.1 FX.2.1 dJ6_getChars_ba4f3_113 (lv_at hl 0 rfl) ?_
              refine lv_bipush (v := 45) FX.1 FX.2.1 dJ6_getChars_ba4f3_115 (by decide) ?_
              refine p_bast (wsN := [(bt, .inl (cB, 16, .inl (upd (upd (upd (upd bs (3) (vp_nar (FieldType.byte) (go (((v / 100) * 100) - v).toNatClampNeg))) (2) (vp_nar (FieldType.byte) (gt (((v / 100) * 100) - v).toNatClampNeg))) (1) (vp_nar (FieldType.byte) (go (-(v / 100)).toNatClampNeg))) (0) (vp_nar (FieldType.byte) 45))))]) FX hK hP hD hS 0 rfl (vp_in_iff.mpr ⟨by decide, by decide⟩) dJ6_getChars_ba4f3_117 rfl (fun H locs hP hD hS => ?_)
              refine lv_iload FX.1 FX.2.1 dJ6_getChars_ba4f3_118 (lv_at hl 0 rfl) ?_
              exact retJi (upd (upd (upd (upd bs (3) (vp_nar (FieldType.byte) (go (((v / 100) * 100) - v).toNatClampNeg))) (2) (vp_nar (FieldType.byte) (gt (((v / 100) * 100) - v).toNatClampNeg))) (1) (vp_nar (FieldType.byte) (go (-(v / 100)).toNatClampNeg))) (0) (vp_nar (FieldType.byte) 45)) FX hr hlk dJ6_getChars_ba4f3_120 rfl hP hK hD hS (by decide) (by decide) rfl ⟨(sb_fitU (sb_fitU (sb_fitU (sb_fitU hb (fitB _)) (fitB _)) (fitB _)) (fitB _)), fun j hj => by rcases (show j = 0 ∨ j = 1 ∨ j = 2 ∨ j = 3 by omega) with rfl | rfl | rfl | rfl <;> rfl⟩
          · exact absurd (dg_9 (dg_q (kd_n hk).1) (by decide)) c_5
        · exact absurd (dg_hi (dg_q (kd_n hk).1) (by decide)) c_4
    · exact absurd c_2 (by decide)

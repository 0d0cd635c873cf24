set_option maxRecDepth 20000 in
theorem ml_RX0_182 : Cond.methodLink RX0 182 yX0_naturalOrNothing ∈ bigW := bt1 123 rfl rfl
set_option maxRecDepth 20000 in
theorem mi_X0_naturalOrNothing : MIs yX0_naturalOrNothing cX0_naturalOrNothing 1 (some .int) 1 := ⟨⟨bt1 125 rfl rfl, bt1 1 rfl rfl, by decide, by decide, by decide +kernel⟩, bt1 124 rfl rfl⟩
set_option maxRecDepth 20000 in
theorem fl_RX0_9 : Cond.fieldLink RX0 9 "Maybehall" "boxes" "[I" ∈ bigW := bt1 65 rfl rfl
set_option maxRecDepth 20000 in
theorem ml_RX0_185 : Cond.methodLink RX0 185 yJ9_floorMod_7cf53 ∈ bigW := bt1 126 rfl rfl
set_option maxRecDepth 20000 in
theorem mi_J9_floorMod_7cf53 : MIs yJ9_floorMod_7cf53 cJ9_floorMod_7cf53 3 (some .int) 2 := ⟨⟨bt1 128 rfl rfl, bt1 13 rfl rfl, by decide, by decide, by decide +kernel⟩, bt1 127 rfl rfl⟩
set_option maxRecDepth 20000 in
theorem ml_RX0_191 : Cond.methodLink RX0 191 yX0_turnMakes ∈ bigW := bt1 119 rfl rfl
set_option maxRecDepth 20000 in
theorem mi_X0_turnMakes : MIv RX0 yX0_turnMakes cX0_turnMakes 4 (some .int) 3 := ⟨⟨bt1 122 rfl rfl, bt1 1 rfl rfl, by decide, by decide, by decide +kernel⟩, bt1 121 rfl rfl, bt0 2 rfl rfl⟩
set_option maxRecDepth 20000 in
theorem ml_RX0_46 : Cond.methodLink RX0 46 yX0_turned ∈ bigW := bt1 115 rfl rfl
set_option maxRecDepth 20000 in
theorem mi_X0_turned : MIv RX0 yX0_turned cX0_turned 4 (some .int) 3 := ⟨⟨bt1 118 rfl rfl, bt1 1 rfl rfl, by decide, by decide, by decide +kernel⟩, bt1 117 rfl rfl, bt0 1 rfl rfl⟩
set_option maxRecDepth 20000 in
theorem fl_RX0_38 : Cond.fieldLink RX0 38 "Maybehall" "asked" "I" ∈ bigW := bt1 68 rfl rfl
set_option maxRecDepth 20000 in
theorem fl_RX0_118 : Cond.fieldLink RX0 118 "Maybehall" "got" "I" ∈ bigW := bt1 70 rfl rfl
set_option maxRecDepth 20000 in
theorem fl_RX0_62 : Cond.fieldLink RX0 62 "Maybehall" "sum" "I" ∈ bigW := bt1 69 rfl rfl
set_option maxRecDepth 20000 in
theorem fl_RX0_121 : Cond.fieldLink RX0 121 "Maybehall" "refused" "I" ∈ bigW := bt1 72 rfl rfl
set_option maxRecDepth 20000 in
theorem ml_RX0_23 : Cond.methodLink RX0 23 yX0_needBox ∈ bigW := bt1 181 rfl rfl
set_option maxRecDepth 20000 in
theorem mi_X0_needBox : MIs yX0_needBox cX0_needBox 1 none 1 := ⟨⟨bt1 183 rfl rfl, bt1 1 rfl rfl, by decide, by decide, by decide +kernel⟩, bt1 182 rfl rfl⟩
set_option maxRecDepth 20000 in
theorem ml_RX0_27 : Cond.methodLink RX0 27 yX0_needNumber ∈ bigW := bt3 142 rfl rfl
set_option maxRecDepth 20000 in
theorem mi_X0_needNumber : MIs yX0_needNumber cX0_needNumber 1 none 1 := ⟨⟨bt3 144 rfl rfl, bt1 1 rfl rfl, by decide, by decide, by decide +kernel⟩, bt3 143 rfl rfl⟩
set_option maxRecDepth 20000 in
theorem ml_RX0_30 : Cond.methodLink RX0 30 yX0_fullness ∈ bigW := bt2 58 rfl rfl
set_option maxRecDepth 20000 in
theorem mi_X0_fullness : MIs yX0_fullness cX0_fullness 1 (some .int) 1 := ⟨⟨bt2 60 rfl rfl, bt1 1 rfl rfl, by decide, by decide, by decide +kernel⟩, bt2 59 rfl rfl⟩
set_option maxRecDepth 20000 in
theorem ml_RX0_34 : Cond.methodLink RX0 34 yX0_needKind ∈ bigW := bt2 21 rfl rfl
set_option maxRecDepth 20000 in
theorem mi_X0_needKind : MIs yX0_needKind cX0_needKind 2 none 2 := ⟨⟨bt2 23 rfl rfl, bt1 1 rfl rfl, by decide, by decide, by decide +kernel⟩, bt2 22 rfl rfl⟩
set_option maxRecDepth 20000 in
theorem ml_RX0_42 : Cond.methodLink RX0 42 yX0_mapped ∈ bigW := bt1 140 rfl rfl
set_option maxRecDepth 20000 in
theorem mi_X0_mapped : MIs yX0_mapped cX0_mapped 3 (some .int) 3 := ⟨⟨bt1 142 rfl rfl, bt1 1 rfl rfl, by decide, by decide, by decide +kernel⟩, bt1 141 rfl rfl⟩
set_option maxRecDepth 20000 in
theorem ml_RX0_49 : Cond.methodLink RX0 49 yX0_filtered ∈ bigW := bt1 158 rfl rfl
set_option maxRecDepth 20000 in
theorem mi_X0_filtered : MIs yX0_filtered cX0_filtered 3 (some .int) 3 := ⟨⟨bt1 160 rfl rfl, bt1 1 rfl rfl, by decide, by decide, by decide +kernel⟩, bt1 159 rfl rfl⟩
set_option maxRecDepth 20000 in
theorem ml_RX0_56 : Cond.methodLink RX0 56 yX0_rewrapped ∈ bigW := bt1 170 rfl rfl
set_option maxRecDepth 20000 in
theorem mi_X0_rewrapped : MIs yX0_rewrapped cX0_rewrapped 1 (some .int) 1 := ⟨⟨bt1 172 rfl rfl, bt1 1 rfl rfl, by decide, by decide, by decide +kernel⟩, bt1 171 rfl rfl⟩
set_option maxRecDepth 20000 in
theorem ml_RX0_59 : Cond.methodLink RX0 59 yX0_giveToTaker ∈ bigW := bt3 216 rfl rfl
set_option maxRecDepth 20000 in
theorem mi_X0_giveToTaker : MIv RX0 yX0_giveToTaker cX0_giveToTaker 2 none 1 := ⟨⟨bt3 219 rfl rfl, bt1 1 rfl rfl, by decide, by decide, by decide +kernel⟩, bt3 218 rfl rfl, bt0 9 rfl rfl⟩
set_option maxRecDepth 20000 in
theorem fl_RX0_65 : Cond.fieldLink RX0 65 "Maybehall" "left" "I" ∈ bigW := bt1 71 rfl rfl
set_option maxRecDepth 20000 in
theorem ml_RX0_68 : Cond.methodLink RX0 68 yX0_numberOrRefused ∈ bigW := bt3 234 rfl rfl
set_option maxRecDepth 20000 in
theorem mi_X0_numberOrRefused : MIv RX0 yX0_numberOrRefused cX0_numberOrRefused 2 (some .int) 1 := ⟨⟨bt3 237 rfl rfl, bt1 1 rfl rfl, by decide, by decide, by decide +kernel⟩, bt3 236 rfl rfl, bt0 10 rfl rfl⟩
set_option maxRecDepth 20000 in
theorem cl_RX0_71 : Cond.classLink RX0 71 "java/lang/IllegalStateException" ∈ bigW := bt4 20 rfl rfl
set_option maxRecDepth 20000 in
theorem tw3_i : Cond.initialized "java/lang/IllegalStateException" ∈ bigW := bt1 14 rfl rfl
set_option maxRecDepth 20000 in
theorem tw3_1 : ∀ w ∈ (vx_atS RX0 75 "java/lang/IllegalStateException" ["java/lang/RuntimeException", "java/lang/Exception"]).filter goodWord, w ∈ bigW := fun w h => List.mem_filter.mpr ⟨List.mem_append_right _ ((show ∀ w ∈ (vx_atS RX0 75 "java/lang/IllegalStateException" ["java/lang/RuntimeException", "java/lang/Exception"]).filter goodWord, w ∈ lw_tbl by decide +kernel) w h), (List.mem_filter.mp h).2⟩
set_option maxRecDepth 20000 in
theorem tw3_2 : ∀ w ∈ (vx_atS RX0 75 "java/lang/IllegalStateException" ["java/lang/RuntimeException", "java/lang/Exception"]).filter (fun w => !goodWord w), w ∈ Cond.castable "java/lang/IllegalStateException" "java/lang/IllegalStateException" :: dcl3.map Cond.declares := by decide +kernel
set_option maxRecDepth 20000 in
theorem tw3_3 : ∀ w ∈ Cond.classLink RX0 71 "java/lang/IllegalStateException" :: Cond.initialized "java/lang/IllegalStateException" :: vx_atS RX0 75 "java/lang/IllegalStateException" ["java/lang/RuntimeException", "java/lang/Exception"], vx_ot w = true := by decide +kernel
set_option maxRecDepth 20000 in
theorem ml_RX0_82 : Cond.methodLink RX0 82 yX0_numberOrZero ∈ bigW := bt1 112 rfl rfl
set_option maxRecDepth 20000 in
theorem mi_X0_numberOrZero : MIs yX0_numberOrZero cX0_numberOrZero 1 (some .int) 1 := ⟨⟨bt1 114 rfl rfl, bt1 1 rfl rfl, by decide, by decide, by decide +kernel⟩, bt1 113 rfl rfl⟩
set_option maxRecDepth 20000 in
theorem ml_RX0_85 : Cond.methodLink RX0 85 yX0_needPlain ∈ bigW := bt4 68 rfl rfl
set_option maxRecDepth 20000 in
theorem mi_X0_needPlain : MIs yX0_needPlain cX0_needPlain 1 none 1 := ⟨⟨bt4 70 rfl rfl, bt1 1 rfl rfl, by decide, by decide, by decide +kernel⟩, bt4 69 rfl rfl⟩
set_option maxRecDepth 20000 in
theorem fl_RX0_13 : Cond.fieldLink RX0 13 "Maybehall" "plains" "[I" ∈ bigW := bt1 66 rfl rfl
set_option maxRecDepth 20000 in
theorem ml_RX0_88 : Cond.methodLink RX0 88 yX0_standing ∈ bigW := bt2 40 rfl rfl
set_option maxRecDepth 20000 in
theorem mi_X0_standing : MIs yX0_standing cX0_standing 3 (some .int) 2 := ⟨⟨bt2 42 rfl rfl, bt1 1 rfl rfl, by decide, by decide, by decide +kernel⟩, bt2 41 rfl rfl⟩
set_option maxRecDepth 20000 in
theorem fl_RX0_108 : Cond.fieldLink RX0 108 "Maybehall" "knocks" "I" ∈ bigW := bt1 73 rfl rfl
theorem dX0_areLike_0 : decode cX0_areLike 0 = .ok (.iload_n 1, 1) := by decide +kernel
theorem dX0_areLike_1 : decode cX0_areLike 1 = .ok (.invokestatic 23, 3) := by decide +kernel
theorem dX0_areLike_4 : decode cX0_areLike 4 = .ok (.iload_n 2, 1) := by decide +kernel
theorem dX0_areLike_5 : decode cX0_areLike 5 = .ok (.invokestatic 23, 3) := by decide +kernel
theorem dX0_areLike_8 : decode cX0_areLike 8 = .ok (.aload_n 0, 1) := by decide +kernel
theorem dX0_areLike_9 : decode cX0_areLike 9 = .ok (.getfield 9, 3) := by decide +kernel
theorem dX0_areLike_12 : decode cX0_areLike 12 = .ok (.iload_n 1, 1) := by decide +kernel
theorem dX0_areLike_13 : decode cX0_areLike 13 = .ok (.iaload, 1) := by decide +kernel
theorem dX0_areLike_14 : decode cX0_areLike 14 = .ok (.aload_n 0, 1) := by decide +kernel
theorem dX0_areLike_15 : decode cX0_areLike 15 = .ok (.getfield 9, 3) := by decide +kernel
theorem dX0_areLike_18 : decode cX0_areLike 18 = .ok (.iload_n 2, 1) := by decide +kernel
theorem dX0_areLike_19 : decode cX0_areLike 19 = .ok (.iaload, 1) := by decide +kernel
theorem dX0_areLike_20 : decode cX0_areLike 20 = .ok (.invokestatic 78, 3) := by decide +kernel
theorem dX0_areLike_23 : decode cX0_areLike 23 = .ok (.ireturn, 1) := by decide +kernel
theorem dX0_arePlainLike_0 : decode cX0_arePlainLike 0 = .ok (.aload_n 0, 1) := by decide +kernel
theorem dX0_arePlainLike_1 : decode cX0_arePlainLike 1 = .ok (.getfield 13, 3) := by decide +kernel
theorem dX0_arePlainLike_4 : decode cX0_arePlainLike 4 = .ok (.iconst 0, 1) := by decide +kernel
theorem dX0_arePlainLike_5 : decode cX0_arePlainLike 5 = .ok (.iaload, 1) := by decide +kernel
theorem dX0_arePlainLike_6 : decode cX0_arePlainLike 6 = .ok (.aload_n 0, 1) := by decide +kernel
theorem dX0_arePlainLike_7 : decode cX0_arePlainLike 7 = .ok (.getfield 13, 3) := by decide +kernel
theorem dX0_arePlainLike_10 : decode cX0_arePlainLike 10 = .ok (.iconst 1, 1) := by decide +kernel
theorem dX0_arePlainLike_11 : decode cX0_arePlainLike 11 = .ok (.iaload, 1) := by decide +kernel
theorem dX0_arePlainLike_12 : decode cX0_arePlainLike 12 = .ok (.invokestatic 78, 3) := by decide +kernel
theorem dX0_arePlainLike_15 : decode cX0_arePlainLike 15 = .ok (.ireturn, 1) := by decide +kernel
theorem dX0_both_0 : decode cX0_both 0 = .ok (.iload_n 1, 1) := by decide +kernel
theorem dX0_both_1 : decode cX0_both 1 = .ok (.invokestatic 23, 3) := by decide +kernel
theorem dX0_both_4 : decode cX0_both 4 = .ok (.iload_n 2, 1) := by decide +kernel
theorem dX0_both_5 : decode cX0_both 5 = .ok (.invokestatic 23, 3) := by decide +kernel
theorem dX0_both_8 : decode cX0_both 8 = .ok (.iload_n 3, 1) := by decide +kernel
theorem dX0_both_9 : decode cX0_both 9 = .ok (.bipush 6, 2) := by decide +kernel
theorem dX0_both_11 : decode cX0_both 11 = .ok (.invokestatic 34, 3) := by decide +kernel
theorem dX0_both_14 : decode cX0_both 14 = .ok (.iload 4, 2) := by decide +kernel
theorem dX0_both_16 : decode cX0_both 16 = .ok (.iconst 5, 1) := by decide +kernel
theorem dX0_both_17 : decode cX0_both 17 = .ok (.invokestatic 34, 3) := by decide +kernel
theorem dX0_both_20 : decode cX0_both 20 = .ok (.iload 5, 2) := by decide +kernel
theorem dX0_both_22 : decode cX0_both 22 = .ok (.invokestatic 27, 3) := by decide +kernel
theorem dX0_both_25 : decode cX0_both 25 = .ok (.aload_n 0, 1) := by decide +kernel
theorem dX0_both_26 : decode cX0_both 26 = .ok (.getfield 9, 3) := by decide +kernel
theorem dX0_both_29 : decode cX0_both 29 = .ok (.iload_n 2, 1) := by decide +kernel
theorem dX0_both_30 : decode cX0_both 30 = .ok (.iaload, 1) := by decide +kernel
theorem dX0_both_31 : decode cX0_both 31 = .ok (.iload_n 3, 1) := by decide +kernel
theorem dX0_both_32 : decode cX0_both 32 = .ok (.iload 5, 2) := by decide +kernel
theorem dX0_both_34 : decode cX0_both 34 = .ok (.invokestatic 42, 3) := by decide +kernel
theorem dX0_both_37 : decode cX0_both 37 = .ok (.istore 6, 2) := by decide +kernel
theorem dX0_both_39 : decode cX0_both 39 = .ok (.aload_n 0, 1) := by decide +kernel
theorem dX0_both_40 : decode cX0_both 40 = .ok (.dup, 1) := by decide +kernel
theorem dX0_both_41 : decode cX0_both 41 = .ok (.getfield 38, 3) := by decide +kernel
theorem dX0_both_44 : decode cX0_both 44 = .ok (.aload_n 0, 1) := by decide +kernel
theorem dX0_both_45 : decode cX0_both 45 = .ok (.getfield 9, 3) := by decide +kernel
theorem dX0_both_48 : decode cX0_both 48 = .ok (.iload_n 2, 1) := by decide +kernel
theorem dX0_both_49 : decode cX0_both 49 = .ok (.iaload, 1) := by decide +kernel
theorem dX0_both_50 : decode cX0_both 50 = .ok (.invokestatic 30, 3) := by decide +kernel
theorem dX0_both_53 : decode cX0_both 53 = .ok (.iload 6, 2) := by decide +kernel
theorem dX0_both_55 : decode cX0_both 55 = .ok (.invokestatic 30, 3) := by decide +kernel
theorem dX0_both_58 : decode cX0_both 58 = .ok (.iadd, 1) := by decide +kernel
theorem dX0_both_59 : decode cX0_both 59 = .ok (.iadd, 1) := by decide +kernel
theorem dX0_both_60 : decode cX0_both 60 = .ok (.putfield 38, 3) := by decide +kernel
theorem dX0_both_63 : decode cX0_both 63 = .ok (.aload_n 0, 1) := by decide +kernel
theorem dX0_both_64 : decode cX0_both 64 = .ok (.getfield 9, 3) := by decide +kernel
theorem dX0_both_67 : decode cX0_both 67 = .ok (.iload_n 1, 1) := by decide +kernel
theorem dX0_both_68 : decode cX0_both 68 = .ok (.aload_n 0, 1) := by decide +kernel
theorem dX0_both_69 : decode cX0_both 69 = .ok (.iload 6, 2) := by decide +kernel
theorem dX0_both_71 : decode cX0_both 71 = .ok (.iload 4, 2) := by decide +kernel
theorem dX0_both_73 : decode cX0_both 73 = .ok (.iload 5, 2) := by decide +kernel
theorem dX0_both_75 : decode cX0_both 75 = .ok (.invokevirtual 46, 3) := by decide +kernel
theorem dX0_both_78 : decode cX0_both 78 = .ok (.iastore, 1) := by decide +kernel
theorem dX0_both_79 : decode cX0_both 79 = .ok (.aload_n 0, 1) := by decide +kernel
theorem dX0_both_80 : decode cX0_both 80 = .ok (.getfield 9, 3) := by decide +kernel
theorem dX0_both_83 : decode cX0_both 83 = .ok (.iload_n 1, 1) := by decide +kernel
theorem dX0_both_84 : decode cX0_both 84 = .ok (.iaload, 1) := by decide +kernel
theorem dX0_both_85 : decode cX0_both 85 = .ok (.invokestatic 30, 3) := by decide +kernel
theorem dX0_both_88 : decode cX0_both 88 = .ok (.ireturn, 1) := by decide +kernel
theorem dX0_code_0 : decode cX0_code 0 = .ok (.iload_n 1, 1) := by decide +kernel
theorem dX0_code_1 : decode cX0_code 1 = .ok (.invokestatic 23, 3) := by decide +kernel
theorem dX0_code_4 : decode cX0_code 4 = .ok (.aload_n 0, 1) := by decide +kernel
theorem dX0_code_5 : decode cX0_code 5 = .ok (.getfield 9, 3) := by decide +kernel
theorem dX0_code_8 : decode cX0_code 8 = .ok (.iload_n 1, 1) := by decide +kernel
theorem dX0_code_9 : decode cX0_code 9 = .ok (.iaload, 1) := by decide +kernel
theorem dX0_code_10 : decode cX0_code 10 = .ok (.invokestatic 82, 3) := by decide +kernel
theorem dX0_code_13 : decode cX0_code 13 = .ok (.ireturn, 1) := by decide +kernel
theorem dX0_codeOf_0 : decode cX0_codeOf 0 = .ok (.iload_n 1, 1) := by decide +kernel
theorem dX0_codeOf_1 : decode cX0_codeOf 1 = .ok (.invokestatic 23, 3) := by decide +kernel
theorem dX0_codeOf_4 : decode cX0_codeOf 4 = .ok (.aload_n 0, 1) := by decide +kernel
theorem dX0_codeOf_5 : decode cX0_codeOf 5 = .ok (.getfield 9, 3) := by decide +kernel
theorem dX0_codeOf_8 : decode cX0_codeOf 8 = .ok (.iload_n 1, 1) := by decide +kernel
theorem dX0_codeOf_9 : decode cX0_codeOf 9 = .ok (.iaload, 1) := by decide +kernel
theorem dX0_codeOf_10 : decode cX0_codeOf 10 = .ok (.invokestatic 82, 3) := by decide +kernel
theorem dX0_codeOf_13 : decode cX0_codeOf 13 = .ok (.ireturn, 1) := by decide +kernel
theorem dX0_codes_0 : decode cX0_codes 0 = .ok (.iload_n 1, 1) := by decide +kernel
theorem dX0_codes_1 : decode cX0_codes 1 = .ok (.invokestatic 23, 3) := by decide +kernel
theorem dX0_codes_4 : decode cX0_codes 4 = .ok (.iload_n 2, 1) := by decide +kernel
theorem dX0_codes_5 : decode cX0_codes 5 = .ok (.invokestatic 23, 3) := by decide +kernel
theorem dX0_codes_8 : decode cX0_codes 8 = .ok (.iload_n 3, 1) := by decide +kernel
theorem dX0_codes_9 : decode cX0_codes 9 = .ok (.invokestatic 23, 3) := by decide +kernel
theorem dX0_codes_12 : decode cX0_codes 12 = .ok (.iconst 1, 1) := by decide +kernel
theorem dX0_codes_13 : decode cX0_codes 13 = .ok (.istore 4, 2) := by decide +kernel
theorem dX0_codes_15 : decode cX0_codes 15 = .ok (.iload 4, 2) := by decide +kernel
theorem dX0_codes_17 : decode cX0_codes 17 = .ok (.bipush 31, 2) := by decide +kernel
theorem dX0_codes_19 : decode cX0_codes 19 = .ok (.imul, 1) := by decide +kernel
theorem dX0_codes_20 : decode cX0_codes 20 = .ok (.aload_n 0, 1) := by decide +kernel
theorem dX0_codes_21 : decode cX0_codes 21 = .ok (.getfield 9, 3) := by decide +kernel
theorem dX0_codes_24 : decode cX0_codes 24 = .ok (.iload_n 1, 1) := by decide +kernel
theorem dX0_codes_25 : decode cX0_codes 25 = .ok (.iaload, 1) := by decide +kernel
theorem dX0_codes_26 : decode cX0_codes 26 = .ok (.invokestatic 82, 3) := by decide +kernel
theorem dX0_codes_29 : decode cX0_codes 29 = .ok (.iadd, 1) := by decide +kernel
theorem dX0_codes_30 : decode cX0_codes 30 = .ok (.istore 4, 2) := by decide +kernel
theorem dX0_codes_32 : decode cX0_codes 32 = .ok (.iload 4, 2) := by decide +kernel
theorem dX0_codes_34 : decode cX0_codes 34 = .ok (.bipush 31, 2) := by decide +kernel
theorem dX0_codes_36 : decode cX0_codes 36 = .ok (.imul, 1) := by decide +kernel
theorem dX0_codes_37 : decode cX0_codes 37 = .ok (.aload_n 0, 1) := by decide +kernel
theorem dX0_codes_38 : decode cX0_codes 38 = .ok (.getfield 9, 3) := by decide +kernel
theorem dX0_codes_41 : decode cX0_codes 41 = .ok (.iload_n 2, 1) := by decide +kernel
theorem dX0_codes_42 : decode cX0_codes 42 = .ok (.iaload, 1) := by decide +kernel
theorem dX0_codes_43 : decode cX0_codes 43 = .ok (.invokestatic 82, 3) := by decide +kernel
theorem dX0_codes_46 : decode cX0_codes 46 = .ok (.iadd, 1) := by decide +kernel
theorem dX0_codes_47 : decode cX0_codes 47 = .ok (.istore 4, 2) := by decide +kernel
theorem dX0_codes_49 : decode cX0_codes 49 = .ok (.iload 4, 2) := by decide +kernel
theorem dX0_codes_51 : decode cX0_codes 51 = .ok (.bipush 31, 2) := by decide +kernel
theorem dX0_codes_53 : decode cX0_codes 53 = .ok (.imul, 1) := by decide +kernel
theorem dX0_codes_54 : decode cX0_codes 54 = .ok (.aload_n 0, 1) := by decide +kernel
theorem dX0_codes_55 : decode cX0_codes 55 = .ok (.getfield 9, 3) := by decide +kernel
theorem dX0_codes_58 : decode cX0_codes 58 = .ok (.iload_n 3, 1) := by decide +kernel
theorem dX0_codes_59 : decode cX0_codes 59 = .ok (.iaload, 1) := by decide +kernel
theorem dX0_codes_60 : decode cX0_codes 60 = .ok (.invokestatic 82, 3) := by decide +kernel
theorem dX0_codes_63 : decode cX0_codes 63 = .ok (.iadd, 1) := by decide +kernel
theorem dX0_codes_64 : decode cX0_codes 64 = .ok (.istore 4, 2) := by decide +kernel
theorem dX0_codes_66 : decode cX0_codes 66 = .ok (.iload 4, 2) := by decide +kernel
theorem dX0_codes_68 : decode cX0_codes 68 = .ok (.ireturn, 1) := by decide +kernel
theorem dX0_compare_0 : decode cX0_compare 0 = .ok (.iload_n 1, 1) := by decide +kernel
theorem dX0_compare_1 : decode cX0_compare 1 = .ok (.invokestatic 23, 3) := by decide +kernel
theorem dX0_compare_4 : decode cX0_compare 4 = .ok (.iload_n 2, 1) := by decide +kernel
theorem dX0_compare_5 : decode cX0_compare 5 = .ok (.invokestatic 23, 3) := by decide +kernel
theorem dX0_compare_8 : decode cX0_compare 8 = .ok (.iload_n 3, 1) := by decide +kernel
theorem dX0_compare_9 : decode cX0_compare 9 = .ok (.iconst 3, 1) := by decide +kernel
theorem dX0_compare_10 : decode cX0_compare 10 = .ok (.invokestatic 34, 3) := by decide +kernel
theorem dX0_compare_13 : decode cX0_compare 13 = .ok (.aload_n 0, 1) := by decide +kernel
theorem dX0_compare_14 : decode cX0_compare 14 = .ok (.getfield 9, 3) := by decide +kernel
theorem dX0_compare_17 : decode cX0_compare 17 = .ok (.iload_n 1, 1) := by decide +kernel
theorem dX0_compare_18 : decode cX0_compare 18 = .ok (.iaload, 1) := by decide +kernel
theorem dX0_compare_19 : decode cX0_compare 19 = .ok (.iload_n 3, 1) := by decide +kernel
theorem dX0_compare_20 : decode cX0_compare 20 = .ok (.invokestatic 88, 3) := by decide +kernel
theorem dX0_compare_23 : decode cX0_compare 23 = .ok (.istore 4, 2) := by decide +kernel
theorem dX0_compare_25 : decode cX0_compare 25 = .ok (.aload_n 0, 1) := by decide +kernel
theorem dX0_compare_26 : decode cX0_compare 26 = .ok (.getfield 9, 3) := by decide +kernel
theorem dX0_compare_29 : decode cX0_compare 29 = .ok (.iload_n 2, 1) := by decide +kernel
theorem dX0_compare_30 : decode cX0_compare 30 = .ok (.iaload, 1) := by decide +kernel
theorem dX0_compare_31 : decode cX0_compare 31 = .ok (.iload_n 3, 1) := by decide +kernel
theorem dX0_compare_32 : decode cX0_compare 32 = .ok (.invokestatic 88, 3) := by decide +kernel
theorem dX0_compare_35 : decode cX0_compare 35 = .ok (.istore 5, 2) := by decide +kernel
theorem dX0_compare_37 : decode cX0_compare 37 = .ok (.iload 4, 2) := by decide +kernel
theorem dX0_compare_39 : decode cX0_compare 39 = .ok (.iload 5, 2) := by decide +kernel
theorem dX0_compare_41 : decode cX0_compare 41 = .ok (.if_icmp .ne 5, 3) := by decide +kernel
theorem dX0_compare_44 : decode cX0_compare 44 = .ok (.iconst 0, 1) := by decide +kernel
theorem dX0_compare_45 : decode cX0_compare 45 = .ok (.ireturn, 1) := by decide +kernel
theorem dX0_compare_46 : decode cX0_compare 46 = .ok (.iload 4, 2) := by decide +kernel
theorem dX0_compare_48 : decode cX0_compare 48 = .ok (.iload 5, 2) := by decide +kernel
theorem dX0_compare_50 : decode cX0_compare 50 = .ok (.if_icmp .ge 7, 3) := by decide +kernel
theorem dX0_compare_53 : decode cX0_compare 53 = .ok (.iconst (-1), 1) := by decide +kernel
theorem dX0_compare_54 : decode cX0_compare 54 = .ok (.goto 4, 3) := by decide +kernel
theorem dX0_compare_57 : decode cX0_compare 57 = .ok (.iconst 1, 1) := by decide +kernel
theorem dX0_compare_58 : decode cX0_compare 58 = .ok (.ireturn, 1) := by decide +kernel
theorem dX0_copy_0 : decode cX0_copy 0 = .ok (.iload_n 1, 1) := by decide +kernel
theorem dX0_copy_1 : decode cX0_copy 1 = .ok (.invokestatic 23, 3) := by decide +kernel
theorem dX0_copy_4 : decode cX0_copy 4 = .ok (.iload_n 2, 1) := by decide +kernel
theorem dX0_copy_5 : decode cX0_copy 5 = .ok (.invokestatic 23, 3) := by decide +kernel
theorem dX0_copy_8 : decode cX0_copy 8 = .ok (.aload_n 0, 1) := by decide +kernel
theorem dX0_copy_9 : decode cX0_copy 9 = .ok (.getfield 9, 3) := by decide +kernel
theorem dX0_copy_12 : decode cX0_copy 12 = .ok (.iload_n 1, 1) := by decide +kernel
theorem dX0_copy_13 : decode cX0_copy 13 = .ok (.aload_n 0, 1) := by decide +kernel
theorem dX0_copy_14 : decode cX0_copy 14 = .ok (.getfield 9, 3) := by decide +kernel
theorem dX0_copy_17 : decode cX0_copy 17 = .ok (.iload_n 2, 1) := by decide +kernel
theorem dX0_copy_18 : decode cX0_copy 18 = .ok (.iaload, 1) := by decide +kernel
theorem dX0_copy_19 : decode cX0_copy 19 = .ok (.iastore, 1) := by decide +kernel
theorem dX0_copy_20 : decode cX0_copy 20 = .ok (.aload_n 0, 1) := by decide +kernel
theorem dX0_copy_21 : decode cX0_copy 21 = .ok (.getfield 9, 3) := by decide +kernel
theorem dX0_copy_24 : decode cX0_copy 24 = .ok (.iload_n 1, 1) := by decide +kernel
theorem dX0_copy_25 : decode cX0_copy 25 = .ok (.iaload, 1) := by decide +kernel
theorem dX0_copy_26 : decode cX0_copy 26 = .ok (.invokestatic 30, 3) := by decide +kernel
theorem dX0_copy_29 : decode cX0_copy 29 = .ok (.ireturn, 1) := by decide +kernel
theorem dX0_empty_0 : decode cX0_empty 0 = .ok (.iload_n 1, 1) := by decide +kernel
theorem dX0_empty_1 : decode cX0_empty 1 = .ok (.invokestatic 23, 3) := by decide +kernel
theorem dX0_empty_4 : decode cX0_empty 4 = .ok (.aload_n 0, 1) := by decide +kernel
theorem dX0_empty_5 : decode cX0_empty 5 = .ok (.getfield 9, 3) := by decide +kernel
theorem dX0_empty_8 : decode cX0_empty 8 = .ok (.iload_n 1, 1) := by decide +kernel
theorem dX0_empty_9 : decode cX0_empty 9 = .ok (.iaload, 1) := by decide +kernel
theorem dX0_empty_10 : decode cX0_empty 10 = .ok (.invokestatic 30, 3) := by decide +kernel
theorem dX0_empty_13 : decode cX0_empty 13 = .ok (.istore_n 2, 1) := by decide +kernel
theorem dX0_empty_14 : decode cX0_empty 14 = .ok (.aload_n 0, 1) := by decide +kernel
theorem dX0_empty_15 : decode cX0_empty 15 = .ok (.getfield 9, 3) := by decide +kernel
theorem dX0_empty_18 : decode cX0_empty 18 = .ok (.iload_n 1, 1) := by decide +kernel
theorem dX0_empty_19 : decode cX0_empty 19 = .ok (.sipush (-10000), 3) := by decide +kernel
theorem dX0_empty_22 : decode cX0_empty 22 = .ok (.iastore, 1) := by decide +kernel
theorem dX0_empty_23 : decode cX0_empty 23 = .ok (.iload_n 2, 1) := by decide +kernel
theorem dX0_empty_24 : decode cX0_empty 24 = .ok (.ireturn, 1) := by decide +kernel
theorem dX0_emptyPlain_0 : decode cX0_emptyPlain 0 = .ok (.iload_n 1, 1) := by decide +kernel
theorem dX0_emptyPlain_1 : decode cX0_emptyPlain 1 = .ok (.invokestatic 85, 3) := by decide +kernel
theorem dX0_emptyPlain_4 : decode cX0_emptyPlain 4 = .ok (.aload_n 0, 1) := by decide +kernel
theorem dX0_emptyPlain_5 : decode cX0_emptyPlain 5 = .ok (.getfield 13, 3) := by decide +kernel
theorem dX0_emptyPlain_8 : decode cX0_emptyPlain 8 = .ok (.iload_n 1, 1) := by decide +kernel
theorem dX0_emptyPlain_9 : decode cX0_emptyPlain 9 = .ok (.iaload, 1) := by decide +kernel
theorem dX0_emptyPlain_10 : decode cX0_emptyPlain 10 = .ok (.invokestatic 30, 3) := by decide +kernel
theorem dX0_emptyPlain_13 : decode cX0_emptyPlain 13 = .ok (.istore_n 2, 1) := by decide +kernel
theorem dX0_emptyPlain_14 : decode cX0_emptyPlain 14 = .ok (.aload_n 0, 1) := by decide +kernel
theorem dX0_emptyPlain_15 : decode cX0_emptyPlain 15 = .ok (.getfield 13, 3) := by decide +kernel
theorem dX0_emptyPlain_18 : decode cX0_emptyPlain 18 = .ok (.iload_n 1, 1) := by decide +kernel
theorem dX0_emptyPlain_19 : decode cX0_emptyPlain 19 = .ok (.sipush (-10000), 3) := by decide +kernel
theorem dX0_emptyPlain_22 : decode cX0_emptyPlain 22 = .ok (.iastore, 1) := by decide +kernel
theorem dX0_emptyPlain_23 : decode cX0_emptyPlain 23 = .ok (.iload_n 2, 1) := by decide +kernel
theorem dX0_emptyPlain_24 : decode cX0_emptyPlain 24 = .ok (.ireturn, 1) := by decide +kernel
theorem dX0_fill_0 : decode cX0_fill 0 = .ok (.iload_n 1, 1) := by decide +kernel
theorem dX0_fill_1 : decode cX0_fill 1 = .ok (.invokestatic 23, 3) := by decide +kernel
theorem dX0_fill_4 : decode cX0_fill 4 = .ok (.iload_n 2, 1) := by decide +kernel
theorem dX0_fill_5 : decode cX0_fill 5 = .ok (.invokestatic 27, 3) := by decide +kernel
theorem dX0_fill_8 : decode cX0_fill 8 = .ok (.aload_n 0, 1) := by decide +kernel
theorem dX0_fill_9 : decode cX0_fill 9 = .ok (.getfield 9, 3) := by decide +kernel
theorem dX0_fill_12 : decode cX0_fill 12 = .ok (.iload_n 1, 1) := by decide +kernel
theorem dX0_fill_13 : decode cX0_fill 13 = .ok (.iaload, 1) := by decide +kernel
theorem dX0_fill_14 : decode cX0_fill 14 = .ok (.invokestatic 30, 3) := by decide +kernel
theorem dX0_fill_17 : decode cX0_fill 17 = .ok (.istore_n 3, 1) := by decide +kernel
theorem dX0_fill_18 : decode cX0_fill 18 = .ok (.aload_n 0, 1) := by decide +kernel
theorem dX0_fill_19 : decode cX0_fill 19 = .ok (.getfield 9, 3) := by decide +kernel
theorem dX0_fill_22 : decode cX0_fill 22 = .ok (.iload_n 1, 1) := by decide +kernel
theorem dX0_fill_23 : decode cX0_fill 23 = .ok (.iload_n 2, 1) := by decide +kernel
theorem dX0_fill_24 : decode cX0_fill 24 = .ok (.iastore, 1) := by decide +kernel
theorem dX0_fill_25 : decode cX0_fill 25 = .ok (.iload_n 3, 1) := by decide +kernel
theorem dX0_fill_26 : decode cX0_fill 26 = .ok (.ireturn, 1) := by decide +kernel
theorem dX0_fillMaybe_0 : decode cX0_fillMaybe 0 = .ok (.iload_n 1, 1) := by decide +kernel
theorem dX0_fillMaybe_1 : decode cX0_fillMaybe 1 = .ok (.invokestatic 23, 3) := by decide +kernel
theorem dX0_fillMaybe_4 : decode cX0_fillMaybe 4 = .ok (.iload_n 2, 1) := by decide +kernel
theorem dX0_fillMaybe_5 : decode cX0_fillMaybe 5 = .ok (.invokestatic 27, 3) := by decide +kernel
theorem dX0_fillMaybe_8 : decode cX0_fillMaybe 8 = .ok (.aload_n 0, 1) := by decide +kernel
theorem dX0_fillMaybe_9 : decode cX0_fillMaybe 9 = .ok (.getfield 9, 3) := by decide +kernel
theorem dX0_fillMaybe_12 : decode cX0_fillMaybe 12 = .ok (.iload_n 1, 1) := by decide +kernel
theorem dX0_fillMaybe_13 : decode cX0_fillMaybe 13 = .ok (.iload_n 3, 1) := by decide +kernel
theorem dX0_fillMaybe_14 : decode cX0_fillMaybe 14 = .ok (.ifCond .eq 7, 3) := by decide +kernel
theorem dX0_fillMaybe_17 : decode cX0_fillMaybe 17 = .ok (.iload_n 2, 1) := by decide +kernel
theorem dX0_fillMaybe_18 : decode cX0_fillMaybe 18 = .ok (.goto 6, 3) := by decide +kernel
theorem dX0_fillMaybe_21 : decode cX0_fillMaybe 21 = .ok (.sipush (-10000), 3) := by decide +kernel
theorem dX0_fillMaybe_24 : decode cX0_fillMaybe 24 = .ok (.iastore, 1) := by decide +kernel
theorem dX0_fillMaybe_25 : decode cX0_fillMaybe 25 = .ok (.aload_n 0, 1) := by decide +kernel
theorem dX0_fillMaybe_26 : decode cX0_fillMaybe 26 = .ok (.getfield 9, 3) := by decide +kernel
theorem dX0_fillMaybe_29 : decode cX0_fillMaybe 29 = .ok (.iload_n 1, 1) := by decide +kernel
theorem dX0_fillMaybe_30 : decode cX0_fillMaybe 30 = .ok (.iaload, 1) := by decide +kernel
theorem dX0_fillMaybe_31 : decode cX0_fillMaybe 31 = .ok (.invokestatic 30, 3) := by decide +kernel
theorem dX0_fillMaybe_34 : decode cX0_fillMaybe 34 = .ok (.ireturn, 1) := by decide +kernel
theorem dX0_fillPlain_0 : decode cX0_fillPlain 0 = .ok (.iload_n 1, 1) := by decide +kernel
theorem dX0_fillPlain_1 : decode cX0_fillPlain 1 = .ok (.invokestatic 85, 3) := by decide +kernel
theorem dX0_fillPlain_4 : decode cX0_fillPlain 4 = .ok (.iload_n 2, 1) := by decide +kernel
theorem dX0_fillPlain_5 : decode cX0_fillPlain 5 = .ok (.invokestatic 27, 3) := by decide +kernel
theorem dX0_fillPlain_8 : decode cX0_fillPlain 8 = .ok (.aload_n 0, 1) := by decide +kernel
theorem dX0_fillPlain_9 : decode cX0_fillPlain 9 = .ok (.getfield 13, 3) := by decide +kernel
theorem dX0_fillPlain_12 : decode cX0_fillPlain 12 = .ok (.iload_n 1, 1) := by decide +kernel
theorem dX0_fillPlain_13 : decode cX0_fillPlain 13 = .ok (.iaload, 1) := by decide +kernel
theorem dX0_fillPlain_14 : decode cX0_fillPlain 14 = .ok (.invokestatic 30, 3) := by decide +kernel
theorem dX0_fillPlain_17 : decode cX0_fillPlain 17 = .ok (.istore_n 3, 1) := by decide +kernel
theorem dX0_fillPlain_18 : decode cX0_fillPlain 18 = .ok (.aload_n 0, 1) := by decide +kernel
theorem dX0_fillPlain_19 : decode cX0_fillPlain 19 = .ok (.getfield 13, 3) := by decide +kernel
theorem dX0_fillPlain_22 : decode cX0_fillPlain 22 = .ok (.iload_n 1, 1) := by decide +kernel
theorem dX0_fillPlain_23 : decode cX0_fillPlain 23 = .ok (.iload_n 2, 1) := by decide +kernel
theorem dX0_fillPlain_24 : decode cX0_fillPlain 24 = .ok (.iastore, 1) := by decide +kernel
theorem dX0_fillPlain_25 : decode cX0_fillPlain 25 = .ok (.iload_n 3, 1) := by decide +kernel
theorem dX0_fillPlain_26 : decode cX0_fillPlain 26 = .ok (.ireturn, 1) := by decide +kernel
theorem dX0_filter_0 : decode cX0_filter 0 = .ok (.iload_n 1, 1) := by decide +kernel
theorem dX0_filter_1 : decode cX0_filter 1 = .ok (.invokestatic 23, 3) := by decide +kernel
theorem dX0_filter_4 : decode cX0_filter 4 = .ok (.iload_n 2, 1) := by decide +kernel
theorem dX0_filter_5 : decode cX0_filter 5 = .ok (.invokestatic 23, 3) := by decide +kernel
theorem dX0_filter_8 : decode cX0_filter 8 = .ok (.iload_n 3, 1) := by decide +kernel
theorem dX0_filter_9 : decode cX0_filter 9 = .ok (.iconst 5, 1) := by decide +kernel
theorem dX0_filter_10 : decode cX0_filter 10 = .ok (.invokestatic 34, 3) := by decide +kernel
theorem dX0_filter_13 : decode cX0_filter 13 = .ok (.iload 4, 2) := by decide +kernel
theorem dX0_filter_15 : decode cX0_filter 15 = .ok (.invokestatic 27, 3) := by decide +kernel
theorem dX0_filter_18 : decode cX0_filter 18 = .ok (.aload_n 0, 1) := by decide +kernel
theorem dX0_filter_19 : decode cX0_filter 19 = .ok (.dup, 1) := by decide +kernel
theorem dX0_filter_20 : decode cX0_filter 20 = .ok (.getfield 38, 3) := by decide +kernel
theorem dX0_filter_23 : decode cX0_filter 23 = .ok (.aload_n 0, 1) := by decide +kernel
theorem dX0_filter_24 : decode cX0_filter 24 = .ok (.getfield 9, 3) := by decide +kernel
theorem dX0_filter_27 : decode cX0_filter 27 = .ok (.iload_n 2, 1) := by decide +kernel
theorem dX0_filter_28 : decode cX0_filter 28 = .ok (.iaload, 1) := by decide +kernel
theorem dX0_filter_29 : decode cX0_filter 29 = .ok (.invokestatic 30, 3) := by decide +kernel
theorem dX0_filter_32 : decode cX0_filter 32 = .ok (.iadd, 1) := by decide +kernel
theorem dX0_filter_33 : decode cX0_filter 33 = .ok (.putfield 38, 3) := by decide +kernel
theorem dX0_filter_36 : decode cX0_filter 36 = .ok (.aload_n 0, 1) := by decide +kernel
theorem dX0_filter_37 : decode cX0_filter 37 = .ok (.getfield 9, 3) := by decide +kernel
theorem dX0_filter_40 : decode cX0_filter 40 = .ok (.iload_n 1, 1) := by decide +kernel
theorem dX0_filter_41 : decode cX0_filter 41 = .ok (.aload_n 0, 1) := by decide +kernel
theorem dX0_filter_42 : decode cX0_filter 42 = .ok (.getfield 9, 3) := by decide +kernel
theorem dX0_filter_45 : decode cX0_filter 45 = .ok (.iload_n 2, 1) := by decide +kernel
theorem dX0_filter_46 : decode cX0_filter 46 = .ok (.iaload, 1) := by decide +kernel
theorem dX0_filter_47 : decode cX0_filter 47 = .ok (.iload_n 3, 1) := by decide +kernel
theorem dX0_filter_48 : decode cX0_filter 48 = .ok (.iload 4, 2) := by decide +kernel
theorem dX0_filter_50 : decode cX0_filter 50 = .ok (.invokestatic 49, 3) := by decide +kernel
theorem dX0_filter_53 : decode cX0_filter 53 = .ok (.iastore, 1) := by decide +kernel
theorem dX0_filter_54 : decode cX0_filter 54 = .ok (.aload_n 0, 1) := by decide +kernel
theorem dX0_filter_55 : decode cX0_filter 55 = .ok (.getfield 9, 3) := by decide +kernel
theorem dX0_filter_58 : decode cX0_filter 58 = .ok (.iload_n 1, 1) := by decide +kernel
theorem dX0_filter_59 : decode cX0_filter 59 = .ok (.iaload, 1) := by decide +kernel
theorem dX0_filter_60 : decode cX0_filter 60 = .ok (.invokestatic 30, 3) := by decide +kernel
theorem dX0_filter_63 : decode cX0_filter 63 = .ok (.ireturn, 1) := by decide +kernel
theorem dX0_fromPlain_0 : decode cX0_fromPlain 0 = .ok (.iload_n 1, 1) := by decide +kernel
theorem dX0_fromPlain_1 : decode cX0_fromPlain 1 = .ok (.invokestatic 23, 3) := by decide +kernel
theorem dX0_fromPlain_4 : decode cX0_fromPlain 4 = .ok (.iload_n 2, 1) := by decide +kernel
theorem dX0_fromPlain_5 : decode cX0_fromPlain 5 = .ok (.invokestatic 85, 3) := by decide +kernel
theorem dX0_fromPlain_8 : decode cX0_fromPlain 8 = .ok (.aload_n 0, 1) := by decide +kernel
theorem dX0_fromPlain_9 : decode cX0_fromPlain 9 = .ok (.getfield 9, 3) := by decide +kernel
theorem dX0_fromPlain_12 : decode cX0_fromPlain 12 = .ok (.iload_n 1, 1) := by decide +kernel
theorem dX0_fromPlain_13 : decode cX0_fromPlain 13 = .ok (.aload_n 0, 1) := by decide +kernel
theorem dX0_fromPlain_14 : decode cX0_fromPlain 14 = .ok (.getfield 13, 3) := by decide +kernel
theorem dX0_fromPlain_17 : decode cX0_fromPlain 17 = .ok (.iload_n 2, 1) := by decide +kernel
theorem dX0_fromPlain_18 : decode cX0_fromPlain 18 = .ok (.iaload, 1) := by decide +kernel
theorem dX0_fromPlain_19 : decode cX0_fromPlain 19 = .ok (.iastore, 1) := by decide +kernel
theorem dX0_fromPlain_20 : decode cX0_fromPlain 20 = .ok (.aload_n 0, 1) := by decide +kernel
theorem dX0_fromPlain_21 : decode cX0_fromPlain 21 = .ok (.getfield 9, 3) := by decide +kernel
theorem dX0_fromPlain_24 : decode cX0_fromPlain 24 = .ok (.iload_n 1, 1) := by decide +kernel
theorem dX0_fromPlain_25 : decode cX0_fromPlain 25 = .ok (.iaload, 1) := by decide +kernel
theorem dX0_fromPlain_26 : decode cX0_fromPlain 26 = .ok (.invokestatic 30, 3) := by decide +kernel
theorem dX0_fromPlain_29 : decode cX0_fromPlain 29 = .ok (.ireturn, 1) := by decide +kernel
theorem dX0_get_0 : decode cX0_get 0 = .ok (.iload_n 1, 1) := by decide +kernel
theorem dX0_get_1 : decode cX0_get 1 = .ok (.invokestatic 23, 3) := by decide +kernel
theorem dX0_get_4 : decode cX0_get 4 = .ok (.aload_n 0, 1) := by decide +kernel
theorem dX0_get_5 : decode cX0_get 5 = .ok (.aload_n 0, 1) := by decide +kernel
theorem dX0_get_6 : decode cX0_get 6 = .ok (.getfield 9, 3) := by decide +kernel
theorem dX0_get_9 : decode cX0_get 9 = .ok (.iload_n 1, 1) := by decide +kernel
theorem dX0_get_10 : decode cX0_get 10 = .ok (.iaload, 1) := by decide +kernel
theorem dX0_get_11 : decode cX0_get 11 = .ok (.invokevirtual 68, 3) := by decide +kernel
theorem dX0_get_14 : decode cX0_get 14 = .ok (.ireturn, 1) := by decide +kernel
theorem dX0_getPlain_0 : decode cX0_getPlain 0 = .ok (.iload_n 1, 1) := by decide +kernel
theorem dX0_getPlain_1 : decode cX0_getPlain 1 = .ok (.invokestatic 85, 3) := by decide +kernel
theorem dX0_getPlain_4 : decode cX0_getPlain 4 = .ok (.aload_n 0, 1) := by decide +kernel
theorem dX0_getPlain_5 : decode cX0_getPlain 5 = .ok (.aload_n 0, 1) := by decide +kernel
theorem dX0_getPlain_6 : decode cX0_getPlain 6 = .ok (.getfield 13, 3) := by decide +kernel
theorem dX0_getPlain_9 : decode cX0_getPlain 9 = .ok (.iload_n 1, 1) := by decide +kernel
theorem dX0_getPlain_10 : decode cX0_getPlain 10 = .ok (.iaload, 1) := by decide +kernel
theorem dX0_getPlain_11 : decode cX0_getPlain 11 = .ok (.invokevirtual 68, 3) := by decide +kernel
theorem dX0_getPlain_14 : decode cX0_getPlain 14 = .ok (.ireturn, 1) := by decide +kernel
theorem dX0_giveToTaker_0 : decode cX0_giveToTaker 0 = .ok (.iload_n 1, 1) := by decide +kernel
theorem dX0_giveToTaker_1 : decode cX0_giveToTaker 1 = .ok (.sipush (-10000), 3) := by decide +kernel
theorem dX0_giveToTaker_4 : decode cX0_giveToTaker 4 = .ok (.if_icmp .eq 33, 3) := by decide +kernel
theorem dX0_giveToTaker_7 : decode cX0_giveToTaker 7 = .ok (.aload_n 0, 1) := by decide +kernel
theorem dX0_giveToTaker_8 : decode cX0_giveToTaker 8 = .ok (.dup, 1) := by decide +kernel
theorem dX0_giveToTaker_9 : decode cX0_giveToTaker 9 = .ok (.getfield 38, 3) := by decide +kernel
theorem dX0_giveToTaker_12 : decode cX0_giveToTaker 12 = .ok (.iconst 1, 1) := by decide +kernel
theorem dX0_giveToTaker_13 : decode cX0_giveToTaker 13 = .ok (.iadd, 1) := by decide +kernel
theorem dX0_giveToTaker_14 : decode cX0_giveToTaker 14 = .ok (.putfield 38, 3) := by decide +kernel
theorem dX0_giveToTaker_17 : decode cX0_giveToTaker 17 = .ok (.aload_n 0, 1) := by decide +kernel
theorem dX0_giveToTaker_18 : decode cX0_giveToTaker 18 = .ok (.dup, 1) := by decide +kernel
theorem dX0_giveToTaker_19 : decode cX0_giveToTaker 19 = .ok (.getfield 118, 3) := by decide +kernel
theorem dX0_giveToTaker_22 : decode cX0_giveToTaker 22 = .ok (.iconst 1, 1) := by decide +kernel
theorem dX0_giveToTaker_23 : decode cX0_giveToTaker 23 = .ok (.iadd, 1) := by decide +kernel
theorem dX0_giveToTaker_24 : decode cX0_giveToTaker 24 = .ok (.putfield 118, 3) := by decide +kernel
theorem dX0_giveToTaker_27 : decode cX0_giveToTaker 27 = .ok (.aload_n 0, 1) := by decide +kernel
theorem dX0_giveToTaker_28 : decode cX0_giveToTaker 28 = .ok (.dup, 1) := by decide +kernel
theorem dX0_giveToTaker_29 : decode cX0_giveToTaker 29 = .ok (.getfield 62, 3) := by decide +kernel
theorem dX0_giveToTaker_32 : decode cX0_giveToTaker 32 = .ok (.iload_n 1, 1) := by decide +kernel
theorem dX0_giveToTaker_33 : decode cX0_giveToTaker 33 = .ok (.iadd, 1) := by decide +kernel
theorem dX0_giveToTaker_34 : decode cX0_giveToTaker 34 = .ok (.putfield 62, 3) := by decide +kernel
theorem dX0_giveToTaker_37 : decode cX0_giveToTaker 37 = .ok (.return_, 1) := by decide +kernel
theorem dX0_isEmpty_0 : decode cX0_isEmpty 0 = .ok (.iload_n 1, 1) := by decide +kernel
theorem dX0_isEmpty_1 : decode cX0_isEmpty 1 = .ok (.invokestatic 23, 3) := by decide +kernel
theorem dX0_isEmpty_4 : decode cX0_isEmpty 4 = .ok (.aload_n 0, 1) := by decide +kernel
theorem dX0_isEmpty_5 : decode cX0_isEmpty 5 = .ok (.getfield 9, 3) := by decide +kernel
theorem dX0_isEmpty_8 : decode cX0_isEmpty 8 = .ok (.iload_n 1, 1) := by decide +kernel
theorem dX0_isEmpty_9 : decode cX0_isEmpty 9 = .ok (.iaload, 1) := by decide +kernel
theorem dX0_isEmpty_10 : decode cX0_isEmpty 10 = .ok (.sipush (-10000), 3) := by decide +kernel
theorem dX0_isEmpty_13 : decode cX0_isEmpty 13 = .ok (.if_icmp .ne 7, 3) := by decide +kernel
theorem dX0_isEmpty_16 : decode cX0_isEmpty 16 = .ok (.iconst 1, 1) := by decide +kernel
theorem dX0_isEmpty_17 : decode cX0_isEmpty 17 = .ok (.goto 4, 3) := by decide +kernel
theorem dX0_isEmpty_20 : decode cX0_isEmpty 20 = .ok (.iconst 0, 1) := by decide +kernel
theorem dX0_isEmpty_21 : decode cX0_isEmpty 21 = .ok (.ireturn, 1) := by decide +kernel
theorem dX0_isFull_0 : decode cX0_isFull 0 = .ok (.iload_n 1, 1) := by decide +kernel
theorem dX0_isFull_1 : decode cX0_isFull 1 = .ok (.invokestatic 23, 3) := by decide +kernel
theorem dX0_isFull_4 : decode cX0_isFull 4 = .ok (.aload_n 0, 1) := by decide +kernel
theorem dX0_isFull_5 : decode cX0_isFull 5 = .ok (.getfield 9, 3) := by decide +kernel
theorem dX0_isFull_8 : decode cX0_isFull 8 = .ok (.iload_n 1, 1) := by decide +kernel
theorem dX0_isFull_9 : decode cX0_isFull 9 = .ok (.iaload, 1) := by decide +kernel
theorem dX0_isFull_10 : decode cX0_isFull 10 = .ok (.sipush (-10000), 3) := by decide +kernel
theorem dX0_isFull_13 : decode cX0_isFull 13 = .ok (.if_icmp .eq 7, 3) := by decide +kernel
theorem dX0_isFull_16 : decode cX0_isFull 16 = .ok (.iconst 1, 1) := by decide +kernel
theorem dX0_isFull_17 : decode cX0_isFull 17 = .ok (.goto 4, 3) := by decide +kernel
theorem dX0_isFull_20 : decode cX0_isFull 20 = .ok (.iconst 0, 1) := by decide +kernel
theorem dX0_isFull_21 : decode cX0_isFull 21 = .ok (.ireturn, 1) := by decide +kernel
theorem dX0_isFullPlain_0 : decode cX0_isFullPlain 0 = .ok (.iload_n 1, 1) := by decide +kernel
theorem dX0_isFullPlain_1 : decode cX0_isFullPlain 1 = .ok (.invokestatic 85, 3) := by decide +kernel
theorem dX0_isFullPlain_4 : decode cX0_isFullPlain 4 = .ok (.aload_n 0, 1) := by decide +kernel
theorem dX0_isFullPlain_5 : decode cX0_isFullPlain 5 = .ok (.getfield 13, 3) := by decide +kernel
theorem dX0_isFullPlain_8 : decode cX0_isFullPlain 8 = .ok (.iload_n 1, 1) := by decide +kernel
theorem dX0_isFullPlain_9 : decode cX0_isFullPlain 9 = .ok (.iaload, 1) := by decide +kernel
theorem dX0_isFullPlain_10 : decode cX0_isFullPlain 10 = .ok (.sipush (-10000), 3) := by decide +kernel
theorem dX0_isFullPlain_13 : decode cX0_isFullPlain 13 = .ok (.if_icmp .eq 7, 3) := by decide +kernel
theorem dX0_isFullPlain_16 : decode cX0_isFullPlain 16 = .ok (.iconst 1, 1) := by decide +kernel
theorem dX0_isFullPlain_17 : decode cX0_isFullPlain 17 = .ok (.goto 4, 3) := by decide +kernel
theorem dX0_isFullPlain_20 : decode cX0_isFullPlain 20 = .ok (.iconst 0, 1) := by decide +kernel
theorem dX0_isFullPlain_21 : decode cX0_isFullPlain 21 = .ok (.ireturn, 1) := by decide +kernel
theorem dX0_isLike_0 : decode cX0_isLike 0 = .ok (.iload_n 1, 1) := by decide +kernel
theorem dX0_isLike_1 : decode cX0_isLike 1 = .ok (.invokestatic 23, 3) := by decide +kernel
theorem dX0_isLike_4 : decode cX0_isLike 4 = .ok (.iload_n 2, 1) := by decide +kernel
theorem dX0_isLike_5 : decode cX0_isLike 5 = .ok (.invokestatic 23, 3) := by decide +kernel
theorem dX0_isLike_8 : decode cX0_isLike 8 = .ok (.aload_n 0, 1) := by decide +kernel
theorem dX0_isLike_9 : decode cX0_isLike 9 = .ok (.getfield 9, 3) := by decide +kernel
theorem dX0_isLike_12 : decode cX0_isLike 12 = .ok (.iload_n 1, 1) := by decide +kernel
theorem dX0_isLike_13 : decode cX0_isLike 13 = .ok (.iaload, 1) := by decide +kernel
theorem dX0_isLike_14 : decode cX0_isLike 14 = .ok (.aload_n 0, 1) := by decide +kernel
theorem dX0_isLike_15 : decode cX0_isLike 15 = .ok (.getfield 9, 3) := by decide +kernel
theorem dX0_isLike_18 : decode cX0_isLike 18 = .ok (.iload_n 2, 1) := by decide +kernel
theorem dX0_isLike_19 : decode cX0_isLike 19 = .ok (.iaload, 1) := by decide +kernel
theorem dX0_isLike_20 : decode cX0_isLike 20 = .ok (.invokestatic 78, 3) := by decide +kernel
theorem dX0_isLike_23 : decode cX0_isLike 23 = .ok (.ireturn, 1) := by decide +kernel
theorem dX0_isNothing_0 : decode cX0_isNothing 0 = .ok (.iload_n 1, 1) := by decide +kernel
theorem dX0_isNothing_1 : decode cX0_isNothing 1 = .ok (.invokestatic 23, 3) := by decide +kernel
theorem dX0_isNothing_4 : decode cX0_isNothing 4 = .ok (.aload_n 0, 1) := by decide +kernel
theorem dX0_isNothing_5 : decode cX0_isNothing 5 = .ok (.getfield 9, 3) := by decide +kernel
theorem dX0_isNothing_8 : decode cX0_isNothing 8 = .ok (.iload_n 1, 1) := by decide +kernel
theorem dX0_isNothing_9 : decode cX0_isNothing 9 = .ok (.iaload, 1) := by decide +kernel
theorem dX0_isNothing_10 : decode cX0_isNothing 10 = .ok (.sipush (-10000), 3) := by decide +kernel
theorem dX0_isNothing_13 : decode cX0_isNothing 13 = .ok (.if_icmp .ne 7, 3) := by decide +kernel
theorem dX0_isNothing_16 : decode cX0_isNothing 16 = .ok (.iconst 1, 1) := by decide +kernel
theorem dX0_isNothing_17 : decode cX0_isNothing 17 = .ok (.goto 4, 3) := by decide +kernel
theorem dX0_isNothing_20 : decode cX0_isNothing 20 = .ok (.iconst 0, 1) := by decide +kernel
theorem dX0_isNothing_21 : decode cX0_isNothing 21 = .ok (.ireturn, 1) := by decide +kernel
theorem dX0_isSomething_0 : decode cX0_isSomething 0 = .ok (.iload_n 1, 1) := by decide +kernel
theorem dX0_isSomething_1 : decode cX0_isSomething 1 = .ok (.invokestatic 23, 3) := by decide +kernel
theorem dX0_isSomething_4 : decode cX0_isSomething 4 = .ok (.aload_n 0, 1) := by decide +kernel
theorem dX0_isSomething_5 : decode cX0_isSomething 5 = .ok (.getfield 9, 3) := by decide +kernel
theorem dX0_isSomething_8 : decode cX0_isSomething 8 = .ok (.iload_n 1, 1) := by decide +kernel
theorem dX0_isSomething_9 : decode cX0_isSomething 9 = .ok (.iaload, 1) := by decide +kernel
theorem dX0_isSomething_10 : decode cX0_isSomething 10 = .ok (.sipush (-10000), 3) := by decide +kernel
theorem dX0_isSomething_13 : decode cX0_isSomething 13 = .ok (.if_icmp .eq 7, 3) := by decide +kernel
theorem dX0_isSomething_16 : decode cX0_isSomething 16 = .ok (.iconst 1, 1) := by decide +kernel
theorem dX0_isSomething_17 : decode cX0_isSomething 17 = .ok (.goto 4, 3) := by decide +kernel
theorem dX0_isSomething_20 : decode cX0_isSomething 20 = .ok (.iconst 0, 1) := by decide +kernel
theorem dX0_isSomething_21 : decode cX0_isSomething 21 = .ok (.ireturn, 1) := by decide +kernel
theorem dX0_knock_0 : decode cX0_knock 0 = .ok (.aload_n 0, 1) := by decide +kernel
theorem dX0_knock_1 : decode cX0_knock 1 = .ok (.dup, 1) := by decide +kernel
theorem dX0_knock_2 : decode cX0_knock 2 = .ok (.getfield 108, 3) := by decide +kernel
theorem dX0_knock_5 : decode cX0_knock 5 = .ok (.iconst 1, 1) := by decide +kernel
theorem dX0_knock_6 : decode cX0_knock 6 = .ok (.iadd, 1) := by decide +kernel
theorem dX0_knock_7 : decode cX0_knock 7 = .ok (.putfield 108, 3) := by decide +kernel
theorem dX0_knock_10 : decode cX0_knock 10 = .ok (.aload_n 0, 1) := by decide +kernel
theorem dX0_knock_11 : decode cX0_knock 11 = .ok (.getfield 108, 3) := by decide +kernel
theorem dX0_knock_14 : decode cX0_knock 14 = .ok (.ireturn, 1) := by decide +kernel
theorem dX0_map_0 : decode cX0_map 0 = .ok (.iload_n 1, 1) := by decide +kernel
theorem dX0_map_1 : decode cX0_map 1 = .ok (.invokestatic 23, 3) := by decide +kernel
theorem dX0_map_4 : decode cX0_map 4 = .ok (.iload_n 2, 1) := by decide +kernel
theorem dX0_map_5 : decode cX0_map 5 = .ok (.invokestatic 23, 3) := by decide +kernel
theorem dX0_map_8 : decode cX0_map 8 = .ok (.iload_n 3, 1) := by decide +kernel
theorem dX0_map_9 : decode cX0_map 9 = .ok (.bipush 6, 2) := by decide +kernel
theorem dX0_map_11 : decode cX0_map 11 = .ok (.invokestatic 34, 3) := by decide +kernel
theorem dX0_map_14 : decode cX0_map 14 = .ok (.iload 4, 2) := by decide +kernel
theorem dX0_map_16 : decode cX0_map 16 = .ok (.invokestatic 27, 3) := by decide +kernel
theorem dX0_map_19 : decode cX0_map 19 = .ok (.aload_n 0, 1) := by decide +kernel
theorem dX0_map_20 : decode cX0_map 20 = .ok (.dup, 1) := by decide +kernel
theorem dX0_map_21 : decode cX0_map 21 = .ok (.getfield 38, 3) := by decide +kernel
theorem dX0_map_24 : decode cX0_map 24 = .ok (.aload_n 0, 1) := by decide +kernel
theorem dX0_map_25 : decode cX0_map 25 = .ok (.getfield 9, 3) := by decide +kernel
theorem dX0_map_28 : decode cX0_map 28 = .ok (.iload_n 2, 1) := by decide +kernel
theorem dX0_map_29 : decode cX0_map 29 = .ok (.iaload, 1) := by decide +kernel
theorem dX0_map_30 : decode cX0_map 30 = .ok (.invokestatic 30, 3) := by decide +kernel
theorem dX0_map_33 : decode cX0_map 33 = .ok (.iadd, 1) := by decide +kernel
theorem dX0_map_34 : decode cX0_map 34 = .ok (.putfield 38, 3) := by decide +kernel
theorem dX0_map_37 : decode cX0_map 37 = .ok (.aload_n 0, 1) := by decide +kernel
theorem dX0_map_38 : decode cX0_map 38 = .ok (.getfield 9, 3) := by decide +kernel
theorem dX0_map_41 : decode cX0_map 41 = .ok (.iload_n 1, 1) := by decide +kernel
theorem dX0_map_42 : decode cX0_map 42 = .ok (.aload_n 0, 1) := by decide +kernel
theorem dX0_map_43 : decode cX0_map 43 = .ok (.getfield 9, 3) := by decide +kernel
theorem dX0_map_46 : decode cX0_map 46 = .ok (.iload_n 2, 1) := by decide +kernel
theorem dX0_map_47 : decode cX0_map 47 = .ok (.iaload, 1) := by decide +kernel
theorem dX0_map_48 : decode cX0_map 48 = .ok (.iload_n 3, 1) := by decide +kernel
theorem dX0_map_49 : decode cX0_map 49 = .ok (.iload 4, 2) := by decide +kernel
theorem dX0_map_51 : decode cX0_map 51 = .ok (.invokestatic 42, 3) := by decide +kernel
theorem dX0_map_54 : decode cX0_map 54 = .ok (.iastore, 1) := by decide +kernel
theorem dX0_map_55 : decode cX0_map 55 = .ok (.aload_n 0, 1) := by decide +kernel
theorem dX0_map_56 : decode cX0_map 56 = .ok (.getfield 9, 3) := by decide +kernel
theorem dX0_map_59 : decode cX0_map 59 = .ok (.iload_n 1, 1) := by decide +kernel
theorem dX0_map_60 : decode cX0_map 60 = .ok (.iaload, 1) := by decide +kernel
theorem dX0_map_61 : decode cX0_map 61 = .ok (.invokestatic 30, 3) := by decide +kernel
theorem dX0_map_64 : decode cX0_map 64 = .ok (.ireturn, 1) := by decide +kernel
theorem dX0_must_0 : decode cX0_must 0 = .ok (.iload_n 1, 1) := by decide +kernel
theorem dX0_must_1 : decode cX0_must 1 = .ok (.invokestatic 23, 3) := by decide +kernel
theorem dX0_must_4 : decode cX0_must 4 = .ok (.aload_n 0, 1) := by decide +kernel
theorem dX0_must_5 : decode cX0_must 5 = .ok (.aload_n 0, 1) := by decide +kernel
theorem dX0_must_6 : decode cX0_must 6 = .ok (.getfield 9, 3) := by decide +kernel
theorem dX0_must_9 : decode cX0_must 9 = .ok (.iload_n 1, 1) := by decide +kernel
theorem dX0_must_10 : decode cX0_must 10 = .ok (.iaload, 1) := by decide +kernel
theorem dX0_must_11 : decode cX0_must 11 = .ok (.invokevirtual 68, 3) := by decide +kernel
theorem dX0_must_14 : decode cX0_must 14 = .ok (.ireturn, 1) := by decide +kernel
theorem dX0_mustElse_0 : decode cX0_mustElse 0 = .ok (.iload_n 1, 1) := by decide +kernel
theorem dX0_mustElse_1 : decode cX0_mustElse 1 = .ok (.invokestatic 23, 3) := by decide +kernel
theorem dX0_mustElse_4 : decode cX0_mustElse 4 = .ok (.iload_n 2, 1) := by decide +kernel
theorem dX0_mustElse_5 : decode cX0_mustElse 5 = .ok (.invokestatic 27, 3) := by decide +kernel
theorem dX0_mustElse_8 : decode cX0_mustElse 8 = .ok (.aload_n 0, 1) := by decide +kernel
theorem dX0_mustElse_9 : decode cX0_mustElse 9 = .ok (.getfield 9, 3) := by decide +kernel
theorem dX0_mustElse_12 : decode cX0_mustElse 12 = .ok (.iload_n 1, 1) := by decide +kernel
theorem dX0_mustElse_13 : decode cX0_mustElse 13 = .ok (.iaload, 1) := by decide +kernel
theorem dX0_mustElse_14 : decode cX0_mustElse 14 = .ok (.iload_n 2, 1) := by decide +kernel
theorem dX0_mustElse_15 : decode cX0_mustElse 15 = .ok (.invokestatic 52, 3) := by decide +kernel
theorem dX0_mustElse_18 : decode cX0_mustElse 18 = .ok (.ireturn, 1) := by decide +kernel
theorem dX0_numberOrRefused_0 : decode cX0_numberOrRefused 0 = .ok (.iload_n 1, 1) := by decide +kernel
theorem dX0_numberOrRefused_1 : decode cX0_numberOrRefused 1 = .ok (.sipush (-10000), 3) := by decide +kernel
theorem dX0_numberOrRefused_4 : decode cX0_numberOrRefused 4 = .ok (.if_icmp .ne 17, 3) := by decide +kernel
theorem dX0_numberOrRefused_7 : decode cX0_numberOrRefused 7 = .ok (.aload_n 0, 1) := by decide +kernel
theorem dX0_numberOrRefused_8 : decode cX0_numberOrRefused 8 = .ok (.dup, 1) := by decide +kernel
theorem dX0_numberOrRefused_9 : decode cX0_numberOrRefused 9 = .ok (.getfield 121, 3) := by decide +kernel
theorem dX0_numberOrRefused_12 : decode cX0_numberOrRefused 12 = .ok (.iconst 1, 1) := by decide +kernel
theorem dX0_numberOrRefused_13 : decode cX0_numberOrRefused 13 = .ok (.iadd, 1) := by decide +kernel
theorem dX0_numberOrRefused_14 : decode cX0_numberOrRefused 14 = .ok (.putfield 121, 3) := by decide +kernel
theorem dX0_numberOrRefused_17 : decode cX0_numberOrRefused 17 = .ok (.sipush (-9999), 3) := by decide +kernel
theorem dX0_numberOrRefused_20 : decode cX0_numberOrRefused 20 = .ok (.ireturn, 1) := by decide +kernel
theorem dX0_numberOrRefused_21 : decode cX0_numberOrRefused 21 = .ok (.iload_n 1, 1) := by decide +kernel
theorem dX0_numberOrRefused_22 : decode cX0_numberOrRefused 22 = .ok (.ireturn, 1) := by decide +kernel
theorem dX0_or_0 : decode cX0_or 0 = .ok (.iload_n 1, 1) := by decide +kernel
theorem dX0_or_1 : decode cX0_or 1 = .ok (.invokestatic 23, 3) := by decide +kernel
theorem dX0_or_4 : decode cX0_or 4 = .ok (.iload_n 2, 1) := by decide +kernel
theorem dX0_or_5 : decode cX0_or 5 = .ok (.invokestatic 23, 3) := by decide +kernel
theorem dX0_or_8 : decode cX0_or 8 = .ok (.iload_n 3, 1) := by decide +kernel
theorem dX0_or_9 : decode cX0_or 9 = .ok (.invokestatic 23, 3) := by decide +kernel
theorem dX0_or_12 : decode cX0_or 12 = .ok (.aload_n 0, 1) := by decide +kernel
theorem dX0_or_13 : decode cX0_or 13 = .ok (.getfield 9, 3) := by decide +kernel
theorem dX0_or_16 : decode cX0_or 16 = .ok (.iload_n 2, 1) := by decide +kernel
theorem dX0_or_17 : decode cX0_or 17 = .ok (.iaload, 1) := by decide +kernel
theorem dX0_or_18 : decode cX0_or 18 = .ok (.sipush (-10000), 3) := by decide +kernel
theorem dX0_or_21 : decode cX0_or 21 = .ok (.if_icmp .ne 13, 3) := by decide +kernel
theorem dX0_or_24 : decode cX0_or 24 = .ok (.aload_n 0, 1) := by decide +kernel
theorem dX0_or_25 : decode cX0_or 25 = .ok (.dup, 1) := by decide +kernel
theorem dX0_or_26 : decode cX0_or 26 = .ok (.getfield 38, 3) := by decide +kernel
theorem dX0_or_29 : decode cX0_or 29 = .ok (.iconst 1, 1) := by decide +kernel
theorem dX0_or_30 : decode cX0_or 30 = .ok (.iadd, 1) := by decide +kernel
theorem dX0_or_31 : decode cX0_or 31 = .ok (.putfield 38, 3) := by decide +kernel
theorem dX0_or_34 : decode cX0_or 34 = .ok (.aload_n 0, 1) := by decide +kernel
theorem dX0_or_35 : decode cX0_or 35 = .ok (.getfield 9, 3) := by decide +kernel
theorem dX0_or_38 : decode cX0_or 38 = .ok (.iload_n 1, 1) := by decide +kernel
theorem dX0_or_39 : decode cX0_or 39 = .ok (.aload_n 0, 1) := by decide +kernel
theorem dX0_or_40 : decode cX0_or 40 = .ok (.getfield 9, 3) := by decide +kernel
theorem dX0_or_43 : decode cX0_or 43 = .ok (.iload_n 2, 1) := by decide +kernel
theorem dX0_or_44 : decode cX0_or 44 = .ok (.iaload, 1) := by decide +kernel
theorem dX0_or_45 : decode cX0_or 45 = .ok (.aload_n 0, 1) := by decide +kernel
theorem dX0_or_46 : decode cX0_or 46 = .ok (.getfield 9, 3) := by decide +kernel
theorem dX0_or_49 : decode cX0_or 49 = .ok (.iload_n 3, 1) := by decide +kernel
theorem dX0_or_50 : decode cX0_or 50 = .ok (.iaload, 1) := by decide +kernel
theorem dX0_or_51 : decode cX0_or 51 = .ok (.invokestatic 52, 3) := by decide +kernel
theorem dX0_or_54 : decode cX0_or 54 = .ok (.iastore, 1) := by decide +kernel
theorem dX0_or_55 : decode cX0_or 55 = .ok (.aload_n 0, 1) := by decide +kernel
theorem dX0_or_56 : decode cX0_or 56 = .ok (.getfield 9, 3) := by decide +kernel
theorem dX0_or_59 : decode cX0_or 59 = .ok (.iload_n 1, 1) := by decide +kernel
theorem dX0_or_60 : decode cX0_or 60 = .ok (.iaload, 1) := by decide +kernel
theorem dX0_or_61 : decode cX0_or 61 = .ok (.invokestatic 30, 3) := by decide +kernel
theorem dX0_or_64 : decode cX0_or 64 = .ok (.ireturn, 1) := by decide +kernel
theorem dX0_orElse_0 : decode cX0_orElse 0 = .ok (.iload_n 1, 1) := by decide +kernel
theorem dX0_orElse_1 : decode cX0_orElse 1 = .ok (.invokestatic 23, 3) := by decide +kernel
theorem dX0_orElse_4 : decode cX0_orElse 4 = .ok (.iload_n 2, 1) := by decide +kernel
theorem dX0_orElse_5 : decode cX0_orElse 5 = .ok (.invokestatic 27, 3) := by decide +kernel
theorem dX0_orElse_8 : decode cX0_orElse 8 = .ok (.aload_n 0, 1) := by decide +kernel
theorem dX0_orElse_9 : decode cX0_orElse 9 = .ok (.getfield 9, 3) := by decide +kernel
theorem dX0_orElse_12 : decode cX0_orElse 12 = .ok (.iload_n 1, 1) := by decide +kernel
theorem dX0_orElse_13 : decode cX0_orElse 13 = .ok (.iaload, 1) := by decide +kernel
theorem dX0_orElse_14 : decode cX0_orElse 14 = .ok (.iload_n 2, 1) := by decide +kernel
theorem dX0_orElse_15 : decode cX0_orElse 15 = .ok (.invokestatic 52, 3) := by decide +kernel
theorem dX0_orElse_18 : decode cX0_orElse 18 = .ok (.ireturn, 1) := by decide +kernel
theorem dX0_orElseGet_0 : decode cX0_orElseGet 0 = .ok (.iload_n 1, 1) := by decide +kernel
theorem dX0_orElseGet_1 : decode cX0_orElseGet 1 = .ok (.invokestatic 23, 3) := by decide +kernel
theorem dX0_orElseGet_4 : decode cX0_orElseGet 4 = .ok (.iload_n 2, 1) := by decide +kernel
theorem dX0_orElseGet_5 : decode cX0_orElseGet 5 = .ok (.invokestatic 27, 3) := by decide +kernel
theorem dX0_orElseGet_8 : decode cX0_orElseGet 8 = .ok (.aload_n 0, 1) := by decide +kernel
theorem dX0_orElseGet_9 : decode cX0_orElseGet 9 = .ok (.getfield 9, 3) := by decide +kernel
theorem dX0_orElseGet_12 : decode cX0_orElseGet 12 = .ok (.iload_n 1, 1) := by decide +kernel
theorem dX0_orElseGet_13 : decode cX0_orElseGet 13 = .ok (.iaload, 1) := by decide +kernel
theorem dX0_orElseGet_14 : decode cX0_orElseGet 14 = .ok (.sipush (-10000), 3) := by decide +kernel
theorem dX0_orElseGet_17 : decode cX0_orElseGet 17 = .ok (.if_icmp .eq 10, 3) := by decide +kernel
theorem dX0_orElseGet_20 : decode cX0_orElseGet 20 = .ok (.aload_n 0, 1) := by decide +kernel
theorem dX0_orElseGet_21 : decode cX0_orElseGet 21 = .ok (.getfield 9, 3) := by decide +kernel
theorem dX0_orElseGet_24 : decode cX0_orElseGet 24 = .ok (.iload_n 1, 1) := by decide +kernel
theorem dX0_orElseGet_25 : decode cX0_orElseGet 25 = .ok (.iaload, 1) := by decide +kernel
theorem dX0_orElseGet_26 : decode cX0_orElseGet 26 = .ok (.ireturn, 1) := by decide +kernel
theorem dX0_orElseGet_27 : decode cX0_orElseGet 27 = .ok (.aload_n 0, 1) := by decide +kernel
theorem dX0_orElseGet_28 : decode cX0_orElseGet 28 = .ok (.getfield 38, 3) := by decide +kernel
theorem dX0_orElseGet_31 : decode cX0_orElseGet 31 = .ok (.iload_n 2, 1) := by decide +kernel
theorem dX0_orElseGet_32 : decode cX0_orElseGet 32 = .ok (.iadd, 1) := by decide +kernel
theorem dX0_orElseGet_33 : decode cX0_orElseGet 33 = .ok (.istore_n 3, 1) := by decide +kernel
theorem dX0_orElseGet_34 : decode cX0_orElseGet 34 = .ok (.aload_n 0, 1) := by decide +kernel
theorem dX0_orElseGet_35 : decode cX0_orElseGet 35 = .ok (.dup, 1) := by decide +kernel
theorem dX0_orElseGet_36 : decode cX0_orElseGet 36 = .ok (.getfield 38, 3) := by decide +kernel
theorem dX0_orElseGet_39 : decode cX0_orElseGet 39 = .ok (.iconst 1, 1) := by decide +kernel
theorem dX0_orElseGet_40 : decode cX0_orElseGet 40 = .ok (.iadd, 1) := by decide +kernel
theorem dX0_orElseGet_41 : decode cX0_orElseGet 41 = .ok (.putfield 38, 3) := by decide +kernel
theorem dX0_orElseGet_44 : decode cX0_orElseGet 44 = .ok (.iload_n 3, 1) := by decide +kernel
theorem dX0_orElseGet_45 : decode cX0_orElseGet 45 = .ok (.ireturn, 1) := by decide +kernel
theorem dX0_orElsePlain_0 : decode cX0_orElsePlain 0 = .ok (.iload_n 1, 1) := by decide +kernel
theorem dX0_orElsePlain_1 : decode cX0_orElsePlain 1 = .ok (.invokestatic 85, 3) := by decide +kernel
theorem dX0_orElsePlain_4 : decode cX0_orElsePlain 4 = .ok (.iload_n 2, 1) := by decide +kernel
theorem dX0_orElsePlain_5 : decode cX0_orElsePlain 5 = .ok (.invokestatic 27, 3) := by decide +kernel
theorem dX0_orElsePlain_8 : decode cX0_orElsePlain 8 = .ok (.aload_n 0, 1) := by decide +kernel
theorem dX0_orElsePlain_9 : decode cX0_orElsePlain 9 = .ok (.getfield 13, 3) := by decide +kernel
theorem dX0_orElsePlain_12 : decode cX0_orElsePlain 12 = .ok (.iload_n 1, 1) := by decide +kernel
theorem dX0_orElsePlain_13 : decode cX0_orElsePlain 13 = .ok (.iaload, 1) := by decide +kernel
theorem dX0_orElsePlain_14 : decode cX0_orElsePlain 14 = .ok (.iload_n 2, 1) := by decide +kernel
theorem dX0_orElsePlain_15 : decode cX0_orElsePlain 15 = .ok (.invokestatic 52, 3) := by decide +kernel
theorem dX0_orElsePlain_18 : decode cX0_orElsePlain 18 = .ok (.ireturn, 1) := by decide +kernel
theorem dX0_orElseThrow_0 : decode cX0_orElseThrow 0 = .ok (.iload_n 1, 1) := by decide +kernel
theorem dX0_orElseThrow_1 : decode cX0_orElseThrow 1 = .ok (.invokestatic 23, 3) := by decide +kernel
theorem dX0_orElseThrow_4 : decode cX0_orElseThrow 4 = .ok (.aload_n 0, 1) := by decide +kernel
theorem dX0_orElseThrow_5 : decode cX0_orElseThrow 5 = .ok (.getfield 9, 3) := by decide +kernel
theorem dX0_orElseThrow_8 : decode cX0_orElseThrow 8 = .ok (.iload_n 1, 1) := by decide +kernel
theorem dX0_orElseThrow_9 : decode cX0_orElseThrow 9 = .ok (.iaload, 1) := by decide +kernel
theorem dX0_orElseThrow_10 : decode cX0_orElseThrow 10 = .ok (.sipush (-10000), 3) := by decide +kernel
theorem dX0_orElseThrow_13 : decode cX0_orElseThrow 13 = .ok (.if_icmp .ne 13, 3) := by decide +kernel
theorem dX0_orElseThrow_16 : decode cX0_orElseThrow 16 = .ok (.new 71, 3) := by decide +kernel
theorem dX0_orElseThrow_19 : decode cX0_orElseThrow 19 = .ok (.dup, 1) := by decide +kernel
theorem dX0_orElseThrow_20 : decode cX0_orElseThrow 20 = .ok (.ldc 73, 2) := by decide +kernel
theorem dX0_orElseThrow_22 : decode cX0_orElseThrow 22 = .ok (.invokespecial 75, 3) := by decide +kernel
theorem dX0_orElseThrow_25 : decode cX0_orElseThrow 25 = .ok (.athrow, 1) := by decide +kernel
theorem dX0_orElseThrow_26 : decode cX0_orElseThrow 26 = .ok (.aload_n 0, 1) := by decide +kernel
theorem dX0_orElseThrow_27 : decode cX0_orElseThrow 27 = .ok (.getfield 9, 3) := by decide +kernel
theorem dX0_orElseThrow_30 : decode cX0_orElseThrow 30 = .ok (.iload_n 1, 1) := by decide +kernel
theorem dX0_orElseThrow_31 : decode cX0_orElseThrow 31 = .ok (.iaload, 1) := by decide +kernel
theorem dX0_orElseThrow_32 : decode cX0_orElseThrow 32 = .ok (.ireturn, 1) := by decide +kernel
theorem dX0_place_0 : decode cX0_place 0 = .ok (.iload_n 2, 1) := by decide +kernel
theorem dX0_place_1 : decode cX0_place 1 = .ok (.ifCond .lt 10, 3) := by decide +kernel
theorem dX0_place_4 : decode cX0_place 4 = .ok (.iload_n 2, 1) := by decide +kernel
theorem dX0_place_5 : decode cX0_place 5 = .ok (.sipush 999, 3) := by decide +kernel
theorem dX0_place_8 : decode cX0_place 8 = .ok (.if_icmp .le 13, 3) := by decide +kernel
theorem dX0_place_11 : decode cX0_place 11 = .ok (.new 98, 3) := by decide +kernel
theorem dX0_place_14 : decode cX0_place 14 = .ok (.dup, 1) := by decide +kernel
theorem dX0_place_15 : decode cX0_place 15 = .ok (.ldc 100, 2) := by decide +kernel
theorem dX0_place_17 : decode cX0_place 17 = .ok (.invokespecial 102, 3) := by decide +kernel
theorem dX0_place_20 : decode cX0_place 20 = .ok (.athrow, 1) := by decide +kernel
theorem dX0_place_21 : decode cX0_place 21 = .ok (.iload_n 1, 1) := by decide +kernel
theorem dX0_place_22 : decode cX0_place 22 = .ok (.ifCond .lt 8, 3) := by decide +kernel
theorem dX0_place_25 : decode cX0_place 25 = .ok (.iload_n 1, 1) := by decide +kernel
theorem dX0_place_26 : decode cX0_place 26 = .ok (.iload_n 2, 1) := by decide +kernel
theorem dX0_place_27 : decode cX0_place 27 = .ok (.if_icmp .lt 13, 3) := by decide +kernel
theorem dX0_place_30 : decode cX0_place 30 = .ok (.new 103, 3) := by decide +kernel
theorem dX0_place_33 : decode cX0_place 33 = .ok (.dup, 1) := by decide +kernel
theorem dX0_place_34 : decode cX0_place 34 = .ok (.ldc 105, 2) := by decide +kernel
theorem dX0_place_36 : decode cX0_place 36 = .ok (.invokespecial 107, 3) := by decide +kernel
theorem dX0_place_39 : decode cX0_place 39 = .ok (.athrow, 1) := by decide +kernel
theorem dX0_place_40 : decode cX0_place 40 = .ok (.iload_n 1, 1) := by decide +kernel
theorem dX0_place_41 : decode cX0_place 41 = .ok (.ireturn, 1) := by decide +kernel
theorem dX0_take_0 : decode cX0_take 0 = .ok (.iload_n 1, 1) := by decide +kernel
theorem dX0_take_1 : decode cX0_take 1 = .ok (.invokestatic 23, 3) := by decide +kernel
theorem dX0_take_4 : decode cX0_take 4 = .ok (.aload_n 0, 1) := by decide +kernel
theorem dX0_take_5 : decode cX0_take 5 = .ok (.aload_n 0, 1) := by decide +kernel
theorem dX0_take_6 : decode cX0_take 6 = .ok (.getfield 9, 3) := by decide +kernel
theorem dX0_take_9 : decode cX0_take 9 = .ok (.iload_n 1, 1) := by decide +kernel
theorem dX0_take_10 : decode cX0_take 10 = .ok (.iaload, 1) := by decide +kernel
theorem dX0_take_11 : decode cX0_take 11 = .ok (.invokevirtual 59, 3) := by decide +kernel
theorem dX0_take_14 : decode cX0_take 14 = .ok (.aload_n 0, 1) := by decide +kernel
theorem dX0_take_15 : decode cX0_take 15 = .ok (.getfield 62, 3) := by decide +kernel
theorem dX0_take_18 : decode cX0_take 18 = .ok (.ireturn, 1) := by decide +kernel
theorem dX0_takeOrLeave_0 : decode cX0_takeOrLeave 0 = .ok (.iload_n 1, 1) := by decide +kernel
theorem dX0_takeOrLeave_1 : decode cX0_takeOrLeave 1 = .ok (.invokestatic 23, 3) := by decide +kernel
theorem dX0_takeOrLeave_4 : decode cX0_takeOrLeave 4 = .ok (.aload_n 0, 1) := by decide +kernel
theorem dX0_takeOrLeave_5 : decode cX0_takeOrLeave 5 = .ok (.aload_n 0, 1) := by decide +kernel
theorem dX0_takeOrLeave_6 : decode cX0_takeOrLeave 6 = .ok (.getfield 9, 3) := by decide +kernel
theorem dX0_takeOrLeave_9 : decode cX0_takeOrLeave 9 = .ok (.iload_n 1, 1) := by decide +kernel
theorem dX0_takeOrLeave_10 : decode cX0_takeOrLeave 10 = .ok (.iaload, 1) := by decide +kernel
theorem dX0_takeOrLeave_11 : decode cX0_takeOrLeave 11 = .ok (.invokevirtual 59, 3) := by decide +kernel
theorem dX0_takeOrLeave_14 : decode cX0_takeOrLeave 14 = .ok (.aload_n 0, 1) := by decide +kernel
theorem dX0_takeOrLeave_15 : decode cX0_takeOrLeave 15 = .ok (.getfield 9, 3) := by decide +kernel
theorem dX0_takeOrLeave_18 : decode cX0_takeOrLeave 18 = .ok (.iload_n 1, 1) := by decide +kernel
theorem dX0_takeOrLeave_19 : decode cX0_takeOrLeave 19 = .ok (.iaload, 1) := by decide +kernel
theorem dX0_takeOrLeave_20 : decode cX0_takeOrLeave 20 = .ok (.sipush (-10000), 3) := by decide +kernel
theorem dX0_takeOrLeave_23 : decode cX0_takeOrLeave 23 = .ok (.if_icmp .ne 23, 3) := by decide +kernel
theorem dX0_takeOrLeave_26 : decode cX0_takeOrLeave 26 = .ok (.aload_n 0, 1) := by decide +kernel
theorem dX0_takeOrLeave_27 : decode cX0_takeOrLeave 27 = .ok (.dup, 1) := by decide +kernel
theorem dX0_takeOrLeave_28 : decode cX0_takeOrLeave 28 = .ok (.getfield 38, 3) := by decide +kernel
theorem dX0_takeOrLeave_31 : decode cX0_takeOrLeave 31 = .ok (.iconst 1, 1) := by decide +kernel
theorem dX0_takeOrLeave_32 : decode cX0_takeOrLeave 32 = .ok (.iadd, 1) := by decide +kernel
theorem dX0_takeOrLeave_33 : decode cX0_takeOrLeave 33 = .ok (.putfield 38, 3) := by decide +kernel
theorem dX0_takeOrLeave_36 : decode cX0_takeOrLeave 36 = .ok (.aload_n 0, 1) := by decide +kernel
theorem dX0_takeOrLeave_37 : decode cX0_takeOrLeave 37 = .ok (.dup, 1) := by decide +kernel
theorem dX0_takeOrLeave_38 : decode cX0_takeOrLeave 38 = .ok (.getfield 65, 3) := by decide +kernel
theorem dX0_takeOrLeave_41 : decode cX0_takeOrLeave 41 = .ok (.iconst 1, 1) := by decide +kernel
theorem dX0_takeOrLeave_42 : decode cX0_takeOrLeave 42 = .ok (.iadd, 1) := by decide +kernel
theorem dX0_takeOrLeave_43 : decode cX0_takeOrLeave 43 = .ok (.putfield 65, 3) := by decide +kernel
theorem dX0_takeOrLeave_46 : decode cX0_takeOrLeave 46 = .ok (.aload_n 0, 1) := by decide +kernel
theorem dX0_takeOrLeave_47 : decode cX0_takeOrLeave 47 = .ok (.getfield 62, 3) := by decide +kernel
theorem dX0_takeOrLeave_50 : decode cX0_takeOrLeave 50 = .ok (.ireturn, 1) := by decide +kernel
theorem dX0_takePlain_0 : decode cX0_takePlain 0 = .ok (.iload_n 1, 1) := by decide +kernel
theorem dX0_takePlain_1 : decode cX0_takePlain 1 = .ok (.invokestatic 85, 3) := by decide +kernel
theorem dX0_takePlain_4 : decode cX0_takePlain 4 = .ok (.aload_n 0, 1) := by decide +kernel
theorem dX0_takePlain_5 : decode cX0_takePlain 5 = .ok (.aload_n 0, 1) := by decide +kernel
theorem dX0_takePlain_6 : decode cX0_takePlain 6 = .ok (.getfield 13, 3) := by decide +kernel
theorem dX0_takePlain_9 : decode cX0_takePlain 9 = .ok (.iload_n 1, 1) := by decide +kernel
theorem dX0_takePlain_10 : decode cX0_takePlain 10 = .ok (.iaload, 1) := by decide +kernel
theorem dX0_takePlain_11 : decode cX0_takePlain 11 = .ok (.invokevirtual 59, 3) := by decide +kernel
theorem dX0_takePlain_14 : decode cX0_takePlain 14 = .ok (.aload_n 0, 1) := by decide +kernel
theorem dX0_takePlain_15 : decode cX0_takePlain 15 = .ok (.getfield 62, 3) := by decide +kernel
theorem dX0_takePlain_18 : decode cX0_takePlain 18 = .ok (.ireturn, 1) := by decide +kernel
theorem dX0_toPlain_0 : decode cX0_toPlain 0 = .ok (.iload_n 1, 1) := by decide +kernel
theorem dX0_toPlain_1 : decode cX0_toPlain 1 = .ok (.invokestatic 85, 3) := by decide +kernel
theorem dX0_toPlain_4 : decode cX0_toPlain 4 = .ok (.iload_n 2, 1) := by decide +kernel
theorem dX0_toPlain_5 : decode cX0_toPlain 5 = .ok (.invokestatic 23, 3) := by decide +kernel
theorem dX0_toPlain_8 : decode cX0_toPlain 8 = .ok (.aload_n 0, 1) := by decide +kernel
theorem dX0_toPlain_9 : decode cX0_toPlain 9 = .ok (.getfield 13, 3) := by decide +kernel
theorem dX0_toPlain_12 : decode cX0_toPlain 12 = .ok (.iload_n 1, 1) := by decide +kernel
theorem dX0_toPlain_13 : decode cX0_toPlain 13 = .ok (.aload_n 0, 1) := by decide +kernel
theorem dX0_toPlain_14 : decode cX0_toPlain 14 = .ok (.getfield 9, 3) := by decide +kernel
theorem dX0_toPlain_17 : decode cX0_toPlain 17 = .ok (.iload_n 2, 1) := by decide +kernel
theorem dX0_toPlain_18 : decode cX0_toPlain 18 = .ok (.iaload, 1) := by decide +kernel
theorem dX0_toPlain_19 : decode cX0_toPlain 19 = .ok (.iastore, 1) := by decide +kernel
theorem dX0_toPlain_20 : decode cX0_toPlain 20 = .ok (.aload_n 0, 1) := by decide +kernel
theorem dX0_toPlain_21 : decode cX0_toPlain 21 = .ok (.getfield 13, 3) := by decide +kernel
theorem dX0_toPlain_24 : decode cX0_toPlain 24 = .ok (.iload_n 1, 1) := by decide +kernel
theorem dX0_toPlain_25 : decode cX0_toPlain 25 = .ok (.iaload, 1) := by decide +kernel
theorem dX0_toPlain_26 : decode cX0_toPlain 26 = .ok (.invokestatic 30, 3) := by decide +kernel
theorem dX0_toPlain_29 : decode cX0_toPlain 29 = .ok (.ireturn, 1) := by decide +kernel
theorem dX0_turn_0 : decode cX0_turn 0 = .ok (.iload_n 1, 1) := by decide +kernel
theorem dX0_turn_1 : decode cX0_turn 1 = .ok (.invokestatic 23, 3) := by decide +kernel
theorem dX0_turn_4 : decode cX0_turn 4 = .ok (.iload_n 2, 1) := by decide +kernel
theorem dX0_turn_5 : decode cX0_turn 5 = .ok (.invokestatic 23, 3) := by decide +kernel
theorem dX0_turn_8 : decode cX0_turn 8 = .ok (.iload_n 3, 1) := by decide +kernel
theorem dX0_turn_9 : decode cX0_turn 9 = .ok (.bipush 6, 2) := by decide +kernel
theorem dX0_turn_11 : decode cX0_turn 11 = .ok (.invokestatic 34, 3) := by decide +kernel
theorem dX0_turn_14 : decode cX0_turn 14 = .ok (.iload 4, 2) := by decide +kernel
theorem dX0_turn_16 : decode cX0_turn 16 = .ok (.invokestatic 27, 3) := by decide +kernel
theorem dX0_turn_19 : decode cX0_turn 19 = .ok (.aload_n 0, 1) := by decide +kernel
theorem dX0_turn_20 : decode cX0_turn 20 = .ok (.dup, 1) := by decide +kernel
theorem dX0_turn_21 : decode cX0_turn 21 = .ok (.getfield 38, 3) := by decide +kernel
theorem dX0_turn_24 : decode cX0_turn 24 = .ok (.aload_n 0, 1) := by decide +kernel
theorem dX0_turn_25 : decode cX0_turn 25 = .ok (.getfield 9, 3) := by decide +kernel
theorem dX0_turn_28 : decode cX0_turn 28 = .ok (.iload_n 2, 1) := by decide +kernel
theorem dX0_turn_29 : decode cX0_turn 29 = .ok (.iaload, 1) := by decide +kernel
theorem dX0_turn_30 : decode cX0_turn 30 = .ok (.invokestatic 30, 3) := by decide +kernel
theorem dX0_turn_33 : decode cX0_turn 33 = .ok (.iadd, 1) := by decide +kernel
theorem dX0_turn_34 : decode cX0_turn 34 = .ok (.putfield 38, 3) := by decide +kernel
theorem dX0_turn_37 : decode cX0_turn 37 = .ok (.aload_n 0, 1) := by decide +kernel
theorem dX0_turn_38 : decode cX0_turn 38 = .ok (.getfield 9, 3) := by decide +kernel
theorem dX0_turn_41 : decode cX0_turn 41 = .ok (.iload_n 1, 1) := by decide +kernel
theorem dX0_turn_42 : decode cX0_turn 42 = .ok (.aload_n 0, 1) := by decide +kernel
theorem dX0_turn_43 : decode cX0_turn 43 = .ok (.aload_n 0, 1) := by decide +kernel
theorem dX0_turn_44 : decode cX0_turn 44 = .ok (.getfield 9, 3) := by decide +kernel
theorem dX0_turn_47 : decode cX0_turn 47 = .ok (.iload_n 2, 1) := by decide +kernel
theorem dX0_turn_48 : decode cX0_turn 48 = .ok (.iaload, 1) := by decide +kernel
theorem dX0_turn_49 : decode cX0_turn 49 = .ok (.iload_n 3, 1) := by decide +kernel
theorem dX0_turn_50 : decode cX0_turn 50 = .ok (.iload 4, 2) := by decide +kernel
theorem dX0_turn_52 : decode cX0_turn 52 = .ok (.invokevirtual 46, 3) := by decide +kernel
theorem dX0_turn_55 : decode cX0_turn 55 = .ok (.iastore, 1) := by decide +kernel
theorem dX0_turn_56 : decode cX0_turn 56 = .ok (.aload_n 0, 1) := by decide +kernel
theorem dX0_turn_57 : decode cX0_turn 57 = .ok (.getfield 9, 3) := by decide +kernel
theorem dX0_turn_60 : decode cX0_turn 60 = .ok (.iload_n 1, 1) := by decide +kernel
theorem dX0_turn_61 : decode cX0_turn 61 = .ok (.iaload, 1) := by decide +kernel
theorem dX0_turn_62 : decode cX0_turn 62 = .ok (.invokestatic 30, 3) := by decide +kernel
theorem dX0_turn_65 : decode cX0_turn 65 = .ok (.ireturn, 1) := by decide +kernel
theorem dX0_turnMakes_0 : decode cX0_turnMakes 0 = .ok (.iload_n 1, 1) := by decide +kernel
theorem dX0_turnMakes_1 : decode cX0_turnMakes 1 = .ok (.tableswitch 71 0 4 #[35, 42, 58, 65, 69], 35) := by decide +kernel
theorem dX0_turnMakes_36 : decode cX0_turnMakes 36 = .ok (.iload_n 2, 1) := by decide +kernel
theorem dX0_turnMakes_37 : decode cX0_turnMakes 37 = .ok (.iload_n 3, 1) := by decide +kernel
theorem dX0_turnMakes_38 : decode cX0_turnMakes 38 = .ok (.iadd, 1) := by decide +kernel
theorem dX0_turnMakes_39 : decode cX0_turnMakes 39 = .ok (.invokestatic 182, 3) := by decide +kernel
theorem dX0_turnMakes_42 : decode cX0_turnMakes 42 = .ok (.ireturn, 1) := by decide +kernel
theorem dX0_turnMakes_43 : decode cX0_turnMakes 43 = .ok (.iload_n 2, 1) := by decide +kernel
theorem dX0_turnMakes_44 : decode cX0_turnMakes 44 = .ok (.iconst 2, 1) := by decide +kernel
theorem dX0_turnMakes_45 : decode cX0_turnMakes 45 = .ok (.irem, 1) := by decide +kernel
theorem dX0_turnMakes_46 : decode cX0_turnMakes 46 = .ok (.ifCond .ne 9, 3) := by decide +kernel
theorem dX0_turnMakes_49 : decode cX0_turnMakes 49 = .ok (.iload_n 2, 1) := by decide +kernel
theorem dX0_turnMakes_50 : decode cX0_turnMakes 50 = .ok (.iconst 2, 1) := by decide +kernel
theorem dX0_turnMakes_51 : decode cX0_turnMakes 51 = .ok (.idiv, 1) := by decide +kernel
theorem dX0_turnMakes_52 : decode cX0_turnMakes 52 = .ok (.goto 6, 3) := by decide +kernel
theorem dX0_turnMakes_55 : decode cX0_turnMakes 55 = .ok (.sipush (-10000), 3) := by decide +kernel
theorem dX0_turnMakes_58 : decode cX0_turnMakes 58 = .ok (.ireturn, 1) := by decide +kernel
theorem dX0_turnMakes_59 : decode cX0_turnMakes 59 = .ok (.iload_n 2, 1) := by decide +kernel
theorem dX0_turnMakes_60 : decode cX0_turnMakes 60 = .ok (.iload_n 3, 1) := by decide +kernel
theorem dX0_turnMakes_61 : decode cX0_turnMakes 61 = .ok (.isub, 1) := by decide +kernel
theorem dX0_turnMakes_62 : decode cX0_turnMakes 62 = .ok (.invokestatic 182, 3) := by decide +kernel
theorem dX0_turnMakes_65 : decode cX0_turnMakes 65 = .ok (.ireturn, 1) := by decide +kernel
theorem dX0_turnMakes_66 : decode cX0_turnMakes 66 = .ok (.sipush (-10000), 3) := by decide +kernel
theorem dX0_turnMakes_69 : decode cX0_turnMakes 69 = .ok (.ireturn, 1) := by decide +kernel
theorem dX0_turnMakes_70 : decode cX0_turnMakes 70 = .ok (.iload_n 2, 1) := by decide +kernel
theorem dX0_turnMakes_71 : decode cX0_turnMakes 71 = .ok (.ireturn, 1) := by decide +kernel
theorem dX0_turnMakes_72 : decode cX0_turnMakes 72 = .ok (.aload_n 0, 1) := by decide +kernel
theorem dX0_turnMakes_73 : decode cX0_turnMakes 73 = .ok (.getfield 9, 3) := by decide +kernel
theorem dX0_turnMakes_76 : decode cX0_turnMakes 76 = .ok (.iload_n 2, 1) := by decide +kernel
theorem dX0_turnMakes_77 : decode cX0_turnMakes 77 = .ok (.bipush 6, 2) := by decide +kernel
theorem dX0_turnMakes_79 : decode cX0_turnMakes 79 = .ok (.invokestatic 185, 3) := by decide +kernel
theorem dX0_turnMakes_82 : decode cX0_turnMakes 82 = .ok (.iaload, 1) := by decide +kernel
theorem dX0_turnMakes_83 : decode cX0_turnMakes 83 = .ok (.ireturn, 1) := by decide +kernel
theorem dX0_turned_0 : decode cX0_turned 0 = .ok (.iload_n 1, 1) := by decide +kernel
theorem dX0_turned_1 : decode cX0_turned 1 = .ok (.sipush (-10000), 3) := by decide +kernel
theorem dX0_turned_4 : decode cX0_turned 4 = .ok (.if_icmp .ne 9, 3) := by decide +kernel
theorem dX0_turned_7 : decode cX0_turned 7 = .ok (.sipush (-10000), 3) := by decide +kernel
theorem dX0_turned_10 : decode cX0_turned 10 = .ok (.goto 10, 3) := by decide +kernel
theorem dX0_turned_13 : decode cX0_turned 13 = .ok (.aload_n 0, 1) := by decide +kernel
theorem dX0_turned_14 : decode cX0_turned 14 = .ok (.iload_n 2, 1) := by decide +kernel
theorem dX0_turned_15 : decode cX0_turned 15 = .ok (.iload_n 1, 1) := by decide +kernel
theorem dX0_turned_16 : decode cX0_turned 16 = .ok (.iload_n 3, 1) := by decide +kernel
theorem dX0_turned_17 : decode cX0_turned 17 = .ok (.invokevirtual 191, 3) := by decide +kernel
theorem dX0_turned_20 : decode cX0_turned 20 = .ok (.ireturn, 1) := by decide +kernel
theorem dX0_turnedByBoth_0 : decode cX0_turnedByBoth 0 = .ok (.iload_n 1, 1) := by decide +kernel
theorem dX0_turnedByBoth_1 : decode cX0_turnedByBoth 1 = .ok (.sipush (-10000), 3) := by decide +kernel
theorem dX0_turnedByBoth_4 : decode cX0_turnedByBoth 4 = .ok (.if_icmp .ne 7, 3) := by decide +kernel
theorem dX0_turnedByBoth_7 : decode cX0_turnedByBoth 7 = .ok (.sipush (-10000), 3) := by decide +kernel
theorem dX0_turnedByBoth_10 : decode cX0_turnedByBoth 10 = .ok (.ireturn, 1) := by decide +kernel
theorem dX0_turnedByBoth_11 : decode cX0_turnedByBoth 11 = .ok (.aload_n 0, 1) := by decide +kernel
theorem dX0_turnedByBoth_12 : decode cX0_turnedByBoth 12 = .ok (.aload_n 0, 1) := by decide +kernel
theorem dX0_turnedByBoth_13 : decode cX0_turnedByBoth 13 = .ok (.iload_n 2, 1) := by decide +kernel
theorem dX0_turnedByBoth_14 : decode cX0_turnedByBoth 14 = .ok (.iload_n 1, 1) := by decide +kernel
theorem dX0_turnedByBoth_15 : decode cX0_turnedByBoth 15 = .ok (.iconst 3, 1) := by decide +kernel
theorem dX0_turnedByBoth_16 : decode cX0_turnedByBoth 16 = .ok (.invokevirtual 191, 3) := by decide +kernel
theorem dX0_turnedByBoth_19 : decode cX0_turnedByBoth 19 = .ok (.iload_n 3, 1) := by decide +kernel
theorem dX0_turnedByBoth_20 : decode cX0_turnedByBoth 20 = .ok (.iconst 3, 1) := by decide +kernel
theorem dX0_turnedByBoth_21 : decode cX0_turnedByBoth 21 = .ok (.invokevirtual 46, 3) := by decide +kernel
theorem dX0_turnedByBoth_24 : decode cX0_turnedByBoth 24 = .ok (.ireturn, 1) := by decide +kernel
theorem dX0_wrap_0 : decode cX0_wrap 0 = .ok (.iload_n 1, 1) := by decide +kernel
theorem dX0_wrap_1 : decode cX0_wrap 1 = .ok (.invokestatic 23, 3) := by decide +kernel
theorem dX0_wrap_4 : decode cX0_wrap 4 = .ok (.iload_n 2, 1) := by decide +kernel
theorem dX0_wrap_5 : decode cX0_wrap 5 = .ok (.invokestatic 23, 3) := by decide +kernel
theorem dX0_wrap_8 : decode cX0_wrap 8 = .ok (.aload_n 0, 1) := by decide +kernel
theorem dX0_wrap_9 : decode cX0_wrap 9 = .ok (.getfield 9, 3) := by decide +kernel
theorem dX0_wrap_12 : decode cX0_wrap 12 = .ok (.iload_n 1, 1) := by decide +kernel
theorem dX0_wrap_13 : decode cX0_wrap 13 = .ok (.aload_n 0, 1) := by decide +kernel
theorem dX0_wrap_14 : decode cX0_wrap 14 = .ok (.getfield 9, 3) := by decide +kernel
theorem dX0_wrap_17 : decode cX0_wrap 17 = .ok (.iload_n 2, 1) := by decide +kernel
theorem dX0_wrap_18 : decode cX0_wrap 18 = .ok (.iaload, 1) := by decide +kernel
theorem dX0_wrap_19 : decode cX0_wrap 19 = .ok (.invokestatic 56, 3) := by decide +kernel
theorem dX0_wrap_22 : decode cX0_wrap 22 = .ok (.iastore, 1) := by decide +kernel
theorem dX0_wrap_23 : decode cX0_wrap 23 = .ok (.aload_n 0, 1) := by decide +kernel
theorem dX0_wrap_24 : decode cX0_wrap 24 = .ok (.getfield 9, 3) := by decide +kernel
theorem dX0_wrap_27 : decode cX0_wrap 27 = .ok (.iload_n 1, 1) := by decide +kernel
theorem dX0_wrap_28 : decode cX0_wrap 28 = .ok (.iaload, 1) := by decide +kernel
theorem dX0_wrap_29 : decode cX0_wrap 29 = .ok (.invokestatic 30, 3) := by decide +kernel
theorem dX0_wrap_32 : decode cX0_wrap 32 = .ok (.ireturn, 1) := by decide +kernel
def v_X0_turnMakes (k1 : Int32) (n1 : Int32) (y1 : Int32) (f : Nat → Int32) : Int32 := if k1 = 0 then v_X0_naturalOrNothing (n1 + y1) else (if k1 = 1 then (if (n1 - ((n1 / 2) * 2)) = 0 then n1 / 2 else (-10000)) else (if k1 = 2 then v_X0_naturalOrNothing (n1 - y1) else (if k1 = 3 then (-10000) else (if k1 = 4 then n1 else f (v_J9_floorMod_7cf53 n1).toNatClampNeg))))
set_option maxRecDepth 100000 in
set_option maxHeartbeats 4000000 in
theorem r_X0_turnMakes (l : Launch) (D : va_G) (cI cB : ClassId) (x bx px tx : Nat) (f g : Nat → Int32) (ak su gt lf rf kn : Int32) (k1 : Int32) (n1 : Int32) (y1 : Int32) : RD l yX0_turnMakes cX0_turnMakes 4 (some .int) ({ frames := 1, cells := 0, slots := 0, locals := 22 } : Room) D cI cB [.ref x, .int k1, .int n1, .int y1] (wX cI x bx px tx f g ak su gt lf rf kn) (v_X0_turnMakes k1 n1 y1 f) := by
  refine bodyRD (by decide +kernel) (Nat.le_of_ble_eq_true rfl) (fun p e s m args below meth c ls FX hr hlk hK hP hl => ?_)
  have hl : lv_has ls 4 [(0, .ref x), (1, .int k1), (2, .int n1), (3, .int y1)] := hl
  refine lv_iload_n FX.1 FX.2.1 dX0_turnMakes_0 rfl (lv_at hl 1 rfl) ?_
  by_cases c_1 : k1 = 0
  · refine lv_tableIn (off := 35) (tgt := 36) FX.1 FX.2.1 dX0_turnMakes_1 (by rw [c_1]; decide) (by rw [c_1]; decide) (by rw [c_1]; rfl) (by decide) ?_
    refine lv_iload_n FX.1 FX.2.1 dX0_turnMakes_36 rfl (lv_at hl 2 rfl) ?_
    refine lv_iload_n FX.1 FX.2.1 dX0_turnMakes_37 rfl (lv_at hl 3 rfl) ?_
    refine lv_iadd FX.1 FX.2.1 dX0_turnMakes_38 ?_
    refine c_RDs FX (r_X0_naturalOrNothing l D cI cB (n1 + y1)) mi_X0_naturalOrNothing rfl ml_RX0_182 (RMok.mk) hl.1 rfl (Nat.le_of_ble_eq_true rfl) dX0_turnMakes_39 (by decide) hK hP [] rfl ?_
    exact retRD FX hr hlk dX0_turnMakes_42 rfl (by rw [v_X0_turnMakes, if_pos c_1])
  · by_cases c_2 : k1 = 1
    · refine lv_tableIn (off := 42) (tgt := 43) FX.1 FX.2.1 dX0_turnMakes_1 (by rw [c_2]; decide) (by rw [c_2]; decide) (by rw [c_2]; rfl) (by decide) ?_
      refine lv_iload_n FX.1 FX.2.1 dX0_turnMakes_43 rfl (lv_at hl 2 rfl) ?_
      refine lv_iconst (v := 2) FX.1 FX.2.1 dX0_turnMakes_44 (by decide) ?_
      refine lv_irem FX.1 FX.2.1 dX0_turnMakes_45 (by decide) ?_
      refine lv_if_ne (tgt := 55) FX.1 FX.2.1 dX0_turnMakes_46 (by decide) (fun c_3 => ?_) (fun c_3 => ?_)
      · refine lv_sipush (v := (-10000)) FX.1 FX.2.1 dX0_turnMakes_55 (by decide) ?_
        exact retRD FX hr hlk dX0_turnMakes_58 rfl (by rw [v_X0_turnMakes, if_neg c_1, if_pos c_2, if_neg c_3])
      · refine lv_iload_n FX.1 FX.2.1 dX0_turnMakes_49 rfl (lv_at hl 2 rfl) ?_
        refine lv_iconst (v := 2) FX.1 FX.2.1 dX0_turnMakes_50 (by decide) ?_
        refine lv_idiv FX.1 FX.2.1 dX0_turnMakes_51 (by decide) ?_
        refine lv_goto (tgt := 58) FX.1 FX.2.1 dX0_turnMakes_52 (by decide) ?_
        exact retRD FX hr hlk dX0_turnMakes_58 rfl (by rw [v_X0_turnMakes, if_neg c_1, if_pos c_2, if_pos c_3])
    · by_cases c_4 : k1 = 2
      · refine lv_tableIn (off := 58) (tgt := 59) FX.1 FX.2.1 dX0_turnMakes_1 (by rw [c_4]; decide) (by rw [c_4]; decide) (by rw [c_4]; rfl) (by decide) ?_
        refine lv_iload_n FX.1 FX.2.1 dX0_turnMakes_59 rfl (lv_at hl 2 rfl) ?_
        refine lv_iload_n FX.1 FX.2.1 dX0_turnMakes_60 rfl (lv_at hl 3 rfl) ?_
        refine lv_isub FX.1 FX.2.1 dX0_turnMakes_61 ?_
        refine c_RDs FX (r_X0_naturalOrNothing l D cI cB (n1 - y1)) mi_X0_naturalOrNothing rfl ml_RX0_182 (RMok.mk) hl.1 rfl (Nat.le_of_ble_eq_true rfl) dX0_turnMakes_62 (by decide) hK hP [] rfl ?_
        exact retRD FX hr hlk dX0_turnMakes_65 rfl (by rw [v_X0_turnMakes, if_neg c_1, if_neg c_2, if_pos c_4])
      · by_cases c_5 : k1 = 3
        · refine lv_tableIn (off := 65) (tgt := 66) FX.1 FX.2.1 dX0_turnMakes_1 (by rw [c_5]; decide) (by rw [c_5]; decide) (by rw [c_5]; rfl) (by decide) ?_
          refine lv_sipush (v := (-10000)) FX.1 FX.2.1 dX0_turnMakes_66 (by decide) ?_
          exact retRD FX hr hlk dX0_turnMakes_69 rfl (by rw [v_X0_turnMakes, if_neg c_1, if_neg c_2, if_neg c_4, if_pos c_5])
        · by_cases c_6 : k1 = 4
          · refine lv_tableIn (off := 69) (tgt := 70) FX.1 FX.2.1 dX0_turnMakes_1 (by rw [c_6]; decide) (by rw [c_6]; decide) (by rw [c_6]; rfl) (by decide) ?_
            refine lv_iload_n FX.1 FX.2.1 dX0_turnMakes_70 rfl (lv_at hl 2 rfl) ?_
            exact retRD FX hr hlk dX0_turnMakes_71 rfl (by rw [v_X0_turnMakes, if_neg c_1, if_neg c_2, if_neg c_4, if_neg c_5, if_pos c_6])
          · refine lv_tableOut (tgt := 72) FX.1 FX.2.1 dX0_turnMakes_1 (tabOut5 c_1 c_2 c_4 c_5 c_6) (by decide) ?_
            refine lv_aload_n FX.1 FX.2.1 dX0_turnMakes_72 rfl (lv_at hl 0 rfl) ?_
            refine va_get (D := D) (ci := 2) (v := .ref bx) (C := RX0) (T := TX0) (N := 9) FX.1 FX.2.1 FX.2.2.2.2 inX0 FX.2.2.2.1 hK hP 0 rfl rfl 0 (by decide) (FX.2.2.2.2 _ fl_RX0_9) (fun _ h9 => h9) rfl dX0_turnMakes_73 ?_
            refine lv_iload_n FX.1 FX.2.1 dX0_turnMakes_76 rfl (lv_at hl 2 rfl) ?_
            refine lv_bipush (v := 6) FX.1 FX.2.1 dX0_turnMakes_77 (by decide) ?_
            refine c_RDs FX (r_J9_floorMod_7cf53 l D cI cB n1) mi_J9_floorMod_7cf53 rfl ml_RX0_185 (RMok.mk) hl.1 rfl (Nat.le_of_ble_eq_true rfl) dX0_turnMakes_79 (by decide) hK hP [] rfl ?_
            refine p_iald (v := f (v_J9_floorMod_7cf53 n1).toNatClampNeg) FX hK hP 1 rfl (in_floorMod n1) dX0_turnMakes_82 rfl ?_
            exact retRD FX hr hlk dX0_turnMakes_83 rfl (by rw [v_X0_turnMakes, if_neg c_1, if_neg c_2, if_neg c_4, if_neg c_5, if_neg c_6])
def v_X0_turned (v1 : Int32) (k1 : Int32) (y1 : Int32) (f : Nat → Int32) : Int32 := if v1 = (-10000) then (-10000) else v_X0_turnMakes k1 v1 y1 f
set_option maxRecDepth 100000 in
set_option maxHeartbeats 4000000 in
theorem r_X0_turned (l : Launch) (D : va_G) (cI cB : ClassId) (x bx px tx : Nat) (f g : Nat → Int32) (ak su gt lf rf kn : Int32) (v1 : Int32) (k1 : Int32) (y1 : Int32) : RD l yX0_turned cX0_turned 4 (some .int) ({ frames := 2, cells := 0, slots := 0, locals := 45 } : Room) D cI cB [.ref x, .int v1, .int k1, .int y1] (wX cI x bx px tx f g ak su gt lf rf kn) (v_X0_turned v1 k1 y1 f) := by
  refine bodyRD (by decide +kernel) (Nat.le_of_ble_eq_true rfl) (fun p e s m args below meth c ls FX hr hlk hK hP hl => ?_)
  have hl : lv_has ls 4 [(0, .ref x), (1, .int v1), (2, .int k1), (3, .int y1)] := hl
  refine lv_iload_n FX.1 FX.2.1 dX0_turned_0 rfl (lv_at hl 1 rfl) ?_
  refine lv_sipush (v := (-10000)) FX.1 FX.2.1 dX0_turned_1 (by decide) ?_
  refine lv_icmp_ne (tgt := 13) FX.1 FX.2.1 dX0_turned_4 (by decide) (fun c_1 => ?_) (fun c_1 => ?_)
  · refine lv_aload_n FX.1 FX.2.1 dX0_turned_13 rfl (lv_at hl 0 rfl) ?_
    refine lv_iload_n FX.1 FX.2.1 dX0_turned_14 rfl (lv_at hl 2 rfl) ?_
    refine lv_iload_n FX.1 FX.2.1 dX0_turned_15 rfl (lv_at hl 1 rfl) ?_
    refine lv_iload_n FX.1 FX.2.1 dX0_turned_16 rfl (lv_at hl 3 rfl) ?_
    refine c_RDV (i0 := 0) (ci := 2) FX (r_X0_turnMakes l D cI cB x bx px tx f g ak su gt lf rf kn k1 v1 y1) mi_X0_turnMakes rfl ml_RX0_191 (RMok.mk) hl.1 rfl (Nat.le_of_ble_eq_true rfl) dX0_turned_17 (by decide) hK hP [0, 1, 2] rfl rfl rfl rfl ?_
    exact retRD FX hr hlk dX0_turned_20 rfl (by rw [v_X0_turned, if_neg c_1])
  · refine lv_sipush (v := (-10000)) FX.1 FX.2.1 dX0_turned_7 (by decide) ?_
    refine lv_goto (tgt := 20) FX.1 FX.2.1 dX0_turned_10 (by decide) ?_
    exact retRD FX hr hlk dX0_turned_20 rfl (by rw [v_X0_turned, if_pos c_1])
def v_X0_turnedByBoth (v1 : Int32) (k1 : Int32) (k2 : Int32) (f : Nat → Int32) : Int32 := if v1 = (-10000) then (-10000) else v_X0_turned (v_X0_turnMakes k1 v1 3 f) k2 3 f
set_option maxRecDepth 100000 in
set_option maxHeartbeats 4000000 in
theorem r_X0_turnedByBoth (l : Launch) (D : va_G) (cI cB : ClassId) (x bx px tx : Nat) (f g : Nat → Int32) (ak su gt lf rf kn : Int32) (v1 : Int32) (k1 : Int32) (k2 : Int32) : RD l yX0_turnedByBoth cX0_turnedByBoth 4 (some .int) ({ frames := 3, cells := 0, slots := 0, locals := 68 } : Room) D cI cB [.ref x, .int v1, .int k1, .int k2] (wX cI x bx px tx f g ak su gt lf rf kn) (v_X0_turnedByBoth v1 k1 k2 f) := by
  refine bodyRD (by decide +kernel) (Nat.le_of_ble_eq_true rfl) (fun p e s m args below meth c ls FX hr hlk hK hP hl => ?_)
  have hl : lv_has ls 4 [(0, .ref x), (1, .int v1), (2, .int k1), (3, .int k2)] := hl
  refine lv_iload_n FX.1 FX.2.1 dX0_turnedByBoth_0 rfl (lv_at hl 1 rfl) ?_
  refine lv_sipush (v := (-10000)) FX.1 FX.2.1 dX0_turnedByBoth_1 (by decide) ?_
  refine lv_icmp_ne (tgt := 11) FX.1 FX.2.1 dX0_turnedByBoth_4 (by decide) (fun c_1 => ?_) (fun c_1 => ?_)
  · refine lv_aload_n FX.1 FX.2.1 dX0_turnedByBoth_11 rfl (lv_at hl 0 rfl) ?_
    refine lv_aload_n FX.1 FX.2.1 dX0_turnedByBoth_12 rfl (lv_at hl 0 rfl) ?_
    refine lv_iload_n FX.1 FX.2.1 dX0_turnedByBoth_13 rfl (lv_at hl 2 rfl) ?_
    refine lv_iload_n FX.1 FX.2.1 dX0_turnedByBoth_14 rfl (lv_at hl 1 rfl) ?_
    refine lv_iconst (v := 3) FX.1 FX.2.1 dX0_turnedByBoth_15 (by decide) ?_
    refine c_RDV (i0 := 0) (ci := 2) FX (r_X0_turnMakes l D cI cB x bx px tx f g ak su gt lf rf kn k1 v1 3) mi_X0_turnMakes rfl ml_RX0_191 (RMok.mk) hl.1 rfl (Nat.le_of_ble_eq_true rfl) dX0_turnedByBoth_16 (by decide) hK hP [0, 1, 2] rfl rfl rfl rfl ?_
    refine lv_iload_n FX.1 FX.2.1 dX0_turnedByBoth_19 rfl (lv_at hl 3 rfl) ?_
    refine lv_iconst (v := 3) FX.1 FX.2.1 dX0_turnedByBoth_20 (by decide) ?_
    refine c_RDV (i0 := 0) (ci := 2) FX (r_X0_turned l D cI cB x bx px tx f g ak su gt lf rf kn (v_X0_turnMakes k1 v1 3 f) k2 3) mi_X0_turned rfl ml_RX0_46 (RMok.mk) hl.1 rfl (Nat.le_of_ble_eq_true rfl) dX0_turnedByBoth_21 (by decide) hK hP [0, 1, 2] rfl rfl rfl rfl ?_
    exact retRD FX hr hlk dX0_turnedByBoth_24 rfl (by rw [v_X0_turnedByBoth, if_neg c_1])
  · refine lv_sipush (v := (-10000)) FX.1 FX.2.1 dX0_turnedByBoth_7 (by decide) ?_
    exact retRD FX hr hlk dX0_turnedByBoth_10 rfl (by rw [v_X0_turnedByBoth, if_pos c_1])
def wak_X0_giveToTaker (v1 : Int32) (ak : Int32) : Int32 := if v1 = (-10000) then ak else ak + 1
def wsu_X0_giveToTaker (v1 : Int32) (su : Int32) : Int32 := if v1 = (-10000) then su else su + v1
def wgt_X0_giveToTaker (v1 : Int32) (gt : Int32) : Int32 := if v1 = (-10000) then gt else gt + 1
set_option maxRecDepth 100000 in
set_option maxHeartbeats 4000000 in
theorem k_X0_giveToTaker (l : Launch) (D : va_G) (cI cB : ClassId) (x bx px tx : Nat) (f g : Nat → Int32) (ak su gt lf rf kn : Int32) (v1 : Int32) : WRv l yX0_giveToTaker cX0_giveToTaker 2 none ({ frames := 0, cells := 0, slots := 0, locals := 0 } : Room) D cI cB [.ref x, .int v1] (wX cI x bx px tx f g ak su gt lf rf kn) (wX cI x bx px tx f g (wak_X0_giveToTaker v1 ak) (wsu_X0_giveToTaker v1 su) (wgt_X0_giveToTaker v1 gt) lf rf kn) 0 0 := by
  refine bodyWRv (by decide +kernel) (Nat.le_of_ble_eq_true rfl) (fun p e s m args below meth c ls A Z => ?_)
  obtain ⟨FX, hr, hlk, hK, hP, hD, hS, hA, hl⟩ := Z
  have hl : lv_has ls 2 [(0, .ref x), (1, .int v1)] := hl
  refine lv_iload_n FX.1 FX.2.1 dX0_giveToTaker_0 rfl (lv_at hl 1 rfl) ?_
  refine lv_sipush (v := (-10000)) FX.1 FX.2.1 dX0_giveToTaker_1 (by decide) ?_
  refine lv_icmp_eq (tgt := 37) FX.1 FX.2.1 dX0_giveToTaker_4 (by decide) (fun c_1 => ?_) (fun c_1 => ?_)
  · exact retWRv FX hr hlk dX0_giveToTaker_37 hP hK hD hS (by decide) (by decide) (by rw [wak_X0_giveToTaker, if_pos c_1, wsu_X0_giveToTaker, if_pos c_1, wgt_X0_giveToTaker, if_pos c_1])
  · refine lv_aload_n FX.1 FX.2.1 dX0_giveToTaker_7 rfl (lv_at hl 0 rfl) ?_
    refine lv_dup FX.1 FX.2.1 dX0_giveToTaker_8 rfl ?_
    refine va_get (D := D) (ci := 2) (v := .int ak) (C := RX0) (T := TX0) (N := 9) FX.1 FX.2.1 FX.2.2.2.2 inX0 FX.2.2.2.1 hK hP 0 rfl rfl 3 (by decide) (FX.2.2.2.2 _ fl_RX0_38) (fun _ h9 => h9) rfl dX0_giveToTaker_9 ?_
    refine lv_iconst (v := 1) FX.1 FX.2.1 dX0_giveToTaker_12 (by decide) ?_
    refine lv_iadd FX.1 FX.2.1 dX0_giveToTaker_13 ?_
    refine p_put (wsN := (wX cI x bx px tx f g (ak + 1) su gt lf rf kn)) (ci := 2) (v := .int (ak + 1)) (ty := .int) FX inX0 tyX0_ok nmX0 hK hP hD hS 0 rfl rfl 3 (by decide) (FX.2.2.2.2 _ fl_RX0_38) rfl (by decide +kernel) rfl rfl (Nat.le_of_ble_eq_true rfl) dX0_giveToTaker_14 rfl (fun H locs hP hD hS => ?_)
    refine lv_aload_n FX.1 FX.2.1 dX0_giveToTaker_17 rfl (lv_at hl 0 rfl) ?_
    refine lv_dup FX.1 FX.2.1 dX0_giveToTaker_18 rfl ?_
    refine va_get (D := D) (ci := 2) (v := .int gt) (C := RX0) (T := TX0) (N := 9) FX.1 FX.2.1 FX.2.2.2.2 inX0 FX.2.2.2.1 hK hP 0 rfl rfl 5 (by decide) (FX.2.2.2.2 _ fl_RX0_118) (fun _ h9 => h9) rfl dX0_giveToTaker_19 ?_
    refine lv_iconst (v := 1) FX.1 FX.2.1 dX0_giveToTaker_22 (by decide) ?_
    refine lv_iadd FX.1 FX.2.1 dX0_giveToTaker_23 ?_
    refine p_put (wsN := (wX cI x bx px tx f g (ak + 1) su (gt + 1) lf rf kn)) (ci := 2) (v := .int (gt + 1)) (ty := .int) FX inX0 tyX0_ok nmX0 hK hP hD hS 0 rfl rfl 5 (by decide) (FX.2.2.2.2 _ fl_RX0_118) rfl (by decide +kernel) rfl rfl (Nat.le_of_ble_eq_true rfl) dX0_giveToTaker_24 rfl (fun H locs hP hD hS => ?_)
    refine lv_aload_n FX.1 FX.2.1 dX0_giveToTaker_27 rfl (lv_at hl 0 rfl) ?_
    refine lv_dup FX.1 FX.2.1 dX0_giveToTaker_28 rfl ?_
    refine va_get (D := D) (ci := 2) (v := .int su) (C := RX0) (T := TX0) (N := 9) FX.1 FX.2.1 FX.2.2.2.2 inX0 FX.2.2.2.1 hK hP 0 rfl rfl 4 (by decide) (FX.2.2.2.2 _ fl_RX0_62) (fun _ h9 => h9) rfl dX0_giveToTaker_29 ?_
    refine lv_iload_n FX.1 FX.2.1 dX0_giveToTaker_32 rfl (lv_at hl 1 rfl) ?_
    refine lv_iadd FX.1 FX.2.1 dX0_giveToTaker_33 ?_
    refine p_put (wsN := (wX cI x bx px tx f g (ak + 1) (su + v1) (gt + 1) lf rf kn)) (ci := 2) (v := .int (su + v1)) (ty := .int) FX inX0 tyX0_ok nmX0 hK hP hD hS 0 rfl rfl 4 (by decide) (FX.2.2.2.2 _ fl_RX0_62) rfl (by decide +kernel) rfl rfl (Nat.le_of_ble_eq_true rfl) dX0_giveToTaker_34 rfl (fun H locs hP hD hS => ?_)
    exact retWRv FX hr hlk dX0_giveToTaker_37 hP hK hD hS (by decide) (by decide) (by rw [wak_X0_giveToTaker, if_neg c_1, wsu_X0_giveToTaker, if_neg c_1, wgt_X0_giveToTaker, if_neg c_1])
def v_X0_numberOrRefused (v1 : Int32) : Int32 := if v1 = (-10000) then (-9999) else v1
def wrf_X0_numberOrRefused (v1 : Int32) (rf : Int32) : Int32 := if v1 = (-10000) then rf + 1 else rf
set_option maxRecDepth 100000 in
set_option maxHeartbeats 4000000 in
theorem k_X0_numberOrRefused (l : Launch) (D : va_G) (cI cB : ClassId) (x bx px tx : Nat) (f g : Nat → Int32) (ak su gt lf rf kn : Int32) (v1 : Int32) : WR l yX0_numberOrRefused cX0_numberOrRefused 2 (some .int) ({ frames := 0, cells := 0, slots := 0, locals := 0 } : Room) D cI cB [.ref x, .int v1] (wX cI x bx px tx f g ak su gt lf rf kn) (v_X0_numberOrRefused v1) (wX cI x bx px tx f g ak su gt lf (wrf_X0_numberOrRefused v1 rf) kn) 0 0 := by
  refine bodyWR (by decide +kernel) (Nat.le_of_ble_eq_true rfl) (fun p e s m args below meth c ls A Z => ?_)
  obtain ⟨FX, hr, hlk, hK, hP, hD, hS, hA, hl⟩ := Z
  have hl : lv_has ls 2 [(0, .ref x), (1, .int v1)] := hl
  refine lv_iload_n FX.1 FX.2.1 dX0_numberOrRefused_0 rfl (lv_at hl 1 rfl) ?_
  refine lv_sipush (v := (-10000)) FX.1 FX.2.1 dX0_numberOrRefused_1 (by decide) ?_
  refine lv_icmp_ne (tgt := 21) FX.1 FX.2.1 dX0_numberOrRefused_4 (by decide) (fun c_1 => ?_) (fun c_1 => ?_)
  · refine lv_iload_n FX.1 FX.2.1 dX0_numberOrRefused_21 rfl (lv_at hl 1 rfl) ?_
    exact retWR FX hr hlk dX0_numberOrRefused_22 rfl hP hK hD hS (by decide) (by decide) (by rw [v_X0_numberOrRefused, if_neg c_1]) (by rw [wrf_X0_numberOrRefused, if_neg c_1])
  · refine lv_aload_n FX.1 FX.2.1 dX0_numberOrRefused_7 rfl (lv_at hl 0 rfl) ?_
    refine lv_dup FX.1 FX.2.1 dX0_numberOrRefused_8 rfl ?_
    refine va_get (D := D) (ci := 2) (v := .int rf) (C := RX0) (T := TX0) (N := 9) FX.1 FX.2.1 FX.2.2.2.2 inX0 FX.2.2.2.1 hK hP 0 rfl rfl 7 (by decide) (FX.2.2.2.2 _ fl_RX0_121) (fun _ h9 => h9) rfl dX0_numberOrRefused_9 ?_
    refine lv_iconst (v := 1) FX.1 FX.2.1 dX0_numberOrRefused_12 (by decide) ?_
    refine lv_iadd FX.1 FX.2.1 dX0_numberOrRefused_13 ?_
    refine p_put (wsN := (wX cI x bx px tx f g ak su gt lf (rf + 1) kn)) (ci := 2) (v := .int (rf + 1)) (ty := .int) FX inX0 tyX0_ok nmX0 hK hP hD hS 0 rfl rfl 7 (by decide) (FX.2.2.2.2 _ fl_RX0_121) rfl (by decide +kernel) rfl rfl (Nat.le_of_ble_eq_true rfl) dX0_numberOrRefused_14 rfl (fun H locs hP hD hS => ?_)
    refine lv_sipush (v := (-9999)) FX.1 FX.2.1 dX0_numberOrRefused_17 (by decide) ?_
    exact retWR FX hr hlk dX0_numberOrRefused_20 rfl hP hK hD hS (by decide) (by decide) (by rw [v_X0_numberOrRefused, if_pos c_1]) (by rw [wrf_X0_numberOrRefused, if_pos c_1])
def e_X0_fill (b1 : Int32) (n1 : Int32) : Nat := if (e_X0_needBox b1) = 0 then (if (e_X0_needNumber n1) = 0 then 0 else e_X0_needNumber n1) else e_X0_needBox b1
def v_X0_fill (b1 : Int32) (f : Nat → Int32) : Int32 := v_X0_fullness (f b1.toNatClampNeg)
def wf_X0_fill (b1 : Int32) (n1 : Int32) (f : Nat → Int32) : Nat → Int32 := upd f b1.toNatClampNeg n1
set_option maxRecDepth 100000 in
set_option maxHeartbeats 4000000 in
theorem k_X0_fill (l : Launch) (D : va_G) (cI cB : ClassId) (x bx px tx : Nat) (f g : Nat → Int32) (ak su gt lf rf kn : Int32) (b1 : Int32) (n1 : Int32) (h : e_X0_fill b1 n1 = 0) : WR l yX0_fill cX0_fill 4 (some .int) ({ frames := 2, cells := 0, slots := 0, locals := 40 } : Room) D cI cB [.ref x, .int b1, .int n1] (wX cI x bx px tx f g ak su gt lf rf kn) (v_X0_fill b1 f) (wX cI x bx px tx (wf_X0_fill b1 n1 f) g ak su gt lf rf kn) 0 0 := by
  refine bodyWR (by decide +kernel) (Nat.le_of_ble_eq_true rfl) (fun p e s m args below meth c ls A Z => ?_)
  obtain ⟨FX, hr, hlk, hK, hP, hD, hS, hA, hl⟩ := Z
  have hl : lv_has ls 4 [(0, .ref x), (1, .int b1), (2, .int n1)] := hl
  refine lv_iload_n FX.1 FX.2.1 dX0_fill_0 rfl (lv_at hl 1 rfl) ?_
  have q_1 : (e_X0_needBox b1) = 0 := Decidable.byContradiction (fun z => absurd h (by rw [e_X0_fill, if_neg z]; exact z))
  refine c_RDvs FX (r_X0_needBox l D cI cB b1 q_1) mi_X0_needBox rfl ml_RX0_23 (RMok.mk) hl.1 rfl (Nat.le_of_ble_eq_true rfl) dX0_fill_1 (by decide) hK hP [] rfl ?_
  refine lv_iload_n FX.1 FX.2.1 dX0_fill_4 rfl (lv_at hl 2 rfl) ?_
  have q_2 : (e_X0_needNumber n1) = 0 := Decidable.byContradiction (fun z => absurd h (by rw [e_X0_fill, if_pos q_1, if_neg z]; exact z))
  refine c_RDvs FX (r_X0_needNumber l D cI cB n1 q_2) mi_X0_needNumber rfl ml_RX0_27 (RMok.mk) hl.1 rfl (Nat.le_of_ble_eq_true rfl) dX0_fill_5 (by decide) hK hP [] rfl ?_
  refine lv_aload_n FX.1 FX.2.1 dX0_fill_8 rfl (lv_at hl 0 rfl) ?_
  refine va_get (D := D) (ci := 2) (v := .ref bx) (C := RX0) (T := TX0) (N := 9) FX.1 FX.2.1 FX.2.2.2.2 inX0 FX.2.2.2.1 hK hP 0 rfl rfl 0 (by decide) (FX.2.2.2.2 _ fl_RX0_9) (fun _ h9 => h9) rfl dX0_fill_9 ?_
  refine lv_iload_n FX.1 FX.2.1 dX0_fill_12 rfl (lv_at hl 1 rfl) ?_
  refine p_iald (v := f b1.toNatClampNeg) FX hK hP 1 rfl (in_X0_needBox q_1) dX0_fill_13 rfl ?_
  refine c_RDs FX (r_X0_fullness l D cI cB (f b1.toNatClampNeg)) mi_X0_fullness rfl ml_RX0_30 (RMok.mk) hl.1 rfl (Nat.le_of_ble_eq_true rfl) dX0_fill_14 (by decide) hK hP [] rfl ?_
  refine lv_istore_n (lv' := [(3, .int (v_X0_fullness (f b1.toNatClampNeg))), (0, .ref x), (1, .int b1), (2, .int n1)]) FX.1 FX.2.1 dX0_fill_17 rfl hl (by decide) rfl (fun ls hl => ?_)
  refine lv_aload_n FX.1 FX.2.1 dX0_fill_18 rfl (lv_at hl 1 rfl) ?_
  refine va_get (D := D) (ci := 2) (v := .ref bx) (C := RX0) (T := TX0) (N := 9) FX.1 FX.2.1 FX.2.2.2.2 inX0 FX.2.2.2.1 hK hP 0 rfl rfl 0 (by decide) (FX.2.2.2.2 _ fl_RX0_9) (fun _ h9 => h9) rfl dX0_fill_19 ?_
  refine lv_iload_n FX.1 FX.2.1 dX0_fill_22 rfl (lv_at hl 2 rfl) ?_
  refine lv_iload_n FX.1 FX.2.1 dX0_fill_23 rfl (lv_at hl 3 rfl) ?_
  refine p_iast (wsN := (wX cI x bx px tx (upd f b1.toNatClampNeg n1) g ak su gt lf rf kn)) FX hK hP hD hS 1 rfl (in_X0_needBox q_1) dX0_fill_24 rfl (fun H locs hP hD hS => ?_)
  refine lv_iload_n FX.1 FX.2.1 dX0_fill_25 rfl (lv_at hl 0 rfl) ?_
  exact retWR FX hr hlk dX0_fill_26 rfl hP hK hD hS (by decide) (by decide) (by rw [v_X0_fill]) (by rw [wf_X0_fill])
set_option maxRecDepth 100000 in
set_option maxHeartbeats 4000000 in
theorem x_X0_fill (l : Launch) (hl0 : l.stackTraces = false) (D : va_G) (cI cB : ClassId) (x bx px tx : Nat) (f g : Nat → Int32) (ak su gt lf rf kn : Int32) (b1 : Int32) (n1 : Int32) (h : ¬ e_X0_fill b1 n1 = 0) : XT l yX0_fill cX0_fill 4 (some .int) ({ frames := 7, cells := 1, slots := 6, locals := 110 } : Room) D cI cB [.ref x, .int b1, .int n1] (wX cI x bx px tx f g ak su gt lf rf kn) (e_X0_fill b1 n1) := by
  refine bodyXT (by decide) (Nat.le_of_ble_eq_true rfl) (fun p e s m args below meth c ls Z => ?_)
  obtain ⟨FX, hr, hlk, hK, hP, hz, htab, hl⟩ := Z
  have hl : lv_has ls 4 [(0, .ref x), (1, .int b1), (2, .int n1)] := hl
  refine lv_iload_n FX.1 FX.2.1 dX0_fill_0 rfl (lv_at hl 1 rfl) ?_
  by_cases q_1 : (e_X0_needBox b1) = 0
  · refine c_RDvs FX (r_X0_needBox l D cI cB b1 q_1) mi_X0_needBox rfl ml_RX0_23 (RMok.mk) hl.1 rfl (Nat.le_of_ble_eq_true rfl) dX0_fill_1 (by decide) hK hP [] rfl ?_
    refine lv_iload_n FX.1 FX.2.1 dX0_fill_4 rfl (lv_at hl 2 rfl) ?_
    by_cases q_2 : (e_X0_needNumber n1) = 0
    · refine c_RDvs FX (r_X0_needNumber l D cI cB n1 q_2) mi_X0_needNumber rfl ml_RX0_27 (RMok.mk) hl.1 rfl (Nat.le_of_ble_eq_true rfl) dX0_fill_5 (by decide) hK hP [] rfl ?_
      exact absurd (by rw [e_X0_fill, if_pos q_1, if_pos q_2]) h
    · exact thr_s FX htab hlk (x_X0_needNumber l hl0 D cI cB n1 q_2) mi_X0_needNumber rfl ml_RX0_27 (RMok.mk) hl.1 rfl (Nat.le_of_ble_eq_true rfl) dX0_fill_5 (by decide) hK hP [] rfl hz (by rw [e_X0_fill, if_pos q_1, if_neg q_2])
  · exact thr_s FX htab hlk (x_X0_needBox l hl0 D cI cB b1 q_1) mi_X0_needBox rfl ml_RX0_23 (RMok.mk) hl.1 rfl (Nat.le_of_ble_eq_true rfl) dX0_fill_1 (by decide) hK hP [] rfl hz (by rw [e_X0_fill, if_neg q_1])
def e_X0_empty (b1 : Int32) : Nat := if (e_X0_needBox b1) = 0 then 0 else e_X0_needBox b1
def v_X0_empty (b1 : Int32) (f : Nat → Int32) : Int32 := v_X0_fullness (f b1.toNatClampNeg)
def wf_X0_empty (b1 : Int32) (f : Nat → Int32) : Nat → Int32 := upd f b1.toNatClampNeg (-10000)
set_option maxRecDepth 100000 in
set_option maxHeartbeats 4000000 in
theorem k_X0_empty (l : Launch) (D : va_G) (cI cB : ClassId) (x bx px tx : Nat) (f g : Nat → Int32) (ak su gt lf rf kn : Int32) (b1 : Int32) (h : e_X0_empty b1 = 0) : WR l yX0_empty cX0_empty 3 (some .int) ({ frames := 1, cells := 0, slots := 0, locals := 20 } : Room) D cI cB [.ref x, .int b1] (wX cI x bx px tx f g ak su gt lf rf kn) (v_X0_empty b1 f) (wX cI x bx px tx (wf_X0_empty b1 f) g ak su gt lf rf kn) 0 0 := by
  refine bodyWR (by decide +kernel) (Nat.le_of_ble_eq_true rfl) (fun p e s m args below meth c ls A Z => ?_)
  obtain ⟨FX, hr, hlk, hK, hP, hD, hS, hA, hl⟩ := Z
  have hl : lv_has ls 3 [(0, .ref x), (1, .int b1)] := hl
  refine lv_iload_n FX.1 FX.2.1 dX0_empty_0 rfl (lv_at hl 1 rfl) ?_
  have q_1 : (e_X0_needBox b1) = 0 := Decidable.byContradiction (fun z => absurd h (by rw [e_X0_empty, if_neg z]; exact z))
  refine c_RDvs FX (r_X0_needBox l D cI cB b1 q_1) mi_X0_needBox rfl ml_RX0_23 (RMok.mk) hl.1 rfl (Nat.le_of_ble_eq_true rfl) dX0_empty_1 (by decide) hK hP [] rfl ?_
  refine lv_aload_n FX.1 FX.2.1 dX0_empty_4 rfl (lv_at hl 0 rfl) ?_
  refine va_get (D := D) (ci := 2) (v := .ref bx) (C := RX0) (T := TX0) (N := 9) FX.1 FX.2.1 FX.2.2.2.2 inX0 FX.2.2.2.1 hK hP 0 rfl rfl 0 (by decide) (FX.2.2.2.2 _ fl_RX0_9) (fun _ h9 => h9) rfl dX0_empty_5 ?_
  refine lv_iload_n FX.1 FX.2.1 dX0_empty_8 rfl (lv_at hl 1 rfl) ?_
  refine p_iald (v := f b1.toNatClampNeg) FX hK hP 1 rfl (in_X0_needBox q_1) dX0_empty_9 rfl ?_
  refine c_RDs FX (r_X0_fullness l D cI cB (f b1.toNatClampNeg)) mi_X0_fullness rfl ml_RX0_30 (RMok.mk) hl.1 rfl (Nat.le_of_ble_eq_true rfl) dX0_empty_10 (by decide) hK hP [] rfl ?_
  refine lv_istore_n (lv' := [(2, .int (v_X0_fullness (f b1.toNatClampNeg))), (0, .ref x), (1, .int b1)]) FX.1 FX.2.1 dX0_empty_13 rfl hl (by decide) rfl (fun ls hl => ?_)
  refine lv_aload_n FX.1 FX.2.1 dX0_empty_14 rfl (lv_at hl 1 rfl) ?_
  refine va_get (D := D) (ci := 2) (v := .ref bx) (C := RX0) (T := TX0) (N := 9) FX.1 FX.2.1 FX.2.2.2.2 inX0 FX.2.2.2.1 hK hP 0 rfl rfl 0 (by decide) (FX.2.2.2.2 _ fl_RX0_9) (fun _ h9 => h9) rfl dX0_empty_15 ?_
  refine lv_iload_n FX.1 FX.2.1 dX0_empty_18 rfl (lv_at hl 2 rfl) ?_
  refine lv_sipush (v := (-10000)) FX.1 FX.2.1 dX0_empty_19 (by decide) ?_
  refine p_iast (wsN := (wX cI x bx px tx (upd f b1.toNatClampNeg (-10000)) g ak su gt lf rf kn)) FX hK hP hD hS 1 rfl (in_X0_needBox q_1) dX0_empty_22 rfl (fun H locs hP hD hS => ?_)
  refine lv_iload_n FX.1 FX.2.1 dX0_empty_23 rfl (lv_at hl 0 rfl) ?_
  exact retWR FX hr hlk dX0_empty_24 rfl hP hK hD hS (by decide) (by decide) (by rw [v_X0_empty]) (by rw [wf_X0_empty])
set_option maxRecDepth 100000 in
set_option maxHeartbeats 4000000 in
theorem x_X0_empty (l : Launch) (hl0 : l.stackTraces = false) (D : va_G) (cI cB : ClassId) (x bx px tx : Nat) (f g : Nat → Int32) (ak su gt lf rf kn : Int32) (b1 : Int32) (h : ¬ e_X0_empty b1 = 0) : XT l yX0_empty cX0_empty 3 (some .int) ({ frames := 7, cells := 1, slots := 6, locals := 110 } : Room) D cI cB [.ref x, .int b1] (wX cI x bx px tx f g ak su gt lf rf kn) (e_X0_empty b1) := by
  refine bodyXT (by decide) (Nat.le_of_ble_eq_true rfl) (fun p e s m args below meth c ls Z => ?_)
  obtain ⟨FX, hr, hlk, hK, hP, hz, htab, hl⟩ := Z
  have hl : lv_has ls 3 [(0, .ref x), (1, .int b1)] := hl
  refine lv_iload_n FX.1 FX.2.1 dX0_empty_0 rfl (lv_at hl 1 rfl) ?_
  by_cases q_1 : (e_X0_needBox b1) = 0
  · refine c_RDvs FX (r_X0_needBox l D cI cB b1 q_1) mi_X0_needBox rfl ml_RX0_23 (RMok.mk) hl.1 rfl (Nat.le_of_ble_eq_true rfl) dX0_empty_1 (by decide) hK hP [] rfl ?_
    exact absurd (by rw [e_X0_empty, if_pos q_1]) h
  · exact thr_s FX htab hlk (x_X0_needBox l hl0 D cI cB b1 q_1) mi_X0_needBox rfl ml_RX0_23 (RMok.mk) hl.1 rfl (Nat.le_of_ble_eq_true rfl) dX0_empty_1 (by decide) hK hP [] rfl hz (by rw [e_X0_empty, if_neg q_1])
def e_X0_fillMaybe (b1 : Int32) (n1 : Int32) : Nat := if (e_X0_needBox b1) = 0 then (if (e_X0_needNumber n1) = 0 then 0 else e_X0_needNumber n1) else e_X0_needBox b1
def v_X0_fillMaybe (b1 : Int32) (n1 : Int32) (t1 : Int32) (f : Nat → Int32) : Int32 := if t1 = 0 then v_X0_fullness ((upd f b1.toNatClampNeg (-10000)) b1.toNatClampNeg) else v_X0_fullness ((upd f b1.toNatClampNeg n1) b1.toNatClampNeg)
def wf_X0_fillMaybe (b1 : Int32) (n1 : Int32) (t1 : Int32) (f : Nat → Int32) : Nat → Int32 := if t1 = 0 then upd f b1.toNatClampNeg (-10000) else upd f b1.toNatClampNeg n1
set_option maxRecDepth 100000 in
set_option maxHeartbeats 4000000 in
theorem k_X0_fillMaybe (l : Launch) (D : va_G) (cI cB : ClassId) (x bx px tx : Nat) (f g : Nat → Int32) (ak su gt lf rf kn : Int32) (b1 : Int32) (n1 : Int32) (t1 : Int32) (h : e_X0_fillMaybe b1 n1 = 0) : WR l yX0_fillMaybe cX0_fillMaybe 4 (some .int) ({ frames := 2, cells := 0, slots := 0, locals := 40 } : Room) D cI cB [.ref x, .int b1, .int n1, .int t1] (wX cI x bx px tx f g ak su gt lf rf kn) (v_X0_fillMaybe b1 n1 t1 f) (wX cI x bx px tx (wf_X0_fillMaybe b1 n1 t1 f) g ak su gt lf rf kn) 0 0 := by
  refine bodyWR (by decide +kernel) (Nat.le_of_ble_eq_true rfl) (fun p e s m args below meth c ls A Z => ?_)
  obtain ⟨FX, hr, hlk, hK, hP, hD, hS, hA, hl⟩ := Z
  have hl : lv_has ls 4 [(0, .ref x), (1, .int b1), (2, .int n1), (3, .int t1)] := hl
  refine lv_iload_n FX.1 FX.2.1 dX0_fillMaybe_0 rfl (lv_at hl 1 rfl) ?_
  have q_1 : (e_X0_needBox b1) = 0 := Decidable.byContradiction (fun z => absurd h (by rw [e_X0_fillMaybe, if_neg z]; exact z))
  refine c_RDvs FX (r_X0_needBox l D cI cB b1 q_1) mi_X0_needBox rfl ml_RX0_23 (RMok.mk) hl.1 rfl (Nat.le_of_ble_eq_true rfl) dX0_fillMaybe_1 (by decide) hK hP [] rfl ?_
  refine lv_iload_n FX.1 FX.2.1 dX0_fillMaybe_4 rfl (lv_at hl 2 rfl) ?_
  have q_2 : (e_X0_needNumber n1) = 0 := Decidable.byContradiction (fun z => absurd h (by rw [e_X0_fillMaybe, if_pos q_1, if_neg z]; exact z))
  refine c_RDvs FX (r_X0_needNumber l D cI cB n1 q_2) mi_X0_needNumber rfl ml_RX0_27 (RMok.mk) hl.1 rfl (Nat.le_of_ble_eq_true rfl) dX0_fillMaybe_5 (by decide) hK hP [] rfl ?_
  refine lv_aload_n FX.1 FX.2.1 dX0_fillMaybe_8 rfl (lv_at hl 0 rfl) ?_
  refine va_get (D := D) (ci := 2) (v := .ref bx) (C := RX0) (T := TX0) (N := 9) FX.1 FX.2.1 FX.2.2.2.2 inX0 FX.2.2.2.1 hK hP 0 rfl rfl 0 (by decide) (FX.2.2.2.2 _ fl_RX0_9) (fun _ h9 => h9) rfl dX0_fillMaybe_9 ?_
  refine lv_iload_n FX.1 FX.2.1 dX0_fillMaybe_12 rfl (lv_at hl 1 rfl) ?_
  refine lv_iload_n FX.1 FX.2.1 dX0_fillMaybe_13 rfl (lv_at hl 3 rfl) ?_
  refine lv_if_eq (tgt := 21) FX.1 FX.2.1 dX0_fillMaybe_14 (by decide) (fun c_3 => ?_) (fun c_3 => ?_)
  · refine lv_sipush (v := (-10000)) FX.1 FX.2.1 dX0_fillMaybe_21 (by decide) ?_
    refine p_iast (wsN := (wX cI x bx px tx (upd f b1.toNatClampNeg (-10000)) g ak su gt lf rf kn)) FX hK hP hD hS 1 rfl (in_X0_needBox q_1) dX0_fillMaybe_24 rfl (fun H locs hP hD hS => ?_)
    refine lv_aload_n FX.1 FX.2.1 dX0_fillMaybe_25 rfl (lv_at hl 0 rfl) ?_
    refine va_get (D := D) (ci := 2) (v := .ref bx) (C := RX0) (T := TX0) (N := 9) FX.1 FX.2.1 FX.2.2.2.2 inX0 FX.2.2.2.1 hK hP 0 rfl rfl 0 (by decide) (FX.2.2.2.2 _ fl_RX0_9) (fun _ h9 => h9) rfl dX0_fillMaybe_26 ?_
    refine lv_iload_n FX.1 FX.2.1 dX0_fillMaybe_29 rfl (lv_at hl 1 rfl) ?_
    refine p_iald (v := (upd f b1.toNatClampNeg (-10000)) b1.toNatClampNeg) FX hK hP 1 rfl (in_X0_needBox q_1) dX0_fillMaybe_30 rfl ?_
    refine c_RDs FX (r_X0_fullness l D cI cB ((upd f b1.toNatClampNeg (-10000)) b1.toNatClampNeg)) mi_X0_fullness rfl ml_RX0_30 (RMok.mk) hl.1 rfl (Nat.le_of_ble_eq_true rfl) dX0_fillMaybe_31 (by decide) hK hP [] rfl ?_
    exact retWR FX hr hlk dX0_fillMaybe_34 rfl hP hK hD hS (by decide) (by decide) (by rw [v_X0_fillMaybe, if_pos c_3]) (by rw [wf_X0_fillMaybe, if_pos c_3])
  · refine lv_iload_n FX.1 FX.2.1 dX0_fillMaybe_17 rfl (lv_at hl 2 rfl) ?_
    refine lv_goto (tgt := 24) FX.1 FX.2.1 dX0_fillMaybe_18 (by decide) ?_
    refine p_iast (wsN := (wX cI x bx px tx (upd f b1.toNatClampNeg n1) g ak su gt lf rf kn)) FX hK hP hD hS 1 rfl (in_X0_needBox q_1) dX0_fillMaybe_24 rfl (fun H locs hP hD hS => ?_)
    refine lv_aload_n FX.1 FX.2.1 dX0_fillMaybe_25 rfl (lv_at hl 0 rfl) ?_
    refine va_get (D := D) (ci := 2) (v := .ref bx) (C := RX0) (T := TX0) (N := 9) FX.1 FX.2.1 FX.2.2.2.2 inX0 FX.2.2.2.1 hK hP 0 rfl rfl 0 (by decide) (FX.2.2.2.2 _ fl_RX0_9) (fun _ h9 => h9) rfl dX0_fillMaybe_26 ?_
    refine lv_iload_n FX.1 FX.2.1 dX0_fillMaybe_29 rfl (lv_at hl 1 rfl) ?_
    refine p_iald (v := (upd f b1.toNatClampNeg n1) b1.toNatClampNeg) FX hK hP 1 rfl (in_X0_needBox q_1) dX0_fillMaybe_30 rfl ?_
    refine c_RDs FX (r_X0_fullness l D cI cB ((upd f b1.toNatClampNeg n1) b1.toNatClampNeg)) mi_X0_fullness rfl ml_RX0_30 (RMok.mk) hl.1 rfl (Nat.le_of_ble_eq_true rfl) dX0_fillMaybe_31 (by decide) hK hP [] rfl ?_
    exact retWR FX hr hlk dX0_fillMaybe_34 rfl hP hK hD hS (by decide) (by decide) (by rw [v_X0_fillMaybe, if_neg c_3]) (by rw [wf_X0_fillMaybe, if_neg c_3])
set_option maxRecDepth 100000 in
set_option maxHeartbeats 4000000 in
theorem x_X0_fillMaybe (l : Launch) (hl0 : l.stackTraces = false) (D : va_G) (cI cB : ClassId) (x bx px tx : Nat) (f g : Nat → Int32) (ak su gt lf rf kn : Int32) (b1 : Int32) (n1 : Int32) (t1 : Int32) (h : ¬ e_X0_fillMaybe b1 n1 = 0) : XT l yX0_fillMaybe cX0_fillMaybe 4 (some .int) ({ frames := 7, cells := 1, slots := 6, locals := 110 } : Room) D cI cB [.ref x, .int b1, .int n1, .int t1] (wX cI x bx px tx f g ak su gt lf rf kn) (e_X0_fillMaybe b1 n1) := by
  refine bodyXT (by decide) (Nat.le_of_ble_eq_true rfl) (fun p e s m args below meth c ls Z => ?_)
  obtain ⟨FX, hr, hlk, hK, hP, hz, htab, hl⟩ := Z
  have hl : lv_has ls 4 [(0, .ref x), (1, .int b1), (2, .int n1), (3, .int t1)] := hl
  refine lv_iload_n FX.1 FX.2.1 dX0_fillMaybe_0 rfl (lv_at hl 1 rfl) ?_
  by_cases q_1 : (e_X0_needBox b1) = 0
  · refine c_RDvs FX (r_X0_needBox l D cI cB b1 q_1) mi_X0_needBox rfl ml_RX0_23 (RMok.mk) hl.1 rfl (Nat.le_of_ble_eq_true rfl) dX0_fillMaybe_1 (by decide) hK hP [] rfl ?_
    refine lv_iload_n FX.1 FX.2.1 dX0_fillMaybe_4 rfl (lv_at hl 2 rfl) ?_
    by_cases q_2 : (e_X0_needNumber n1) = 0
    · refine c_RDvs FX (r_X0_needNumber l D cI cB n1 q_2) mi_X0_needNumber rfl ml_RX0_27 (RMok.mk) hl.1 rfl (Nat.le_of_ble_eq_true rfl) dX0_fillMaybe_5 (by decide) hK hP [] rfl ?_
      exact absurd (by rw [e_X0_fillMaybe, if_pos q_1, if_pos q_2]) h
    · exact thr_s FX htab hlk (x_X0_needNumber l hl0 D cI cB n1 q_2) mi_X0_needNumber rfl ml_RX0_27 (RMok.mk) hl.1 rfl (Nat.le_of_ble_eq_true rfl) dX0_fillMaybe_5 (by decide) hK hP [] rfl hz (by rw [e_X0_fillMaybe, if_pos q_1, if_neg q_2])
  · exact thr_s FX htab hlk (x_X0_needBox l hl0 D cI cB b1 q_1) mi_X0_needBox rfl ml_RX0_23 (RMok.mk) hl.1 rfl (Nat.le_of_ble_eq_true rfl) dX0_fillMaybe_1 (by decide) hK hP [] rfl hz (by rw [e_X0_fillMaybe, if_neg q_1])
def e_X0_copy (b1 : Int32) (b2 : Int32) : Nat := if (e_X0_needBox b1) = 0 then (if (e_X0_needBox b2) = 0 then 0 else e_X0_needBox b2) else e_X0_needBox b1
def v_X0_copy (b1 : Int32) (b2 : Int32) (f : Nat → Int32) : Int32 := v_X0_fullness ((upd f b1.toNatClampNeg (f b2.toNatClampNeg)) b1.toNatClampNeg)
def wf_X0_copy (b1 : Int32) (b2 : Int32) (f : Nat → Int32) : Nat → Int32 := upd f b1.toNatClampNeg (f b2.toNatClampNeg)
set_option maxRecDepth 100000 in
set_option maxHeartbeats 4000000 in
theorem k_X0_copy (l : Launch) (D : va_G) (cI cB : ClassId) (x bx px tx : Nat) (f g : Nat → Int32) (ak su gt lf rf kn : Int32) (b1 : Int32) (b2 : Int32) (h : e_X0_copy b1 b2 = 0) : WR l yX0_copy cX0_copy 3 (some .int) ({ frames := 1, cells := 0, slots := 0, locals := 20 } : Room) D cI cB [.ref x, .int b1, .int b2] (wX cI x bx px tx f g ak su gt lf rf kn) (v_X0_copy b1 b2 f) (wX cI x bx px tx (wf_X0_copy b1 b2 f) g ak su gt lf rf kn) 0 0 := by
  refine bodyWR (by decide +kernel) (Nat.le_of_ble_eq_true rfl) (fun p e s m args below meth c ls A Z => ?_)
  obtain ⟨FX, hr, hlk, hK, hP, hD, hS, hA, hl⟩ := Z
  have hl : lv_has ls 3 [(0, .ref x), (1, .int b1), (2, .int b2)] := hl
  refine lv_iload_n FX.1 FX.2.1 dX0_copy_0 rfl (lv_at hl 1 rfl) ?_
  have q_1 : (e_X0_needBox b1) = 0 := Decidable.byContradiction (fun z => absurd h (by rw [e_X0_copy, if_neg z]; exact z))
  refine c_RDvs FX (r_X0_needBox l D cI cB b1 q_1) mi_X0_needBox rfl ml_RX0_23 (RMok.mk) hl.1 rfl (Nat.le_of_ble_eq_true rfl) dX0_copy_1 (by decide) hK hP [] rfl ?_
  refine lv_iload_n FX.1 FX.2.1 dX0_copy_4 rfl (lv_at hl 2 rfl) ?_
  have q_2 : (e_X0_needBox b2) = 0 := Decidable.byContradiction (fun z => absurd h (by rw [e_X0_copy, if_pos q_1, if_neg z]; exact z))
  refine c_RDvs FX (r_X0_needBox l D cI cB b2 q_2) mi_X0_needBox rfl ml_RX0_23 (RMok.mk) hl.1 rfl (Nat.le_of_ble_eq_true rfl) dX0_copy_5 (by decide) hK hP [] rfl ?_
  refine lv_aload_n FX.1 FX.2.1 dX0_copy_8 rfl (lv_at hl 0 rfl) ?_
  refine va_get (D := D) (ci := 2) (v := .ref bx) (C := RX0) (T := TX0) (N := 9) FX.1 FX.2.1 FX.2.2.2.2 inX0 FX.2.2.2.1 hK hP 0 rfl rfl 0 (by decide) (FX.2.2.2.2 _ fl_RX0_9) (fun _ h9 => h9) rfl dX0_copy_9 ?_
  refine lv_iload_n FX.1 FX.2.1 dX0_copy_12 rfl (lv_at hl 1 rfl) ?_
  refine lv_aload_n FX.1 FX.2.1 dX0_copy_13 rfl (lv_at hl 0 rfl) ?_
  refine va_get (D := D) (ci := 2) (v := .ref bx) (C := RX0) (T := TX0) (N := 9) FX.1 FX.2.1 FX.2.2.2.2 inX0 FX.2.2.2.1 hK hP 0 rfl rfl 0 (by decide) (FX.2.2.2.2 _ fl_RX0_9) (fun _ h9 => h9) rfl dX0_copy_14 ?_
  refine lv_iload_n FX.1 FX.2.1 dX0_copy_17 rfl (lv_at hl 2 rfl) ?_
  refine p_iald (v := f b2.toNatClampNeg) FX hK hP 1 rfl (in_X0_needBox q_2) dX0_copy_18 rfl ?_
  refine p_iast (wsN := (wX cI x bx px tx (upd f b1.toNatClampNeg (f b2.toNatClampNeg)) g ak su gt lf rf kn)) FX hK hP hD hS 1 rfl (in_X0_needBox q_1) dX0_copy_19 rfl (fun H locs hP hD hS => ?_)
  refine lv_aload_n FX.1 FX.2.1 dX0_copy_20 rfl (lv_at hl 0 rfl) ?_
  refine va_get (D := D) (ci := 2) (v := .ref bx) (C := RX0) (T := TX0) (N := 9) FX.1 FX.2.1 FX.2.2.2.2 inX0 FX.2.2.2.1 hK hP 0 rfl rfl 0 (by decide) (FX.2.2.2.2 _ fl_RX0_9) (fun _ h9 => h9) rfl dX0_copy_21 ?_
  refine lv_iload_n FX.1 FX.2.1 dX0_copy_24 rfl (lv_at hl 1 rfl) ?_
  refine p_iald (v := (upd f b1.toNatClampNeg (f b2.toNatClampNeg)) b1.toNatClampNeg) FX hK hP 1 rfl (in_X0_needBox q_1) dX0_copy_25 rfl ?_
  refine c_RDs FX (r_X0_fullness l D cI cB ((upd f b1.toNatClampNeg (f b2.toNatClampNeg)) b1.toNatClampNeg)) mi_X0_fullness rfl ml_RX0_30 (RMok.mk) hl.1 rfl (Nat.le_of_ble_eq_true rfl) dX0_copy_26 (by decide) hK hP [] rfl ?_
  exact retWR FX hr hlk dX0_copy_29 rfl hP hK hD hS (by decide) (by decide) (by rw [v_X0_copy]) (by rw [wf_X0_copy])
set_option maxRecDepth 100000 in
set_option maxHeartbeats 4000000 in
theorem x_X0_copy (l : Launch) (hl0 : l.stackTraces = false) (D : va_G) (cI cB : ClassId) (x bx px tx : Nat) (f g : Nat → Int32) (ak su gt lf rf kn : Int32) (b1 : Int32) (b2 : Int32) (h : ¬ e_X0_copy b1 b2 = 0) : XT l yX0_copy cX0_copy 3 (some .int) ({ frames := 7, cells := 1, slots := 6, locals := 110 } : Room) D cI cB [.ref x, .int b1, .int b2] (wX cI x bx px tx f g ak su gt lf rf kn) (e_X0_copy b1 b2) := by
  refine bodyXT (by decide) (Nat.le_of_ble_eq_true rfl) (fun p e s m args below meth c ls Z => ?_)
  obtain ⟨FX, hr, hlk, hK, hP, hz, htab, hl⟩ := Z
  have hl : lv_has ls 3 [(0, .ref x), (1, .int b1), (2, .int b2)] := hl
  refine lv_iload_n FX.1 FX.2.1 dX0_copy_0 rfl (lv_at hl 1 rfl) ?_
  by_cases q_1 : (e_X0_needBox b1) = 0
  · refine c_RDvs FX (r_X0_needBox l D cI cB b1 q_1) mi_X0_needBox rfl ml_RX0_23 (RMok.mk) hl.1 rfl (Nat.le_of_ble_eq_true rfl) dX0_copy_1 (by decide) hK hP [] rfl ?_
    refine lv_iload_n FX.1 FX.2.1 dX0_copy_4 rfl (lv_at hl 2 rfl) ?_
    by_cases q_2 : (e_X0_needBox b2) = 0
    · refine c_RDvs FX (r_X0_needBox l D cI cB b2 q_2) mi_X0_needBox rfl ml_RX0_23 (RMok.mk) hl.1 rfl (Nat.le_of_ble_eq_true rfl) dX0_copy_5 (by decide) hK hP [] rfl ?_
      exact absurd (by rw [e_X0_copy, if_pos q_1, if_pos q_2]) h
    · exact thr_s FX htab hlk (x_X0_needBox l hl0 D cI cB b2 q_2) mi_X0_needBox rfl ml_RX0_23 (RMok.mk) hl.1 rfl (Nat.le_of_ble_eq_true rfl) dX0_copy_5 (by decide) hK hP [] rfl hz (by rw [e_X0_copy, if_pos q_1, if_neg q_2])
  · exact thr_s FX htab hlk (x_X0_needBox l hl0 D cI cB b1 q_1) mi_X0_needBox rfl ml_RX0_23 (RMok.mk) hl.1 rfl (Nat.le_of_ble_eq_true rfl) dX0_copy_1 (by decide) hK hP [] rfl hz (by rw [e_X0_copy, if_neg q_1])
def e_X0_map (b1 : Int32) (b2 : Int32) (k1 : Int32) (y1 : Int32) : Nat := if (e_X0_needBox b1) = 0 then (if (e_X0_needBox b2) = 0 then (if (e_X0_needKind k1 6) = 0 then (if (e_X0_needNumber y1) = 0 then 0 else e_X0_needNumber y1) else e_X0_needKind k1 6) else e_X0_needBox b2) else e_X0_needBox b1
def v_X0_map (b1 : Int32) (b2 : Int32) (k1 : Int32) (y1 : Int32) (f : Nat → Int32) : Int32 := v_X0_fullness ((upd f b1.toNatClampNeg (v_X0_mapped (f b2.toNatClampNeg) k1 y1)) b1.toNatClampNeg)
def wf_X0_map (b1 : Int32) (b2 : Int32) (k1 : Int32) (y1 : Int32) (f : Nat → Int32) : Nat → Int32 := upd f b1.toNatClampNeg (v_X0_mapped (f b2.toNatClampNeg) k1 y1)
def wak_X0_map (b2 : Int32) (f : Nat → Int32) (ak : Int32) : Int32 := ak + (v_X0_fullness (f b2.toNatClampNeg))
set_option maxRecDepth 100000 in
set_option maxHeartbeats 4000000 in
theorem k_X0_map (l : Launch) (D : va_G) (cI cB : ClassId) (x bx px tx : Nat) (f g : Nat → Int32) (ak su gt lf rf kn : Int32) (b1 : Int32) (b2 : Int32) (k1 : Int32) (y1 : Int32) (h : e_X0_map b1 b2 k1 y1 = 0) : WR l yX0_map cX0_map 5 (some .int) ({ frames := 4, cells := 0, slots := 0, locals := 84 } : Room) D cI cB [.ref x, .int b1, .int b2, .int k1, .int y1] (wX cI x bx px tx f g ak su gt lf rf kn) (v_X0_map b1 b2 k1 y1 f) (wX cI x bx px tx (wf_X0_map b1 b2 k1 y1 f) g (wak_X0_map b2 f ak) su gt lf rf kn) 0 0 := by
  refine bodyWR (by decide +kernel) (Nat.le_of_ble_eq_true rfl) (fun p e s m args below meth c ls A Z => ?_)
  obtain ⟨FX, hr, hlk, hK, hP, hD, hS, hA, hl⟩ := Z
  have hl : lv_has ls 5 [(0, .ref x), (1, .int b1), (2, .int b2), (3, .int k1), (4, .int y1)] := hl
  refine lv_iload_n FX.1 FX.2.1 dX0_map_0 rfl (lv_at hl 1 rfl) ?_
  have q_1 : (e_X0_needBox b1) = 0 := Decidable.byContradiction (fun z => absurd h (by rw [e_X0_map, if_neg z]; exact z))
  refine c_RDvs FX (r_X0_needBox l D cI cB b1 q_1) mi_X0_needBox rfl ml_RX0_23 (RMok.mk) hl.1 rfl (Nat.le_of_ble_eq_true rfl) dX0_map_1 (by decide) hK hP [] rfl ?_
  refine lv_iload_n FX.1 FX.2.1 dX0_map_4 rfl (lv_at hl 2 rfl) ?_
  have q_2 : (e_X0_needBox b2) = 0 := Decidable.byContradiction (fun z => absurd h (by rw [e_X0_map, if_pos q_1, if_neg z]; exact z))
  refine c_RDvs FX (r_X0_needBox l D cI cB b2 q_2) mi_X0_needBox rfl ml_RX0_23 (RMok.mk) hl.1 rfl (Nat.le_of_ble_eq_true rfl) dX0_map_5 (by decide) hK hP [] rfl ?_
  refine lv_iload_n FX.1 FX.2.1 dX0_map_8 rfl (lv_at hl 3 rfl) ?_
  refine lv_bipush (v := 6) FX.1 FX.2.1 dX0_map_9 (by decide) ?_
  have q_3 : (e_X0_needKind k1 6) = 0 := Decidable.byContradiction (fun z => absurd h (by rw [e_X0_map, if_pos q_1, if_pos q_2, if_neg z]; exact z))
  refine c_RDvs FX (r_X0_needKind l D cI cB k1 6 q_3) mi_X0_needKind rfl ml_RX0_34 (RMok.mk) hl.1 rfl (Nat.le_of_ble_eq_true rfl) dX0_map_11 (by decide) hK hP [] rfl ?_
  refine lv_iload FX.1 FX.2.1 dX0_map_14 (lv_at hl 4 rfl) ?_
  have q_4 : (e_X0_needNumber y1) = 0 := Decidable.byContradiction (fun z => absurd h (by rw [e_X0_map, if_pos q_1, if_pos q_2, if_pos q_3, if_neg z]; exact z))
  refine c_RDvs FX (r_X0_needNumber l D cI cB y1 q_4) mi_X0_needNumber rfl ml_RX0_27 (RMok.mk) hl.1 rfl (Nat.le_of_ble_eq_true rfl) dX0_map_16 (by decide) hK hP [] rfl ?_
  refine lv_aload_n FX.1 FX.2.1 dX0_map_19 rfl (lv_at hl 0 rfl) ?_
  refine lv_dup FX.1 FX.2.1 dX0_map_20 rfl ?_
  refine va_get (D := D) (ci := 2) (v := .int ak) (C := RX0) (T := TX0) (N := 9) FX.1 FX.2.1 FX.2.2.2.2 inX0 FX.2.2.2.1 hK hP 0 rfl rfl 3 (by decide) (FX.2.2.2.2 _ fl_RX0_38) (fun _ h9 => h9) rfl dX0_map_21 ?_
  refine lv_aload_n FX.1 FX.2.1 dX0_map_24 rfl (lv_at hl 0 rfl) ?_
  refine va_get (D := D) (ci := 2) (v := .ref bx) (C := RX0) (T := TX0) (N := 9) FX.1 FX.2.1 FX.2.2.2.2 inX0 FX.2.2.2.1 hK hP 0 rfl rfl 0 (by decide) (FX.2.2.2.2 _ fl_RX0_9) (fun _ h9 => h9) rfl dX0_map_25 ?_
  refine lv_iload_n FX.1 FX.2.1 dX0_map_28 rfl (lv_at hl 2 rfl) ?_
  refine p_iald (v := f b2.toNatClampNeg) FX hK hP 1 rfl (in_X0_needBox q_2) dX0_map_29 rfl ?_
  refine c_RDs FX (r_X0_fullness l D cI cB (f b2.toNatClampNeg)) mi_X0_fullness rfl ml_RX0_30 (RMok.mk) hl.1 rfl (Nat.le_of_ble_eq_true rfl) dX0_map_30 (by decide) hK hP [] rfl ?_
  refine lv_iadd FX.1 FX.2.1 dX0_map_33 ?_
  refine p_put (wsN := (wX cI x bx px tx f g (ak + (v_X0_fullness (f b2.toNatClampNeg))) su gt lf rf kn)) (ci := 2) (v := .int (ak + (v_X0_fullness (f b2.toNatClampNeg)))) (ty := .int) FX inX0 tyX0_ok nmX0 hK hP hD hS 0 rfl rfl 3 (by decide) (FX.2.2.2.2 _ fl_RX0_38) rfl (by decide +kernel) rfl rfl (Nat.le_of_ble_eq_true rfl) dX0_map_34 rfl (fun H locs hP hD hS => ?_)
  refine lv_aload_n FX.1 FX.2.1 dX0_map_37 rfl (lv_at hl 0 rfl) ?_
  refine va_get (D := D) (ci := 2) (v := .ref bx) (C := RX0) (T := TX0) (N := 9) FX.1 FX.2.1 FX.2.2.2.2 inX0 FX.2.2.2.1 hK hP 0 rfl rfl 0 (by decide) (FX.2.2.2.2 _ fl_RX0_9) (fun _ h9 => h9) rfl dX0_map_38 ?_
  refine lv_iload_n FX.1 FX.2.1 dX0_map_41 rfl (lv_at hl 1 rfl) ?_
  refine lv_aload_n FX.1 FX.2.1 dX0_map_42 rfl (lv_at hl 0 rfl) ?_
  refine va_get (D := D) (ci := 2) (v := .ref bx) (C := RX0) (T := TX0) (N := 9) FX.1 FX.2.1 FX.2.2.2.2 inX0 FX.2.2.2.1 hK hP 0 rfl rfl 0 (by decide) (FX.2.2.2.2 _ fl_RX0_9) (fun _ h9 => h9) rfl dX0_map_43 ?_
  refine lv_iload_n FX.1 FX.2.1 dX0_map_46 rfl (lv_at hl 2 rfl) ?_
  refine p_iald (v := f b2.toNatClampNeg) FX hK hP 1 rfl (in_X0_needBox q_2) dX0_map_47 rfl ?_
  refine lv_iload_n FX.1 FX.2.1 dX0_map_48 rfl (lv_at hl 3 rfl) ?_
  refine lv_iload FX.1 FX.2.1 dX0_map_49 (lv_at hl 4 rfl) ?_
  refine c_RDs FX (r_X0_mapped l D cI cB (f b2.toNatClampNeg) k1 y1) mi_X0_mapped rfl ml_RX0_42 (RMok.mk) hl.1 rfl (Nat.le_of_ble_eq_true rfl) dX0_map_51 (by decide) hK hP [] rfl ?_
  refine p_iast (wsN := (wX cI x bx px tx (upd f b1.toNatClampNeg (v_X0_mapped (f b2.toNatClampNeg) k1 y1)) g (ak + (v_X0_fullness (f b2.toNatClampNeg))) su gt lf rf kn)) FX hK hP hD hS 1 rfl (in_X0_needBox q_1) dX0_map_54 rfl (fun H locs hP hD hS => ?_)
  refine lv_aload_n FX.1 FX.2.1 dX0_map_55 rfl (lv_at hl 0 rfl) ?_
  refine va_get (D := D) (ci := 2) (v := .ref bx) (C := RX0) (T := TX0) (N := 9) FX.1 FX.2.1 FX.2.2.2.2 inX0 FX.2.2.2.1 hK hP 0 rfl rfl 0 (by decide) (FX.2.2.2.2 _ fl_RX0_9) (fun _ h9 => h9) rfl dX0_map_56 ?_
  refine lv_iload_n FX.1 FX.2.1 dX0_map_59 rfl (lv_at hl 1 rfl) ?_
  refine p_iald (v := (upd f b1.toNatClampNeg (v_X0_mapped (f b2.toNatClampNeg) k1 y1)) b1.toNatClampNeg) FX hK hP 1 rfl (in_X0_needBox q_1) dX0_map_60 rfl ?_
  refine c_RDs FX (r_X0_fullness l D cI cB ((upd f b1.toNatClampNeg (v_X0_mapped (f b2.toNatClampNeg) k1 y1)) b1.toNatClampNeg)) mi_X0_fullness rfl ml_RX0_30 (RMok.mk) hl.1 rfl (Nat.le_of_ble_eq_true rfl) dX0_map_61 (by decide) hK hP [] rfl ?_
  exact retWR FX hr hlk dX0_map_64 rfl hP hK hD hS (by decide) (by decide) (by rw [v_X0_map]) (by rw [wf_X0_map, wak_X0_map])
set_option maxRecDepth 100000 in
set_option maxHeartbeats 4000000 in
theorem x_X0_map (l : Launch) (hl0 : l.stackTraces = false) (D : va_G) (cI cB : ClassId) (x bx px tx : Nat) (f g : Nat → Int32) (ak su gt lf rf kn : Int32) (b1 : Int32) (b2 : Int32) (k1 : Int32) (y1 : Int32) (h : ¬ e_X0_map b1 b2 k1 y1 = 0) : XT l yX0_map cX0_map 5 (some .int) ({ frames := 7, cells := 1, slots := 6, locals := 111 } : Room) D cI cB [.ref x, .int b1, .int b2, .int k1, .int y1] (wX cI x bx px tx f g ak su gt lf rf kn) (e_X0_map b1 b2 k1 y1) := by
  refine bodyXT (by decide) (Nat.le_of_ble_eq_true rfl) (fun p e s m args below meth c ls Z => ?_)
  obtain ⟨FX, hr, hlk, hK, hP, hz, htab, hl⟩ := Z
  have hl : lv_has ls 5 [(0, .ref x), (1, .int b1), (2, .int b2), (3, .int k1), (4, .int y1)] := hl
  refine lv_iload_n FX.1 FX.2.1 dX0_map_0 rfl (lv_at hl 1 rfl) ?_
  by_cases q_1 : (e_X0_needBox b1) = 0
  · refine c_RDvs FX (r_X0_needBox l D cI cB b1 q_1) mi_X0_needBox rfl ml_RX0_23 (RMok.mk) hl.1 rfl (Nat.le_of_ble_eq_true rfl) dX0_map_1 (by decide) hK hP [] rfl ?_
    refine lv_iload_n FX.1 FX.2.1 dX0_map_4 rfl (lv_at hl 2 rfl) ?_
    by_cases q_2 : (e_X0_needBox b2) = 0
    · refine c_RDvs FX (r_X0_needBox l D cI cB b2 q_2) mi_X0_needBox rfl ml_RX0_23 (RMok.mk) hl.1 rfl (Nat.le_of_ble_eq_true rfl) dX0_map_5 (by decide) hK hP [] rfl ?_
      refine lv_iload_n FX.1 FX.2.1 dX0_map_8 rfl (lv_at hl 3 rfl) ?_
      refine lv_bipush (v := 6) FX.1 FX.2.1 dX0_map_9 (by decide) ?_
      by_cases q_3 : (e_X0_needKind k1 6) = 0
      · refine c_RDvs FX (r_X0_needKind l D cI cB k1 6 q_3) mi_X0_needKind rfl ml_RX0_34 (RMok.mk) hl.1 rfl (Nat.le_of_ble_eq_true rfl) dX0_map_11 (by decide) hK hP [] rfl ?_
        refine lv_iload FX.1 FX.2.1 dX0_map_14 (lv_at hl 4 rfl) ?_
        by_cases q_4 : (e_X0_needNumber y1) = 0
        · refine c_RDvs FX (r_X0_needNumber l D cI cB y1 q_4) mi_X0_needNumber rfl ml_RX0_27 (RMok.mk) hl.1 rfl (Nat.le_of_ble_eq_true rfl) dX0_map_16 (by decide) hK hP [] rfl ?_
          exact absurd (by rw [e_X0_map, if_pos q_1, if_pos q_2, if_pos q_3, if_pos q_4]) h
        · exact thr_s FX htab hlk (x_X0_needNumber l hl0 D cI cB y1 q_4) mi_X0_needNumber rfl ml_RX0_27 (RMok.mk) hl.1 rfl (Nat.le_of_ble_eq_true rfl) dX0_map_16 (by decide) hK hP [] rfl hz (by rw [e_X0_map, if_pos q_1, if_pos q_2, if_pos q_3, if_neg q_4])
      · exact thr_s FX htab hlk (x_X0_needKind l hl0 D cI cB k1 6 q_3) mi_X0_needKind rfl ml_RX0_34 (RMok.mk) hl.1 rfl (Nat.le_of_ble_eq_true rfl) dX0_map_11 (by decide) hK hP [] rfl hz (by rw [e_X0_map, if_pos q_1, if_pos q_2, if_neg q_3])
    · exact thr_s FX htab hlk (x_X0_needBox l hl0 D cI cB b2 q_2) mi_X0_needBox rfl ml_RX0_23 (RMok.mk) hl.1 rfl (Nat.le_of_ble_eq_true rfl) dX0_map_5 (by decide) hK hP [] rfl hz (by rw [e_X0_map, if_pos q_1, if_neg q_2])
  · exact thr_s FX htab hlk (x_X0_needBox l hl0 D cI cB b1 q_1) mi_X0_needBox rfl ml_RX0_23 (RMok.mk) hl.1 rfl (Nat.le_of_ble_eq_true rfl) dX0_map_1 (by decide) hK hP [] rfl hz (by rw [e_X0_map, if_neg q_1])
def e_X0_turn (b1 : Int32) (b2 : Int32) (k1 : Int32) (y1 : Int32) : Nat := if (e_X0_needBox b1) = 0 then (if (e_X0_needBox b2) = 0 then (if (e_X0_needKind k1 6) = 0 then (if (e_X0_needNumber y1) = 0 then 0 else e_X0_needNumber y1) else e_X0_needKind k1 6) else e_X0_needBox b2) else e_X0_needBox b1
def v_X0_turn (b1 : Int32) (b2 : Int32) (k1 : Int32) (y1 : Int32) (f : Nat → Int32) : Int32 := v_X0_fullness ((upd f b1.toNatClampNeg (v_X0_turned (f b2.toNatClampNeg) k1 y1 f)) b1.toNatClampNeg)
def wf_X0_turn (b1 : Int32) (b2 : Int32) (k1 : Int32) (y1 : Int32) (f : Nat → Int32) : Nat → Int32 := upd f b1.toNatClampNeg (v_X0_turned (f b2.toNatClampNeg) k1 y1 f)
def wak_X0_turn (b2 : Int32) (f : Nat → Int32) (ak : Int32) : Int32 := ak + (v_X0_fullness (f b2.toNatClampNeg))
set_option maxRecDepth 100000 in
set_option maxHeartbeats 4000000 in
theorem k_X0_turn (l : Launch) (D : va_G) (cI cB : ClassId) (x bx px tx : Nat) (f g : Nat → Int32) (ak su gt lf rf kn : Int32) (b1 : Int32) (b2 : Int32) (k1 : Int32) (y1 : Int32) (h : e_X0_turn b1 b2 k1 y1 = 0) : WR l yX0_turn cX0_turn 5 (some .int) ({ frames := 3, cells := 0, slots := 0, locals := 68 } : Room) D cI cB [.ref x, .int b1, .int b2, .int k1, .int y1] (wX cI x bx px tx f g ak su gt lf rf kn) (v_X0_turn b1 b2 k1 y1 f) (wX cI x bx px tx (wf_X0_turn b1 b2 k1 y1 f) g (wak_X0_turn b2 f ak) su gt lf rf kn) 0 0 := by
  refine bodyWR (by decide +kernel) (Nat.le_of_ble_eq_true rfl) (fun p e s m args below meth c ls A Z => ?_)
  obtain ⟨FX, hr, hlk, hK, hP, hD, hS, hA, hl⟩ := Z
  have hl : lv_has ls 5 [(0, .ref x), (1, .int b1), (2, .int b2), (3, .int k1), (4, .int y1)] := hl
  refine lv_iload_n FX.1 FX.2.1 dX0_turn_0 rfl (lv_at hl 1 rfl) ?_
  have q_1 : (e_X0_needBox b1) = 0 := Decidable.byContradiction (fun z => absurd h (by rw [e_X0_turn, if_neg z]; exact z))
  refine c_RDvs FX (r_X0_needBox l D cI cB b1 q_1) mi_X0_needBox rfl ml_RX0_23 (RMok.mk) hl.1 rfl (Nat.le_of_ble_eq_true rfl) dX0_turn_1 (by decide) hK hP [] rfl ?_
  refine lv_iload_n FX.1 FX.2.1 dX0_turn_4 rfl (lv_at hl 2 rfl) ?_
  have q_2 : (e_X0_needBox b2) = 0 := Decidable.byContradiction (fun z => absurd h (by rw [e_X0_turn, if_pos q_1, if_neg z]; exact z))
  refine c_RDvs FX (r_X0_needBox l D cI cB b2 q_2) mi_X0_needBox rfl ml_RX0_23 (RMok.mk) hl.1 rfl (Nat.le_of_ble_eq_true rfl) dX0_turn_5 (by decide) hK hP [] rfl ?_
  refine lv_iload_n FX.1 FX.2.1 dX0_turn_8 rfl (lv_at hl 3 rfl) ?_
  refine lv_bipush (v := 6) FX.1 FX.2.1 dX0_turn_9 (by decide) ?_
  have q_3 : (e_X0_needKind k1 6) = 0 := Decidable.byContradiction (fun z => absurd h (by rw [e_X0_turn, if_pos q_1, if_pos q_2, if_neg z]; exact z))
  refine c_RDvs FX (r_X0_needKind l D cI cB k1 6 q_3) mi_X0_needKind rfl ml_RX0_34 (RMok.mk) hl.1 rfl (Nat.le_of_ble_eq_true rfl) dX0_turn_11 (by decide) hK hP [] rfl ?_
  refine lv_iload FX.1 FX.2.1 dX0_turn_14 (lv_at hl 4 rfl) ?_
  have q_4 : (e_X0_needNumber y1) = 0 := Decidable.byContradiction (fun z => absurd h (by rw [e_X0_turn, if_pos q_1, if_pos q_2, if_pos q_3, if_neg z]; exact z))
  refine c_RDvs FX (r_X0_needNumber l D cI cB y1 q_4) mi_X0_needNumber rfl ml_RX0_27 (RMok.mk) hl.1 rfl (Nat.le_of_ble_eq_true rfl) dX0_turn_16 (by decide) hK hP [] rfl ?_
  refine lv_aload_n FX.1 FX.2.1 dX0_turn_19 rfl (lv_at hl 0 rfl) ?_
  refine lv_dup FX.1 FX.2.1 dX0_turn_20 rfl ?_
  refine va_get (D := D) (ci := 2) (v := .int ak) (C := RX0) (T := TX0) (N := 9) FX.1 FX.2.1 FX.2.2.2.2 inX0 FX.2.2.2.1 hK hP 0 rfl rfl 3 (by decide) (FX.2.2.2.2 _ fl_RX0_38) (fun _ h9 => h9) rfl dX0_turn_21 ?_
  refine lv_aload_n FX.1 FX.2.1 dX0_turn_24 rfl (lv_at hl 0 rfl) ?_
  refine va_get (D := D) (ci := 2) (v := .ref bx) (C := RX0) (T := TX0) (N := 9) FX.1 FX.2.1 FX.2.2.2.2 inX0 FX.2.2.2.1 hK hP 0 rfl rfl 0 (by decide) (FX.2.2.2.2 _ fl_RX0_9) (fun _ h9 => h9) rfl dX0_turn_25 ?_
  refine lv_iload_n FX.1 FX.2.1 dX0_turn_28 rfl (lv_at hl 2 rfl) ?_
  refine p_iald (v := f b2.toNatClampNeg) FX hK hP 1 rfl (in_X0_needBox q_2) dX0_turn_29 rfl ?_
  refine c_RDs FX (r_X0_fullness l D cI cB (f b2.toNatClampNeg)) mi_X0_fullness rfl ml_RX0_30 (RMok.mk) hl.1 rfl (Nat.le_of_ble_eq_true rfl) dX0_turn_30 (by decide) hK hP [] rfl ?_
  refine lv_iadd FX.1 FX.2.1 dX0_turn_33 ?_
  refine p_put (wsN := (wX cI x bx px tx f g (ak + (v_X0_fullness (f b2.toNatClampNeg))) su gt lf rf kn)) (ci := 2) (v := .int (ak + (v_X0_fullness (f b2.toNatClampNeg)))) (ty := .int) FX inX0 tyX0_ok nmX0 hK hP hD hS 0 rfl rfl 3 (by decide) (FX.2.2.2.2 _ fl_RX0_38) rfl (by decide +kernel) rfl rfl (Nat.le_of_ble_eq_true rfl) dX0_turn_34 rfl (fun H locs hP hD hS => ?_)
  refine lv_aload_n FX.1 FX.2.1 dX0_turn_37 rfl (lv_at hl 0 rfl) ?_
  refine va_get (D := D) (ci := 2) (v := .ref bx) (C := RX0) (T := TX0) (N := 9) FX.1 FX.2.1 FX.2.2.2.2 inX0 FX.2.2.2.1 hK hP 0 rfl rfl 0 (by decide) (FX.2.2.2.2 _ fl_RX0_9) (fun _ h9 => h9) rfl dX0_turn_38 ?_
  refine lv_iload_n FX.1 FX.2.1 dX0_turn_41 rfl (lv_at hl 1 rfl) ?_
  refine lv_aload_n FX.1 FX.2.1 dX0_turn_42 rfl (lv_at hl 0 rfl) ?_
  refine lv_aload_n FX.1 FX.2.1 dX0_turn_43 rfl (lv_at hl 0 rfl) ?_
  refine va_get (D := D) (ci := 2) (v := .ref bx) (C := RX0) (T := TX0) (N := 9) FX.1 FX.2.1 FX.2.2.2.2 inX0 FX.2.2.2.1 hK hP 0 rfl rfl 0 (by decide) (FX.2.2.2.2 _ fl_RX0_9) (fun _ h9 => h9) rfl dX0_turn_44 ?_
  refine lv_iload_n FX.1 FX.2.1 dX0_turn_47 rfl (lv_at hl 2 rfl) ?_
  refine p_iald (v := f b2.toNatClampNeg) FX hK hP 1 rfl (in_X0_needBox q_2) dX0_turn_48 rfl ?_
  refine lv_iload_n FX.1 FX.2.1 dX0_turn_49 rfl (lv_at hl 3 rfl) ?_
  refine lv_iload FX.1 FX.2.1 dX0_turn_50 (lv_at hl 4 rfl) ?_
  refine c_RDV (i0 := 0) (ci := 2) FX (r_X0_turned l D cI cB x bx px tx f g (ak + (v_X0_fullness (f b2.toNatClampNeg))) su gt lf rf kn (f b2.toNatClampNeg) k1 y1) mi_X0_turned rfl ml_RX0_46 (RMok.mk) hl.1 rfl (Nat.le_of_ble_eq_true rfl) dX0_turn_52 (by decide) hK hP [0, 1, 2] rfl rfl rfl rfl ?_
  refine p_iast (wsN := (wX cI x bx px tx (upd f b1.toNatClampNeg (v_X0_turned (f b2.toNatClampNeg) k1 y1 f)) g (ak + (v_X0_fullness (f b2.toNatClampNeg))) su gt lf rf kn)) FX hK hP hD hS 1 rfl (in_X0_needBox q_1) dX0_turn_55 rfl (fun H locs hP hD hS => ?_)
  refine lv_aload_n FX.1 FX.2.1 dX0_turn_56 rfl (lv_at hl 0 rfl) ?_
  refine va_get (D := D) (ci := 2) (v := .ref bx) (C := RX0) (T := TX0) (N := 9) FX.1 FX.2.1 FX.2.2.2.2 inX0 FX.2.2.2.1 hK hP 0 rfl rfl 0 (by decide) (FX.2.2.2.2 _ fl_RX0_9) (fun _ h9 => h9) rfl dX0_turn_57 ?_
  refine lv_iload_n FX.1 FX.2.1 dX0_turn_60 rfl (lv_at hl 1 rfl) ?_
  refine p_iald (v := (upd f b1.toNatClampNeg (v_X0_turned (f b2.toNatClampNeg) k1 y1 f)) b1.toNatClampNeg) FX hK hP 1 rfl (in_X0_needBox q_1) dX0_turn_61 rfl ?_
  refine c_RDs FX (r_X0_fullness l D cI cB ((upd f b1.toNatClampNeg (v_X0_turned (f b2.toNatClampNeg) k1 y1 f)) b1.toNatClampNeg)) mi_X0_fullness rfl ml_RX0_30 (RMok.mk) hl.1 rfl (Nat.le_of_ble_eq_true rfl) dX0_turn_62 (by decide) hK hP [] rfl ?_
  exact retWR FX hr hlk dX0_turn_65 rfl hP hK hD hS (by decide) (by decide) (by rw [v_X0_turn]) (by rw [wf_X0_turn, wak_X0_turn])
set_option maxRecDepth 100000 in
set_option maxHeartbeats 4000000 in
theorem x_X0_turn (l : Launch) (hl0 : l.stackTraces = false) (D : va_G) (cI cB : ClassId) (x bx px tx : Nat) (f g : Nat → Int32) (ak su gt lf rf kn : Int32) (b1 : Int32) (b2 : Int32) (k1 : Int32) (y1 : Int32) (h : ¬ e_X0_turn b1 b2 k1 y1 = 0) : XT l yX0_turn cX0_turn 5 (some .int) ({ frames := 7, cells := 1, slots := 6, locals := 111 } : Room) D cI cB [.ref x, .int b1, .int b2, .int k1, .int y1] (wX cI x bx px tx f g ak su gt lf rf kn) (e_X0_turn b1 b2 k1 y1) := by
  refine bodyXT (by decide) (Nat.le_of_ble_eq_true rfl) (fun p e s m args below meth c ls Z => ?_)
  obtain ⟨FX, hr, hlk, hK, hP, hz, htab, hl⟩ := Z
  have hl : lv_has ls 5 [(0, .ref x), (1, .int b1), (2, .int b2), (3, .int k1), (4, .int y1)] := hl
  refine lv_iload_n FX.1 FX.2.1 dX0_turn_0 rfl (lv_at hl 1 rfl) ?_
  by_cases q_1 : (e_X0_needBox b1) = 0
  · refine c_RDvs FX (r_X0_needBox l D cI cB b1 q_1) mi_X0_needBox rfl ml_RX0_23 (RMok.mk) hl.1 rfl (Nat.le_of_ble_eq_true rfl) dX0_turn_1 (by decide) hK hP [] rfl ?_
    refine lv_iload_n FX.1 FX.2.1 dX0_turn_4 rfl (lv_at hl 2 rfl) ?_
    by_cases q_2 : (e_X0_needBox b2) = 0
    · refine c_RDvs FX (r_X0_needBox l D cI cB b2 q_2) mi_X0_needBox rfl ml_RX0_23 (RMok.mk) hl.1 rfl (Nat.le_of_ble_eq_true rfl) dX0_turn_5 (by decide) hK hP [] rfl ?_
      refine lv_iload_n FX.1 FX.2.1 dX0_turn_8 rfl (lv_at hl 3 rfl) ?_
      refine lv_bipush (v := 6) FX.1 FX.2.1 dX0_turn_9 (by decide) ?_
      by_cases q_3 : (e_X0_needKind k1 6) = 0
      · refine c_RDvs FX (r_X0_needKind l D cI cB k1 6 q_3) mi_X0_needKind rfl ml_RX0_34 (RMok.mk) hl.1 rfl (Nat.le_of_ble_eq_true rfl) dX0_turn_11 (by decide) hK hP [] rfl ?_
        refine lv_iload FX.1 FX.2.1 dX0_turn_14 (lv_at hl 4 rfl) ?_
        by_cases q_4 : (e_X0_needNumber y1) = 0
        · refine c_RDvs FX (r_X0_needNumber l D cI cB y1 q_4) mi_X0_needNumber rfl ml_RX0_27 (RMok.mk) hl.1 rfl (Nat.le_of_ble_eq_true rfl) dX0_turn_16 (by decide) hK hP [] rfl ?_
          exact absurd (by rw [e_X0_turn, if_pos q_1, if_pos q_2, if_pos q_3, if_pos q_4]) h
        · exact thr_s FX htab hlk (x_X0_needNumber l hl0 D cI cB y1 q_4) mi_X0_needNumber rfl ml_RX0_27 (RMok.mk) hl.1 rfl (Nat.le_of_ble_eq_true rfl) dX0_turn_16 (by decide) hK hP [] rfl hz (by rw [e_X0_turn, if_pos q_1, if_pos q_2, if_pos q_3, if_neg q_4])
      · exact thr_s FX htab hlk (x_X0_needKind l hl0 D cI cB k1 6 q_3) mi_X0_needKind rfl ml_RX0_34 (RMok.mk) hl.1 rfl (Nat.le_of_ble_eq_true rfl) dX0_turn_11 (by decide) hK hP [] rfl hz (by rw [e_X0_turn, if_pos q_1, if_pos q_2, if_neg q_3])
    · exact thr_s FX htab hlk (x_X0_needBox l hl0 D cI cB b2 q_2) mi_X0_needBox rfl ml_RX0_23 (RMok.mk) hl.1 rfl (Nat.le_of_ble_eq_true rfl) dX0_turn_5 (by decide) hK hP [] rfl hz (by rw [e_X0_turn, if_pos q_1, if_neg q_2])
  · exact thr_s FX htab hlk (x_X0_needBox l hl0 D cI cB b1 q_1) mi_X0_needBox rfl ml_RX0_23 (RMok.mk) hl.1 rfl (Nat.le_of_ble_eq_true rfl) dX0_turn_1 (by decide) hK hP [] rfl hz (by rw [e_X0_turn, if_neg q_1])
def e_X0_filter (b1 : Int32) (b2 : Int32) (k1 : Int32) (y1 : Int32) : Nat := if (e_X0_needBox b1) = 0 then (if (e_X0_needBox b2) = 0 then (if (e_X0_needKind k1 5) = 0 then (if (e_X0_needNumber y1) = 0 then 0 else e_X0_needNumber y1) else e_X0_needKind k1 5) else e_X0_needBox b2) else e_X0_needBox b1
def v_X0_filter (b1 : Int32) (b2 : Int32) (k1 : Int32) (y1 : Int32) (f : Nat → Int32) : Int32 := v_X0_fullness ((upd f b1.toNatClampNeg (v_X0_filtered (f b2.toNatClampNeg) k1 y1)) b1.toNatClampNeg)
def wf_X0_filter (b1 : Int32) (b2 : Int32) (k1 : Int32) (y1 : Int32) (f : Nat → Int32) : Nat → Int32 := upd f b1.toNatClampNeg (v_X0_filtered (f b2.toNatClampNeg) k1 y1)
def wak_X0_filter (b2 : Int32) (f : Nat → Int32) (ak : Int32) : Int32 := ak + (v_X0_fullness (f b2.toNatClampNeg))
set_option maxRecDepth 100000 in
set_option maxHeartbeats 4000000 in
theorem k_X0_filter (l : Launch) (D : va_G) (cI cB : ClassId) (x bx px tx : Nat) (f g : Nat → Int32) (ak su gt lf rf kn : Int32) (b1 : Int32) (b2 : Int32) (k1 : Int32) (y1 : Int32) (h : e_X0_filter b1 b2 k1 y1 = 0) : WR l yX0_filter cX0_filter 5 (some .int) ({ frames := 2, cells := 0, slots := 0, locals := 44 } : Room) D cI cB [.ref x, .int b1, .int b2, .int k1, .int y1] (wX cI x bx px tx f g ak su gt lf rf kn) (v_X0_filter b1 b2 k1 y1 f) (wX cI x bx px tx (wf_X0_filter b1 b2 k1 y1 f) g (wak_X0_filter b2 f ak) su gt lf rf kn) 0 0 := by
  refine bodyWR (by decide +kernel) (Nat.le_of_ble_eq_true rfl) (fun p e s m args below meth c ls A Z => ?_)
  obtain ⟨FX, hr, hlk, hK, hP, hD, hS, hA, hl⟩ := Z
  have hl : lv_has ls 5 [(0, .ref x), (1, .int b1), (2, .int b2), (3, .int k1), (4, .int y1)] := hl
  refine lv_iload_n FX.1 FX.2.1 dX0_filter_0 rfl (lv_at hl 1 rfl) ?_
  have q_1 : (e_X0_needBox b1) = 0 := Decidable.byContradiction (fun z => absurd h (by rw [e_X0_filter, if_neg z]; exact z))
  refine c_RDvs FX (r_X0_needBox l D cI cB b1 q_1) mi_X0_needBox rfl ml_RX0_23 (RMok.mk) hl.1 rfl (Nat.le_of_ble_eq_true rfl) dX0_filter_1 (by decide) hK hP [] rfl ?_
  refine lv_iload_n FX.1 FX.2.1 dX0_filter_4 rfl (lv_at hl 2 rfl) ?_
  have q_2 : (e_X0_needBox b2) = 0 := Decidable.byContradiction (fun z => absurd h (by rw [e_X0_filter, if_pos q_1, if_neg z]; exact z))
  refine c_RDvs FX (r_X0_needBox l D cI cB b2 q_2) mi_X0_needBox rfl ml_RX0_23 (RMok.mk) hl.1 rfl (Nat.le_of_ble_eq_true rfl) dX0_filter_5 (by decide) hK hP [] rfl ?_
  refine lv_iload_n FX.1 FX.2.1 dX0_filter_8 rfl (lv_at hl 3 rfl) ?_
  refine lv_iconst (v := 5) FX.1 FX.2.1 dX0_filter_9 (by decide) ?_
  have q_3 : (e_X0_needKind k1 5) = 0 := Decidable.byContradiction (fun z => absurd h (by rw [e_X0_filter, if_pos q_1, if_pos q_2, if_neg z]; exact z))
  refine c_RDvs FX (r_X0_needKind l D cI cB k1 5 q_3) mi_X0_needKind rfl ml_RX0_34 (RMok.mk) hl.1 rfl (Nat.le_of_ble_eq_true rfl) dX0_filter_10 (by decide) hK hP [] rfl ?_
  refine lv_iload FX.1 FX.2.1 dX0_filter_13 (lv_at hl 4 rfl) ?_
  have q_4 : (e_X0_needNumber y1) = 0 := Decidable.byContradiction (fun z => absurd h (by rw [e_X0_filter, if_pos q_1, if_pos q_2, if_pos q_3, if_neg z]; exact z))
  refine c_RDvs FX (r_X0_needNumber l D cI cB y1 q_4) mi_X0_needNumber rfl ml_RX0_27 (RMok.mk) hl.1 rfl (Nat.le_of_ble_eq_true rfl) dX0_filter_15 (by decide) hK hP [] rfl ?_
  refine lv_aload_n FX.1 FX.2.1 dX0_filter_18 rfl (lv_at hl 0 rfl) ?_
  refine lv_dup FX.1 FX.2.1 dX0_filter_19 rfl ?_
  refine va_get (D := D) (ci := 2) (v := .int ak) (C := RX0) (T := TX0) (N := 9) FX.1 FX.2.1 FX.2.2.2.2 inX0 FX.2.2.2.1 hK hP 0 rfl rfl 3 (by decide) (FX.2.2.2.2 _ fl_RX0_38) (fun _ h9 => h9) rfl dX0_filter_20 ?_
  refine lv_aload_n FX.1 FX.2.1 dX0_filter_23 rfl (lv_at hl 0 rfl) ?_
  refine va_get (D := D) (ci := 2) (v := .ref bx) (C := RX0) (T := TX0) (N := 9) FX.1 FX.2.1 FX.2.2.2.2 inX0 FX.2.2.2.1 hK hP 0 rfl rfl 0 (by decide) (FX.2.2.2.2 _ fl_RX0_9) (fun _ h9 => h9) rfl dX0_filter_24 ?_
  refine lv_iload_n FX.1 FX.2.1 dX0_filter_27 rfl (lv_at hl 2 rfl) ?_
  refine p_iald (v := f b2.toNatClampNeg) FX hK hP 1 rfl (in_X0_needBox q_2) dX0_filter_28 rfl ?_
  refine c_RDs FX (r_X0_fullness l D cI cB (f b2.toNatClampNeg)) mi_X0_fullness rfl ml_RX0_30 (RMok.mk) hl.1 rfl (Nat.le_of_ble_eq_true rfl) dX0_filter_29 (by decide) hK hP [] rfl ?_
  refine lv_iadd FX.1 FX.2.1 dX0_filter_32 ?_
  refine p_put (wsN := (wX cI x bx px tx f g (ak + (v_X0_fullness (f b2.toNatClampNeg))) su gt lf rf kn)) (ci := 2) (v := .int (ak + (v_X0_fullness (f b2.toNatClampNeg)))) (ty := .int) FX inX0 tyX0_ok nmX0 hK hP hD hS 0 rfl rfl 3 (by decide) (FX.2.2.2.2 _ fl_RX0_38) rfl (by decide +kernel) rfl rfl (Nat.le_of_ble_eq_true rfl) dX0_filter_33 rfl (fun H locs hP hD hS => ?_)
  refine lv_aload_n FX.1 FX.2.1 dX0_filter_36 rfl (lv_at hl 0 rfl) ?_
  refine va_get (D := D) (ci := 2) (v := .ref bx) (C := RX0) (T := TX0) (N := 9) FX.1 FX.2.1 FX.2.2.2.2 inX0 FX.2.2.2.1 hK hP 0 rfl rfl 0 (by decide) (FX.2.2.2.2 _ fl_RX0_9) (fun _ h9 => h9) rfl dX0_filter_37 ?_
  refine lv_iload_n FX.1 FX.2.1 dX0_filter_40 rfl (lv_at hl 1 rfl) ?_
  refine lv_aload_n FX.1 FX.2.1 dX0_filter_41 rfl (lv_at hl 0 rfl) ?_
  refine va_get (D := D) (ci := 2) (v := .ref bx) (C := RX0) (T := TX0) (N := 9) FX.1 FX.2.1 FX.2.2.2.2 inX0 FX.2.2.2.1 hK hP 0 rfl rfl 0 (by decide) (FX.2.2.2.2 _ fl_RX0_9) (fun _ h9 => h9) rfl dX0_filter_42 ?_
  refine lv_iload_n FX.1 FX.2.1 dX0_filter_45 rfl (lv_at hl 2 rfl) ?_
  refine p_iald (v := f b2.toNatClampNeg) FX hK hP 1 rfl (in_X0_needBox q_2) dX0_filter_46 rfl ?_
  refine lv_iload_n FX.1 FX.2.1 dX0_filter_47 rfl (lv_at hl 3 rfl) ?_
  refine lv_iload FX.1 FX.2.1 dX0_filter_48 (lv_at hl 4 rfl) ?_
  refine c_RDs FX (r_X0_filtered l D cI cB (f b2.toNatClampNeg) k1 y1) mi_X0_filtered rfl ml_RX0_49 (RMok.mk) hl.1 rfl (Nat.le_of_ble_eq_true rfl) dX0_filter_50 (by decide) hK hP [] rfl ?_
  refine p_iast (wsN := (wX cI x bx px tx (upd f b1.toNatClampNeg (v_X0_filtered (f b2.toNatClampNeg) k1 y1)) g (ak + (v_X0_fullness (f b2.toNatClampNeg))) su gt lf rf kn)) FX hK hP hD hS 1 rfl (in_X0_needBox q_1) dX0_filter_53 rfl (fun H locs hP hD hS => ?_)
  refine lv_aload_n FX.1 FX.2.1 dX0_filter_54 rfl (lv_at hl 0 rfl) ?_
  refine va_get (D := D) (ci := 2) (v := .ref bx) (C := RX0) (T := TX0) (N := 9) FX.1 FX.2.1 FX.2.2.2.2 inX0 FX.2.2.2.1 hK hP 0 rfl rfl 0 (by decide) (FX.2.2.2.2 _ fl_RX0_9) (fun _ h9 => h9) rfl dX0_filter_55 ?_
  refine lv_iload_n FX.1 FX.2.1 dX0_filter_58 rfl (lv_at hl 1 rfl) ?_
  refine p_iald (v := (upd f b1.toNatClampNeg (v_X0_filtered (f b2.toNatClampNeg) k1 y1)) b1.toNatClampNeg) FX hK hP 1 rfl (in_X0_needBox q_1) dX0_filter_59 rfl ?_
  refine c_RDs FX (r_X0_fullness l D cI cB ((upd f b1.toNatClampNeg (v_X0_filtered (f b2.toNatClampNeg) k1 y1)) b1.toNatClampNeg)) mi_X0_fullness rfl ml_RX0_30 (RMok.mk) hl.1 rfl (Nat.le_of_ble_eq_true rfl) dX0_filter_60 (by decide) hK hP [] rfl ?_
  exact retWR FX hr hlk dX0_filter_63 rfl hP hK hD hS (by decide) (by decide) (by rw [v_X0_filter]) (by rw [wf_X0_filter, wak_X0_filter])
set_option maxRecDepth 100000 in
set_option maxHeartbeats 4000000 in
theorem x_X0_filter (l : Launch) (hl0 : l.stackTraces = false) (D : va_G) (cI cB : ClassId) (x bx px tx : Nat) (f g : Nat → Int32) (ak su gt lf rf kn : Int32) (b1 : Int32) (b2 : Int32) (k1 : Int32) (y1 : Int32) (h : ¬ e_X0_filter b1 b2 k1 y1 = 0) : XT l yX0_filter cX0_filter 5 (some .int) ({ frames := 7, cells := 1, slots := 6, locals := 111 } : Room) D cI cB [.ref x, .int b1, .int b2, .int k1, .int y1] (wX cI x bx px tx f g ak su gt lf rf kn) (e_X0_filter b1 b2 k1 y1) := by
  refine bodyXT (by decide) (Nat.le_of_ble_eq_true rfl) (fun p e s m args below meth c ls Z => ?_)
  obtain ⟨FX, hr, hlk, hK, hP, hz, htab, hl⟩ := Z
  have hl : lv_has ls 5 [(0, .ref x), (1, .int b1), (2, .int b2), (3, .int k1), (4, .int y1)] := hl
  refine lv_iload_n FX.1 FX.2.1 dX0_filter_0 rfl (lv_at hl 1 rfl) ?_
  by_cases q_1 : (e_X0_needBox b1) = 0
  · refine c_RDvs FX (r_X0_needBox l D cI cB b1 q_1) mi_X0_needBox rfl ml_RX0_23 (RMok.mk) hl.1 rfl (Nat.le_of_ble_eq_true rfl) dX0_filter_1 (by decide) hK hP [] rfl ?_
    refine lv_iload_n FX.1 FX.2.1 dX0_filter_4 rfl (lv_at hl 2 rfl) ?_
    by_cases q_2 : (e_X0_needBox b2) = 0
    · refine c_RDvs FX (r_X0_needBox l D cI cB b2 q_2) mi_X0_needBox rfl ml_RX0_23 (RMok.mk) hl.1 rfl (Nat.le_of_ble_eq_true rfl) dX0_filter_5 (by decide) hK hP [] rfl ?_
      refine lv_iload_n FX.1 FX.2.1 dX0_filter_8 rfl (lv_at hl 3 rfl) ?_
      refine lv_iconst (v := 5) FX.1 FX.2.1 dX0_filter_9 (by decide) ?_
      by_cases q_3 : (e_X0_needKind k1 5) = 0
      · refine c_RDvs FX (r_X0_needKind l D cI cB k1 5 q_3) mi_X0_needKind rfl ml_RX0_34 (RMok.mk) hl.1 rfl (Nat.le_of_ble_eq_true rfl) dX0_filter_10 (by decide) hK hP [] rfl ?_
        refine lv_iload FX.1 FX.2.1 dX0_filter_13 (lv_at hl 4 rfl) ?_
        by_cases q_4 : (e_X0_needNumber y1) = 0
        · refine c_RDvs FX (r_X0_needNumber l D cI cB y1 q_4) mi_X0_needNumber rfl ml_RX0_27 (RMok.mk) hl.1 rfl (Nat.le_of_ble_eq_true rfl) dX0_filter_15 (by decide) hK hP [] rfl ?_
          exact absurd (by rw [e_X0_filter, if_pos q_1, if_pos q_2, if_pos q_3, if_pos q_4]) h
        · exact thr_s FX htab hlk (x_X0_needNumber l hl0 D cI cB y1 q_4) mi_X0_needNumber rfl ml_RX0_27 (RMok.mk) hl.1 rfl (Nat.le_of_ble_eq_true rfl) dX0_filter_15 (by decide) hK hP [] rfl hz (by rw [e_X0_filter, if_pos q_1, if_pos q_2, if_pos q_3, if_neg q_4])
      · exact thr_s FX htab hlk (x_X0_needKind l hl0 D cI cB k1 5 q_3) mi_X0_needKind rfl ml_RX0_34 (RMok.mk) hl.1 rfl (Nat.le_of_ble_eq_true rfl) dX0_filter_10 (by decide) hK hP [] rfl hz (by rw [e_X0_filter, if_pos q_1, if_pos q_2, if_neg q_3])
    · exact thr_s FX htab hlk (x_X0_needBox l hl0 D cI cB b2 q_2) mi_X0_needBox rfl ml_RX0_23 (RMok.mk) hl.1 rfl (Nat.le_of_ble_eq_true rfl) dX0_filter_5 (by decide) hK hP [] rfl hz (by rw [e_X0_filter, if_pos q_1, if_neg q_2])
  · exact thr_s FX htab hlk (x_X0_needBox l hl0 D cI cB b1 q_1) mi_X0_needBox rfl ml_RX0_23 (RMok.mk) hl.1 rfl (Nat.le_of_ble_eq_true rfl) dX0_filter_1 (by decide) hK hP [] rfl hz (by rw [e_X0_filter, if_neg q_1])
def e_X0_or (b1 : Int32) (b2 : Int32) (b3 : Int32) : Nat := if (e_X0_needBox b1) = 0 then (if (e_X0_needBox b2) = 0 then (if (e_X0_needBox b3) = 0 then 0 else e_X0_needBox b3) else e_X0_needBox b2) else e_X0_needBox b1
def v_X0_or (b1 : Int32) (b2 : Int32) (b3 : Int32) (f : Nat → Int32) : Int32 := v_X0_fullness ((upd f b1.toNatClampNeg (v_X0_firstFull (f b2.toNatClampNeg) (f b3.toNatClampNeg))) b1.toNatClampNeg)
def wf_X0_or (b1 : Int32) (b2 : Int32) (b3 : Int32) (f : Nat → Int32) : Nat → Int32 := upd f b1.toNatClampNeg (v_X0_firstFull (f b2.toNatClampNeg) (f b3.toNatClampNeg))
def wak_X0_or (b2 : Int32) (f : Nat → Int32) (ak : Int32) : Int32 := if (f b2.toNatClampNeg) = (-10000) then ak + 1 else ak
set_option maxRecDepth 100000 in
set_option maxHeartbeats 4000000 in
theorem k_X0_or (l : Launch) (D : va_G) (cI cB : ClassId) (x bx px tx : Nat) (f g : Nat → Int32) (ak su gt lf rf kn : Int32) (b1 : Int32) (b2 : Int32) (b3 : Int32) (h : e_X0_or b1 b2 b3 = 0) : WR l yX0_or cX0_or 4 (some .int) ({ frames := 1, cells := 0, slots := 0, locals := 21 } : Room) D cI cB [.ref x, .int b1, .int b2, .int b3] (wX cI x bx px tx f g ak su gt lf rf kn) (v_X0_or b1 b2 b3 f) (wX cI x bx px tx (wf_X0_or b1 b2 b3 f) g (wak_X0_or b2 f ak) su gt lf rf kn) 0 0 := by
  refine bodyWR (by decide +kernel) (Nat.le_of_ble_eq_true rfl) (fun p e s m args below meth c ls A Z => ?_)
  obtain ⟨FX, hr, hlk, hK, hP, hD, hS, hA, hl⟩ := Z
  have hl : lv_has ls 4 [(0, .ref x), (1, .int b1), (2, .int b2), (3, .int b3)] := hl
  refine lv_iload_n FX.1 FX.2.1 dX0_or_0 rfl (lv_at hl 1 rfl) ?_
  have q_1 : (e_X0_needBox b1) = 0 := Decidable.byContradiction (fun z => absurd h (by rw [e_X0_or, if_neg z]; exact z))
  refine c_RDvs FX (r_X0_needBox l D cI cB b1 q_1) mi_X0_needBox rfl ml_RX0_23 (RMok.mk) hl.1 rfl (Nat.le_of_ble_eq_true rfl) dX0_or_1 (by decide) hK hP [] rfl ?_
  refine lv_iload_n FX.1 FX.2.1 dX0_or_4 rfl (lv_at hl 2 rfl) ?_
  have q_2 : (e_X0_needBox b2) = 0 := Decidable.byContradiction (fun z => absurd h (by rw [e_X0_or, if_pos q_1, if_neg z]; exact z))
  refine c_RDvs FX (r_X0_needBox l D cI cB b2 q_2) mi_X0_needBox rfl ml_RX0_23 (RMok.mk) hl.1 rfl (Nat.le_of_ble_eq_true rfl) dX0_or_5 (by decide) hK hP [] rfl ?_
  refine lv_iload_n FX.1 FX.2.1 dX0_or_8 rfl (lv_at hl 3 rfl) ?_
  have q_3 : (e_X0_needBox b3) = 0 := Decidable.byContradiction (fun z => absurd h (by rw [e_X0_or, if_pos q_1, if_pos q_2, if_neg z]; exact z))
  refine c_RDvs FX (r_X0_needBox l D cI cB b3 q_3) mi_X0_needBox rfl ml_RX0_23 (RMok.mk) hl.1 rfl (Nat.le_of_ble_eq_true rfl) dX0_or_9 (by decide) hK hP [] rfl ?_
  refine lv_aload_n FX.1 FX.2.1 dX0_or_12 rfl (lv_at hl 0 rfl) ?_
  refine va_get (D := D) (ci := 2) (v := .ref bx) (C := RX0) (T := TX0) (N := 9) FX.1 FX.2.1 FX.2.2.2.2 inX0 FX.2.2.2.1 hK hP 0 rfl rfl 0 (by decide) (FX.2.2.2.2 _ fl_RX0_9) (fun _ h9 => h9) rfl dX0_or_13 ?_
  refine lv_iload_n FX.1 FX.2.1 dX0_or_16 rfl (lv_at hl 2 rfl) ?_
  refine p_iald (v := f b2.toNatClampNeg) FX hK hP 1 rfl (in_X0_needBox q_2) dX0_or_17 rfl ?_
  refine lv_sipush (v := (-10000)) FX.1 FX.2.1 dX0_or_18 (by decide) ?_
  refine lv_icmp_ne (tgt := 34) FX.1 FX.2.1 dX0_or_21 (by decide) (fun c_4 => ?_) (fun c_4 => ?_)
  · refine lv_aload_n FX.1 FX.2.1 dX0_or_34 rfl (lv_at hl 0 rfl) ?_
    refine va_get (D := D) (ci := 2) (v := .ref bx) (C := RX0) (T := TX0) (N := 9) FX.1 FX.2.1 FX.2.2.2.2 inX0 FX.2.2.2.1 hK hP 0 rfl rfl 0 (by decide) (FX.2.2.2.2 _ fl_RX0_9) (fun _ h9 => h9) rfl dX0_or_35 ?_
    refine lv_iload_n FX.1 FX.2.1 dX0_or_38 rfl (lv_at hl 1 rfl) ?_
    refine lv_aload_n FX.1 FX.2.1 dX0_or_39 rfl (lv_at hl 0 rfl) ?_
    refine va_get (D := D) (ci := 2) (v := .ref bx) (C := RX0) (T := TX0) (N := 9) FX.1 FX.2.1 FX.2.2.2.2 inX0 FX.2.2.2.1 hK hP 0 rfl rfl 0 (by decide) (FX.2.2.2.2 _ fl_RX0_9) (fun _ h9 => h9) rfl dX0_or_40 ?_
    refine lv_iload_n FX.1 FX.2.1 dX0_or_43 rfl (lv_at hl 2 rfl) ?_
    refine p_iald (v := f b2.toNatClampNeg) FX hK hP 1 rfl (in_X0_needBox q_2) dX0_or_44 rfl ?_
    refine lv_aload_n FX.1 FX.2.1 dX0_or_45 rfl (lv_at hl 0 rfl) ?_
    refine va_get (D := D) (ci := 2) (v := .ref bx) (C := RX0) (T := TX0) (N := 9) FX.1 FX.2.1 FX.2.2.2.2 inX0 FX.2.2.2.1 hK hP 0 rfl rfl 0 (by decide) (FX.2.2.2.2 _ fl_RX0_9) (fun _ h9 => h9) rfl dX0_or_46 ?_
    refine lv_iload_n FX.1 FX.2.1 dX0_or_49 rfl (lv_at hl 3 rfl) ?_
    refine p_iald (v := f b3.toNatClampNeg) FX hK hP 1 rfl (in_X0_needBox q_3) dX0_or_50 rfl ?_
    refine c_RDs FX (r_X0_firstFull l D cI cB (f b2.toNatClampNeg) (f b3.toNatClampNeg)) mi_X0_firstFull rfl ml_RX0_52 (RMok.mk) hl.1 rfl (Nat.le_of_ble_eq_true rfl) dX0_or_51 (by decide) hK hP [] rfl ?_
    refine p_iast (wsN := (wX cI x bx px tx (upd f b1.toNatClampNeg (v_X0_firstFull (f b2.toNatClampNeg) (f b3.toNatClampNeg))) g ak su gt lf rf kn)) FX hK hP hD hS 1 rfl (in_X0_needBox q_1) dX0_or_54 rfl (fun H locs hP hD hS => ?_)
    refine lv_aload_n FX.1 FX.2.1 dX0_or_55 rfl (lv_at hl 0 rfl) ?_
    refine va_get (D := D) (ci := 2) (v := .ref bx) (C := RX0) (T := TX0) (N := 9) FX.1 FX.2.1 FX.2.2.2.2 inX0 FX.2.2.2.1 hK hP 0 rfl rfl 0 (by decide) (FX.2.2.2.2 _ fl_RX0_9) (fun _ h9 => h9) rfl dX0_or_56 ?_
    refine lv_iload_n FX.1 FX.2.1 dX0_or_59 rfl (lv_at hl 1 rfl) ?_
    refine p_iald (v := (upd f b1.toNatClampNeg (v_X0_firstFull (f b2.toNatClampNeg) (f b3.toNatClampNeg))) b1.toNatClampNeg) FX hK hP 1 rfl (in_X0_needBox q_1) dX0_or_60 rfl ?_
    refine c_RDs FX (r_X0_fullness l D cI cB ((upd f b1.toNatClampNeg (v_X0_firstFull (f b2.toNatClampNeg) (f b3.toNatClampNeg))) b1.toNatClampNeg)) mi_X0_fullness rfl ml_RX0_30 (RMok.mk) hl.1 rfl (Nat.le_of_ble_eq_true rfl) dX0_or_61 (by decide) hK hP [] rfl ?_
    exact retWR FX hr hlk dX0_or_64 rfl hP hK hD hS (by decide) (by decide) (by rw [v_X0_or]) (by rw [wf_X0_or, wak_X0_or, if_neg c_4])
  · refine lv_aload_n FX.1 FX.2.1 dX0_or_24 rfl (lv_at hl 0 rfl) ?_
    refine lv_dup FX.1 FX.2.1 dX0_or_25 rfl ?_
    refine va_get (D := D) (ci := 2) (v := .int ak) (C := RX0) (T := TX0) (N := 9) FX.1 FX.2.1 FX.2.2.2.2 inX0 FX.2.2.2.1 hK hP 0 rfl rfl 3 (by decide) (FX.2.2.2.2 _ fl_RX0_38) (fun _ h9 => h9) rfl dX0_or_26 ?_
    refine lv_iconst (v := 1) FX.1 FX.2.1 dX0_or_29 (by decide) ?_
    refine lv_iadd FX.1 FX.2.1 dX0_or_30 ?_
    refine p_put (wsN := (wX cI x bx px tx f g (ak + 1) su gt lf rf kn)) (ci := 2) (v := .int (ak + 1)) (ty := .int) FX inX0 tyX0_ok nmX0 hK hP hD hS 0 rfl rfl 3 (by decide) (FX.2.2.2.2 _ fl_RX0_38) rfl (by decide +kernel) rfl rfl (Nat.le_of_ble_eq_true rfl) dX0_or_31 rfl (fun H locs hP hD hS => ?_)
    refine lv_aload_n FX.1 FX.2.1 dX0_or_34 rfl (lv_at hl 0 rfl) ?_
    refine va_get (D := D) (ci := 2) (v := .ref bx) (C := RX0) (T := TX0) (N := 9) FX.1 FX.2.1 FX.2.2.2.2 inX0 FX.2.2.2.1 hK hP 0 rfl rfl 0 (by decide) (FX.2.2.2.2 _ fl_RX0_9) (fun _ h9 => h9) rfl dX0_or_35 ?_
    refine lv_iload_n FX.1 FX.2.1 dX0_or_38 rfl (lv_at hl 1 rfl) ?_
    refine lv_aload_n FX.1 FX.2.1 dX0_or_39 rfl (lv_at hl 0 rfl) ?_
    refine va_get (D := D) (ci := 2) (v := .ref bx) (C := RX0) (T := TX0) (N := 9) FX.1 FX.2.1 FX.2.2.2.2 inX0 FX.2.2.2.1 hK hP 0 rfl rfl 0 (by decide) (FX.2.2.2.2 _ fl_RX0_9) (fun _ h9 => h9) rfl dX0_or_40 ?_
    refine lv_iload_n FX.1 FX.2.1 dX0_or_43 rfl (lv_at hl 2 rfl) ?_
    refine p_iald (v := f b2.toNatClampNeg) FX hK hP 1 rfl (in_X0_needBox q_2) dX0_or_44 rfl ?_
    refine lv_aload_n FX.1 FX.2.1 dX0_or_45 rfl (lv_at hl 0 rfl) ?_
    refine va_get (D := D) (ci := 2) (v := .ref bx) (C := RX0) (T := TX0) (N := 9) FX.1 FX.2.1 FX.2.2.2.2 inX0 FX.2.2.2.1 hK hP 0 rfl rfl 0 (by decide) (FX.2.2.2.2 _ fl_RX0_9) (fun _ h9 => h9) rfl dX0_or_46 ?_
    refine lv_iload_n FX.1 FX.2.1 dX0_or_49 rfl (lv_at hl 3 rfl) ?_
    refine p_iald (v := f b3.toNatClampNeg) FX hK hP 1 rfl (in_X0_needBox q_3) dX0_or_50 rfl ?_
    refine c_RDs FX (r_X0_firstFull l D cI cB (f b2.toNatClampNeg) (f b3.toNatClampNeg)) mi_X0_firstFull rfl ml_RX0_52 (RMok.mk) hl.1 rfl (Nat.le_of_ble_eq_true rfl) dX0_or_51 (by decide) hK hP [] rfl ?_
    refine p_iast (wsN := (wX cI x bx px tx (upd f b1.toNatClampNeg (v_X0_firstFull (f b2.toNatClampNeg) (f b3.toNatClampNeg))) g (ak + 1) su gt lf rf kn)) FX hK hP hD hS 1 rfl (in_X0_needBox q_1) dX0_or_54 rfl (fun H locs hP hD hS => ?_)
    refine lv_aload_n FX.1 FX.2.1 dX0_or_55 rfl (lv_at hl 0 rfl) ?_
    refine va_get (D := D) (ci := 2) (v := .ref bx) (C := RX0) (T := TX0) (N := 9) FX.1 FX.2.1 FX.2.2.2.2 inX0 FX.2.2.2.1 hK hP 0 rfl rfl 0 (by decide) (FX.2.2.2.2 _ fl_RX0_9) (fun _ h9 => h9) rfl dX0_or_56 ?_
    refine lv_iload_n FX.1 FX.2.1 dX0_or_59 rfl (lv_at hl 1 rfl) ?_
    refine p_iald (v := (upd f b1.toNatClampNeg (v_X0_firstFull (f b2.toNatClampNeg) (f b3.toNatClampNeg))) b1.toNatClampNeg) FX hK hP 1 rfl (in_X0_needBox q_1) dX0_or_60 rfl ?_
    refine c_RDs FX (r_X0_fullness l D cI cB ((upd f b1.toNatClampNeg (v_X0_firstFull (f b2.toNatClampNeg) (f b3.toNatClampNeg))) b1.toNatClampNeg)) mi_X0_fullness rfl ml_RX0_30 (RMok.mk) hl.1 rfl (Nat.le_of_ble_eq_true rfl) dX0_or_61 (by decide) hK hP [] rfl ?_
    exact retWR FX hr hlk dX0_or_64 rfl hP hK hD hS (by decide) (by decide) (by rw [v_X0_or]) (by rw [wf_X0_or, wak_X0_or, if_pos c_4])
set_option maxRecDepth 100000 in
set_option maxHeartbeats 4000000 in
theorem x_X0_or (l : Launch) (hl0 : l.stackTraces = false) (D : va_G) (cI cB : ClassId) (x bx px tx : Nat) (f g : Nat → Int32) (ak su gt lf rf kn : Int32) (b1 : Int32) (b2 : Int32) (b3 : Int32) (h : ¬ e_X0_or b1 b2 b3 = 0) : XT l yX0_or cX0_or 4 (some .int) ({ frames := 7, cells := 1, slots := 6, locals := 110 } : Room) D cI cB [.ref x, .int b1, .int b2, .int b3] (wX cI x bx px tx f g ak su gt lf rf kn) (e_X0_or b1 b2 b3) := by
  refine bodyXT (by decide) (Nat.le_of_ble_eq_true rfl) (fun p e s m args below meth c ls Z => ?_)
  obtain ⟨FX, hr, hlk, hK, hP, hz, htab, hl⟩ := Z
  have hl : lv_has ls 4 [(0, .ref x), (1, .int b1), (2, .int b2), (3, .int b3)] := hl
  refine lv_iload_n FX.1 FX.2.1 dX0_or_0 rfl (lv_at hl 1 rfl) ?_
  by_cases q_1 : (e_X0_needBox b1) = 0
  · refine c_RDvs FX (r_X0_needBox l D cI cB b1 q_1) mi_X0_needBox rfl ml_RX0_23 (RMok.mk) hl.1 rfl (Nat.le_of_ble_eq_true rfl) dX0_or_1 (by decide) hK hP [] rfl ?_
    refine lv_iload_n FX.1 FX.2.1 dX0_or_4 rfl (lv_at hl 2 rfl) ?_
    by_cases q_2 : (e_X0_needBox b2) = 0
    · refine c_RDvs FX (r_X0_needBox l D cI cB b2 q_2) mi_X0_needBox rfl ml_RX0_23 (RMok.mk) hl.1 rfl (Nat.le_of_ble_eq_true rfl) dX0_or_5 (by decide) hK hP [] rfl ?_
      refine lv_iload_n FX.1 FX.2.1 dX0_or_8 rfl (lv_at hl 3 rfl) ?_
      by_cases q_3 : (e_X0_needBox b3) = 0
      · refine c_RDvs FX (r_X0_needBox l D cI cB b3 q_3) mi_X0_needBox rfl ml_RX0_23 (RMok.mk) hl.1 rfl (Nat.le_of_ble_eq_true rfl) dX0_or_9 (by decide) hK hP [] rfl ?_
        exact absurd (by rw [e_X0_or, if_pos q_1, if_pos q_2, if_pos q_3]) h
      · exact thr_s FX htab hlk (x_X0_needBox l hl0 D cI cB b3 q_3) mi_X0_needBox rfl ml_RX0_23 (RMok.mk) hl.1 rfl (Nat.le_of_ble_eq_true rfl) dX0_or_9 (by decide) hK hP [] rfl hz (by rw [e_X0_or, if_pos q_1, if_pos q_2, if_neg q_3])
    · exact thr_s FX htab hlk (x_X0_needBox l hl0 D cI cB b2 q_2) mi_X0_needBox rfl ml_RX0_23 (RMok.mk) hl.1 rfl (Nat.le_of_ble_eq_true rfl) dX0_or_5 (by decide) hK hP [] rfl hz (by rw [e_X0_or, if_pos q_1, if_neg q_2])
  · exact thr_s FX htab hlk (x_X0_needBox l hl0 D cI cB b1 q_1) mi_X0_needBox rfl ml_RX0_23 (RMok.mk) hl.1 rfl (Nat.le_of_ble_eq_true rfl) dX0_or_1 (by decide) hK hP [] rfl hz (by rw [e_X0_or, if_neg q_1])
def e_X0_wrap (b1 : Int32) (b2 : Int32) : Nat := if (e_X0_needBox b1) = 0 then (if (e_X0_needBox b2) = 0 then 0 else e_X0_needBox b2) else e_X0_needBox b1
def v_X0_wrap (b1 : Int32) (b2 : Int32) (f : Nat → Int32) : Int32 := v_X0_fullness ((upd f b1.toNatClampNeg (v_X0_rewrapped (f b2.toNatClampNeg))) b1.toNatClampNeg)
def wf_X0_wrap (b1 : Int32) (b2 : Int32) (f : Nat → Int32) : Nat → Int32 := upd f b1.toNatClampNeg (v_X0_rewrapped (f b2.toNatClampNeg))
set_option maxRecDepth 100000 in
set_option maxHeartbeats 4000000 in
theorem k_X0_wrap (l : Launch) (D : va_G) (cI cB : ClassId) (x bx px tx : Nat) (f g : Nat → Int32) (ak su gt lf rf kn : Int32) (b1 : Int32) (b2 : Int32) (h : e_X0_wrap b1 b2 = 0) : WR l yX0_wrap cX0_wrap 3 (some .int) ({ frames := 1, cells := 0, slots := 0, locals := 20 } : Room) D cI cB [.ref x, .int b1, .int b2] (wX cI x bx px tx f g ak su gt lf rf kn) (v_X0_wrap b1 b2 f) (wX cI x bx px tx (wf_X0_wrap b1 b2 f) g ak su gt lf rf kn) 0 0 := by
  refine bodyWR (by decide +kernel) (Nat.le_of_ble_eq_true rfl) (fun p e s m args below meth c ls A Z => ?_)
  obtain ⟨FX, hr, hlk, hK, hP, hD, hS, hA, hl⟩ := Z
  have hl : lv_has ls 3 [(0, .ref x), (1, .int b1), (2, .int b2)] := hl
  refine lv_iload_n FX.1 FX.2.1 dX0_wrap_0 rfl (lv_at hl 1 rfl) ?_
  have q_1 : (e_X0_needBox b1) = 0 := Decidable.byContradiction (fun z => absurd h (by rw [e_X0_wrap, if_neg z]; exact z))
  refine c_RDvs FX (r_X0_needBox l D cI cB b1 q_1) mi_X0_needBox rfl ml_RX0_23 (RMok.mk) hl.1 rfl (Nat.le_of_ble_eq_true rfl) dX0_wrap_1 (by decide) hK hP [] rfl ?_
  refine lv_iload_n FX.1 FX.2.1 dX0_wrap_4 rfl (lv_at hl 2 rfl) ?_
  have q_2 : (e_X0_needBox b2) = 0 := Decidable.byContradiction (fun z => absurd h (by rw [e_X0_wrap, if_pos q_1, if_neg z]; exact z))
  refine c_RDvs FX (r_X0_needBox l D cI cB b2 q_2) mi_X0_needBox rfl ml_RX0_23 (RMok.mk) hl.1 rfl (Nat.le_of_ble_eq_true rfl) dX0_wrap_5 (by decide) hK hP [] rfl ?_
  refine lv_aload_n FX.1 FX.2.1 dX0_wrap_8 rfl (lv_at hl 0 rfl) ?_
  refine va_get (D := D) (ci := 2) (v := .ref bx) (C := RX0) (T := TX0) (N := 9) FX.1 FX.2.1 FX.2.2.2.2 inX0 FX.2.2.2.1 hK hP 0 rfl rfl 0 (by decide) (FX.2.2.2.2 _ fl_RX0_9) (fun _ h9 => h9) rfl dX0_wrap_9 ?_
  refine lv_iload_n FX.1 FX.2.1 dX0_wrap_12 rfl (lv_at hl 1 rfl) ?_
  refine lv_aload_n FX.1 FX.2.1 dX0_wrap_13 rfl (lv_at hl 0 rfl) ?_
  refine va_get (D := D) (ci := 2) (v := .ref bx) (C := RX0) (T := TX0) (N := 9) FX.1 FX.2.1 FX.2.2.2.2 inX0 FX.2.2.2.1 hK hP 0 rfl rfl 0 (by decide) (FX.2.2.2.2 _ fl_RX0_9) (fun _ h9 => h9) rfl dX0_wrap_14 ?_
  refine lv_iload_n FX.1 FX.2.1 dX0_wrap_17 rfl (lv_at hl 2 rfl) ?_
  refine p_iald (v := f b2.toNatClampNeg) FX hK hP 1 rfl (in_X0_needBox q_2) dX0_wrap_18 rfl ?_
  refine c_RDs FX (r_X0_rewrapped l D cI cB (f b2.toNatClampNeg)) mi_X0_rewrapped rfl ml_RX0_56 (RMok.mk) hl.1 rfl (Nat.le_of_ble_eq_true rfl) dX0_wrap_19 (by decide) hK hP [] rfl ?_
  refine p_iast (wsN := (wX cI x bx px tx (upd f b1.toNatClampNeg (v_X0_rewrapped (f b2.toNatClampNeg))) g ak su gt lf rf kn)) FX hK hP hD hS 1 rfl (in_X0_needBox q_1) dX0_wrap_22 rfl (fun H locs hP hD hS => ?_)
  refine lv_aload_n FX.1 FX.2.1 dX0_wrap_23 rfl (lv_at hl 0 rfl) ?_
  refine va_get (D := D) (ci := 2) (v := .ref bx) (C := RX0) (T := TX0) (N := 9) FX.1 FX.2.1 FX.2.2.2.2 inX0 FX.2.2.2.1 hK hP 0 rfl rfl 0 (by decide) (FX.2.2.2.2 _ fl_RX0_9) (fun _ h9 => h9) rfl dX0_wrap_24 ?_
  refine lv_iload_n FX.1 FX.2.1 dX0_wrap_27 rfl (lv_at hl 1 rfl) ?_
  refine p_iald (v := (upd f b1.toNatClampNeg (v_X0_rewrapped (f b2.toNatClampNeg))) b1.toNatClampNeg) FX hK hP 1 rfl (in_X0_needBox q_1) dX0_wrap_28 rfl ?_
  refine c_RDs FX (r_X0_fullness l D cI cB ((upd f b1.toNatClampNeg (v_X0_rewrapped (f b2.toNatClampNeg))) b1.toNatClampNeg)) mi_X0_fullness rfl ml_RX0_30 (RMok.mk) hl.1 rfl (Nat.le_of_ble_eq_true rfl) dX0_wrap_29 (by decide) hK hP [] rfl ?_
  exact retWR FX hr hlk dX0_wrap_32 rfl hP hK hD hS (by decide) (by decide) (by rw [v_X0_wrap]) (by rw [wf_X0_wrap])
set_option maxRecDepth 100000 in
set_option maxHeartbeats 4000000 in
theorem x_X0_wrap (l : Launch) (hl0 : l.stackTraces = false) (D : va_G) (cI cB : ClassId) (x bx px tx : Nat) (f g : Nat → Int32) (ak su gt lf rf kn : Int32) (b1 : Int32) (b2 : Int32) (h : ¬ e_X0_wrap b1 b2 = 0) : XT l yX0_wrap cX0_wrap 3 (some .int) ({ frames := 7, cells := 1, slots := 6, locals := 110 } : Room) D cI cB [.ref x, .int b1, .int b2] (wX cI x bx px tx f g ak su gt lf rf kn) (e_X0_wrap b1 b2) := by
  refine bodyXT (by decide) (Nat.le_of_ble_eq_true rfl) (fun p e s m args below meth c ls Z => ?_)
  obtain ⟨FX, hr, hlk, hK, hP, hz, htab, hl⟩ := Z
  have hl : lv_has ls 3 [(0, .ref x), (1, .int b1), (2, .int b2)] := hl
  refine lv_iload_n FX.1 FX.2.1 dX0_wrap_0 rfl (lv_at hl 1 rfl) ?_
  by_cases q_1 : (e_X0_needBox b1) = 0
  · refine c_RDvs FX (r_X0_needBox l D cI cB b1 q_1) mi_X0_needBox rfl ml_RX0_23 (RMok.mk) hl.1 rfl (Nat.le_of_ble_eq_true rfl) dX0_wrap_1 (by decide) hK hP [] rfl ?_
    refine lv_iload_n FX.1 FX.2.1 dX0_wrap_4 rfl (lv_at hl 2 rfl) ?_
    by_cases q_2 : (e_X0_needBox b2) = 0
    · refine c_RDvs FX (r_X0_needBox l D cI cB b2 q_2) mi_X0_needBox rfl ml_RX0_23 (RMok.mk) hl.1 rfl (Nat.le_of_ble_eq_true rfl) dX0_wrap_5 (by decide) hK hP [] rfl ?_
      exact absurd (by rw [e_X0_wrap, if_pos q_1, if_pos q_2]) h
    · exact thr_s FX htab hlk (x_X0_needBox l hl0 D cI cB b2 q_2) mi_X0_needBox rfl ml_RX0_23 (RMok.mk) hl.1 rfl (Nat.le_of_ble_eq_true rfl) dX0_wrap_5 (by decide) hK hP [] rfl hz (by rw [e_X0_wrap, if_pos q_1, if_neg q_2])
  · exact thr_s FX htab hlk (x_X0_needBox l hl0 D cI cB b1 q_1) mi_X0_needBox rfl ml_RX0_23 (RMok.mk) hl.1 rfl (Nat.le_of_ble_eq_true rfl) dX0_wrap_1 (by decide) hK hP [] rfl hz (by rw [e_X0_wrap, if_neg q_1])
def e_X0_both (b1 : Int32) (b2 : Int32) (k1 : Int32) (k2 : Int32) (y1 : Int32) : Nat := if (e_X0_needBox b1) = 0 then (if (e_X0_needBox b2) = 0 then (if (e_X0_needKind k1 6) = 0 then (if (e_X0_needKind k2 5) = 0 then (if (e_X0_needNumber y1) = 0 then 0 else e_X0_needNumber y1) else e_X0_needKind k2 5) else e_X0_needKind k1 6) else e_X0_needBox b2) else e_X0_needBox b1
def v_X0_both (b1 : Int32) (b2 : Int32) (k1 : Int32) (k2 : Int32) (y1 : Int32) (f : Nat → Int32) : Int32 := v_X0_fullness ((upd f b1.toNatClampNeg (v_X0_turned (v_X0_mapped (f b2.toNatClampNeg) k1 y1) k2 y1 f)) b1.toNatClampNeg)
def wf_X0_both (b1 : Int32) (b2 : Int32) (k1 : Int32) (k2 : Int32) (y1 : Int32) (f : Nat → Int32) : Nat → Int32 := upd f b1.toNatClampNeg (v_X0_turned (v_X0_mapped (f b2.toNatClampNeg) k1 y1) k2 y1 f)
def wak_X0_both (b2 : Int32) (k1 : Int32) (y1 : Int32) (f : Nat → Int32) (ak : Int32) : Int32 := ak + ((v_X0_fullness (f b2.toNatClampNeg)) + (v_X0_fullness (v_X0_mapped (f b2.toNatClampNeg) k1 y1)))
set_option maxRecDepth 100000 in
set_option maxHeartbeats 4000000 in
theorem k_X0_both (l : Launch) (D : va_G) (cI cB : ClassId) (x bx px tx : Nat) (f g : Nat → Int32) (ak su gt lf rf kn : Int32) (b1 : Int32) (b2 : Int32) (k1 : Int32) (k2 : Int32) (y1 : Int32) (h : e_X0_both b1 b2 k1 k2 y1 = 0) : WR l yX0_both cX0_both 7 (some .int) ({ frames := 4, cells := 0, slots := 0, locals := 84 } : Room) D cI cB [.ref x, .int b1, .int b2, .int k1, .int k2, .int y1] (wX cI x bx px tx f g ak su gt lf rf kn) (v_X0_both b1 b2 k1 k2 y1 f) (wX cI x bx px tx (wf_X0_both b1 b2 k1 k2 y1 f) g (wak_X0_both b2 k1 y1 f ak) su gt lf rf kn) 0 0 := by
  refine bodyWR (by decide +kernel) (Nat.le_of_ble_eq_true rfl) (fun p e s m args below meth c ls A Z => ?_)
  obtain ⟨FX, hr, hlk, hK, hP, hD, hS, hA, hl⟩ := Z
  have hl : lv_has ls 7 [(0, .ref x), (1, .int b1), (2, .int b2), (3, .int k1), (4, .int k2), (5, .int y1)] := hl
  refine lv_iload_n FX.1 FX.2.1 dX0_both_0 rfl (lv_at hl 1 rfl) ?_
  have q_1 : (e_X0_needBox b1) = 0 := Decidable.byContradiction (fun z => absurd h (by rw [e_X0_both, if_neg z]; exact z))
  refine c_RDvs FX (r_X0_needBox l D cI cB b1 q_1) mi_X0_needBox rfl ml_RX0_23 (RMok.mk) hl.1 rfl (Nat.le_of_ble_eq_true rfl) dX0_both_1 (by decide) hK hP [] rfl ?_
  refine lv_iload_n FX.1 FX.2.1 dX0_both_4 rfl (lv_at hl 2 rfl) ?_
  have q_2 : (e_X0_needBox b2) = 0 := Decidable.byContradiction (fun z => absurd h (by rw [e_X0_both, if_pos q_1, if_neg z]; exact z))
  refine c_RDvs FX (r_X0_needBox l D cI cB b2 q_2) mi_X0_needBox rfl ml_RX0_23 (RMok.mk) hl.1 rfl (Nat.le_of_ble_eq_true rfl) dX0_both_5 (by decide) hK hP [] rfl ?_
  refine lv_iload_n FX.1 FX.2.1 dX0_both_8 rfl (lv_at hl 3 rfl) ?_
  refine lv_bipush (v := 6) FX.1 FX.2.1 dX0_both_9 (by decide) ?_
  have q_3 : (e_X0_needKind k1 6) = 0 := Decidable.byContradiction (fun z => absurd h (by rw [e_X0_both, if_pos q_1, if_pos q_2, if_neg z]; exact z))
  refine c_RDvs FX (r_X0_needKind l D cI cB k1 6 q_3) mi_X0_needKind rfl ml_RX0_34 (RMok.mk) hl.1 rfl (Nat.le_of_ble_eq_true rfl) dX0_both_11 (by decide) hK hP [] rfl ?_
  refine lv_iload FX.1 FX.2.1 dX0_both_14 (lv_at hl 4 rfl) ?_
  refine lv_iconst (v := 5) FX.1 FX.2.1 dX0_both_16 (by decide) ?_
  have q_4 : (e_X0_needKind k2 5) = 0 := Decidable.byContradiction (fun z => absurd h (by rw [e_X0_both, if_pos q_1, if_pos q_2, if_pos q_3, if_neg z]; exact z))
  refine c_RDvs FX (r_X0_needKind l D cI cB k2 5 q_4) mi_X0_needKind rfl ml_RX0_34 (RMok.mk) hl.1 rfl (Nat.le_of_ble_eq_true rfl) dX0_both_17 (by decide) hK hP [] rfl ?_
  refine lv_iload FX.1 FX.2.1 dX0_both_20 (lv_at hl 5 rfl) ?_
  have q_5 : (e_X0_needNumber y1) = 0 := Decidable.byContradiction (fun z => absurd h (by rw [e_X0_both, if_pos q_1, if_pos q_2, if_pos q_3, if_pos q_4, if_neg z]; exact z))
  refine c_RDvs FX (r_X0_needNumber l D cI cB y1 q_5) mi_X0_needNumber rfl ml_RX0_27 (RMok.mk) hl.1 rfl (Nat.le_of_ble_eq_true rfl) dX0_both_22 (by decide) hK hP [] rfl ?_
  refine lv_aload_n FX.1 FX.2.1 dX0_both_25 rfl (lv_at hl 0 rfl) ?_
  refine va_get (D := D) (ci := 2) (v := .ref bx) (C := RX0) (T := TX0) (N := 9) FX.1 FX.2.1 FX.2.2.2.2 inX0 FX.2.2.2.1 hK hP 0 rfl rfl 0 (by decide) (FX.2.2.2.2 _ fl_RX0_9) (fun _ h9 => h9) rfl dX0_both_26 ?_
  refine lv_iload_n FX.1 FX.2.1 dX0_both_29 rfl (lv_at hl 2 rfl) ?_
  refine p_iald (v := f b2.toNatClampNeg) FX hK hP 1 rfl (in_X0_needBox q_2) dX0_both_30 rfl ?_
  refine lv_iload_n FX.1 FX.2.1 dX0_both_31 rfl (lv_at hl 3 rfl) ?_
  refine lv_iload FX.1 FX.2.1 dX0_both_32 (lv_at hl 5 rfl) ?_
  refine c_RDs FX (r_X0_mapped l D cI cB (f b2.toNatClampNeg) k1 y1) mi_X0_mapped rfl ml_RX0_42 (RMok.mk) hl.1 rfl (Nat.le_of_ble_eq_true rfl) dX0_both_34 (by decide) hK hP [] rfl ?_
  refine lv_istore (lv' := [(6, .int (v_X0_mapped (f b2.toNatClampNeg) k1 y1)), (0, .ref x), (1, .int b1), (2, .int b2), (3, .int k1), (4, .int k2), (5, .int y1)]) FX.1 FX.2.1 dX0_both_37 hl (by decide) rfl (fun ls hl => ?_)
  refine lv_aload_n FX.1 FX.2.1 dX0_both_39 rfl (lv_at hl 1 rfl) ?_
  refine lv_dup FX.1 FX.2.1 dX0_both_40 rfl ?_
  refine va_get (D := D) (ci := 2) (v := .int ak) (C := RX0) (T := TX0) (N := 9) FX.1 FX.2.1 FX.2.2.2.2 inX0 FX.2.2.2.1 hK hP 0 rfl rfl 3 (by decide) (FX.2.2.2.2 _ fl_RX0_38) (fun _ h9 => h9) rfl dX0_both_41 ?_
  refine lv_aload_n FX.1 FX.2.1 dX0_both_44 rfl (lv_at hl 1 rfl) ?_
  refine va_get (D := D) (ci := 2) (v := .ref bx) (C := RX0) (T := TX0) (N := 9) FX.1 FX.2.1 FX.2.2.2.2 inX0 FX.2.2.2.1 hK hP 0 rfl rfl 0 (by decide) (FX.2.2.2.2 _ fl_RX0_9) (fun _ h9 => h9) rfl dX0_both_45 ?_
  refine lv_iload_n FX.1 FX.2.1 dX0_both_48 rfl (lv_at hl 3 rfl) ?_
  refine p_iald (v := f b2.toNatClampNeg) FX hK hP 1 rfl (in_X0_needBox q_2) dX0_both_49 rfl ?_
  refine c_RDs FX (r_X0_fullness l D cI cB (f b2.toNatClampNeg)) mi_X0_fullness rfl ml_RX0_30 (RMok.mk) hl.1 rfl (Nat.le_of_ble_eq_true rfl) dX0_both_50 (by decide) hK hP [] rfl ?_
  refine lv_iload FX.1 FX.2.1 dX0_both_53 (lv_at hl 0 rfl) ?_
  refine c_RDs FX (r_X0_fullness l D cI cB (v_X0_mapped (f b2.toNatClampNeg) k1 y1)) mi_X0_fullness rfl ml_RX0_30 (RMok.mk) hl.1 rfl (Nat.le_of_ble_eq_true rfl) dX0_both_55 (by decide) hK hP [] rfl ?_
  refine lv_iadd FX.1 FX.2.1 dX0_both_58 ?_
  refine lv_iadd FX.1 FX.2.1 dX0_both_59 ?_
  refine p_put (wsN := (wX cI x bx px tx f g (ak + ((v_X0_fullness (f b2.toNatClampNeg)) + (v_X0_fullness (v_X0_mapped (f b2.toNatClampNeg) k1 y1)))) su gt lf rf kn)) (ci := 2) (v := .int (ak + ((v_X0_fullness (f b2.toNatClampNeg)) + (v_X0_fullness (v_X0_mapped (f b2.toNatClampNeg) k1 y1))))) (ty := .int) FX inX0 tyX0_ok nmX0 hK hP hD hS 0 rfl rfl 3 (by decide) (FX.2.2.2.2 _ fl_RX0_38) rfl (by decide +kernel) rfl rfl (Nat.le_of_ble_eq_true rfl) dX0_both_60 rfl (fun H locs hP hD hS => ?_)
  refine lv_aload_n FX.1 FX.2.1 dX0_both_63 rfl (lv_at hl 1 rfl) ?_
  refine va_get (D := D) (ci := 2) (v := .ref bx) (C := RX0) (T := TX0) (N := 9) FX.1 FX.2.1 FX.2.2.2.2 inX0 FX.2.2.2.1 hK hP 0 rfl rfl 0 (by decide) (FX.2.2.2.2 _ fl_RX0_9) (fun _ h9 => h9) rfl dX0_both_64 ?_
  refine lv_iload_n FX.1 FX.2.1 dX0_both_67 rfl (lv_at hl 2 rfl) ?_
  refine lv_aload_n FX.1 FX.2.1 dX0_both_68 rfl (lv_at hl 1 rfl) ?_
  refine lv_iload FX.1 FX.2.1 dX0_both_69 (lv_at hl 0 rfl) ?_
  refine lv_iload FX.1 FX.2.1 dX0_both_71 (lv_at hl 5 rfl) ?_
  refine lv_iload FX.1 FX.2.1 dX0_both_73 (lv_at hl 6 rfl) ?_
  refine c_RDV (i0 := 0) (ci := 2) FX (r_X0_turned l D cI cB x bx px tx f g (ak + ((v_X0_fullness (f b2.toNatClampNeg)) + (v_X0_fullness (v_X0_mapped (f b2.toNatClampNeg) k1 y1)))) su gt lf rf kn (v_X0_mapped (f b2.toNatClampNeg) k1 y1) k2 y1) mi_X0_turned rfl ml_RX0_46 (RMok.mk) hl.1 rfl (Nat.le_of_ble_eq_true rfl) dX0_both_75 (by decide) hK hP [0, 1, 2] rfl rfl rfl rfl ?_
  refine p_iast (wsN := (wX cI x bx px tx (upd f b1.toNatClampNeg (v_X0_turned (v_X0_mapped (f b2.toNatClampNeg) k1 y1) k2 y1 f)) g (ak + ((v_X0_fullness (f b2.toNatClampNeg)) + (v_X0_fullness (v_X0_mapped (f b2.toNatClampNeg) k1 y1)))) su gt lf rf kn)) FX hK hP hD hS 1 rfl (in_X0_needBox q_1) dX0_both_78 rfl (fun H locs hP hD hS => ?_)
  refine lv_aload_n FX.1 FX.2.1 dX0_both_79 rfl (lv_at hl 1 rfl) ?_
  refine va_get (D := D) (ci := 2) (v := .ref bx) (C := RX0) (T := TX0) (N := 9) FX.1 FX.2.1 FX.2.2.2.2 inX0 FX.2.2.2.1 hK hP 0 rfl rfl 0 (by decide) (FX.2.2.2.2 _ fl_RX0_9) (fun _ h9 => h9) rfl dX0_both_80 ?_
  refine lv_iload_n FX.1 FX.2.1 dX0_both_83 rfl (lv_at hl 2 rfl) ?_
  refine p_iald (v := (upd f b1.toNatClampNeg (v_X0_turned (v_X0_mapped (f b2.toNatClampNeg) k1 y1) k2 y1 f)) b1.toNatClampNeg) FX hK hP 1 rfl (in_X0_needBox q_1) dX0_both_84 rfl ?_
  refine c_RDs FX (r_X0_fullness l D cI cB ((upd f b1.toNatClampNeg (v_X0_turned (v_X0_mapped (f b2.toNatClampNeg) k1 y1) k2 y1 f)) b1.toNatClampNeg)) mi_X0_fullness rfl ml_RX0_30 (RMok.mk) hl.1 rfl (Nat.le_of_ble_eq_true rfl) dX0_both_85 (by decide) hK hP [] rfl ?_
  exact retWR FX hr hlk dX0_both_88 rfl hP hK hD hS (by decide) (by decide) (by rw [v_X0_both]) (by rw [wf_X0_both, wak_X0_both])
set_option maxRecDepth 100000 in
set_option maxHeartbeats 4000000 in
theorem x_X0_both (l : Launch) (hl0 : l.stackTraces = false) (D : va_G) (cI cB : ClassId) (x bx px tx : Nat) (f g : Nat → Int32) (ak su gt lf rf kn : Int32) (b1 : Int32) (b2 : Int32) (k1 : Int32) (k2 : Int32) (y1 : Int32) (h : ¬ e_X0_both b1 b2 k1 k2 y1 = 0) : XT l yX0_both cX0_both 7 (some .int) ({ frames := 7, cells := 1, slots := 6, locals := 111 } : Room) D cI cB [.ref x, .int b1, .int b2, .int k1, .int k2, .int y1] (wX cI x bx px tx f g ak su gt lf rf kn) (e_X0_both b1 b2 k1 k2 y1) := by
  refine bodyXT (by decide) (Nat.le_of_ble_eq_true rfl) (fun p e s m args below meth c ls Z => ?_)
  obtain ⟨FX, hr, hlk, hK, hP, hz, htab, hl⟩ := Z
  have hl : lv_has ls 7 [(0, .ref x), (1, .int b1), (2, .int b2), (3, .int k1), (4, .int k2), (5, .int y1)] := hl
  refine lv_iload_n FX.1 FX.2.1 dX0_both_0 rfl (lv_at hl 1 rfl) ?_
  by_cases q_1 : (e_X0_needBox b1) = 0
  · refine c_RDvs FX (r_X0_needBox l D cI cB b1 q_1) mi_X0_needBox rfl ml_RX0_23 (RMok.mk) hl.1 rfl (Nat.le_of_ble_eq_true rfl) dX0_both_1 (by decide) hK hP [] rfl ?_
    refine lv_iload_n FX.1 FX.2.1 dX0_both_4 rfl (lv_at hl 2 rfl) ?_
    by_cases q_2 : (e_X0_needBox b2) = 0
    · refine c_RDvs FX (r_X0_needBox l D cI cB b2 q_2) mi_X0_needBox rfl ml_RX0_23 (RMok.mk) hl.1 rfl (Nat.le_of_ble_eq_true rfl) dX0_both_5 (by decide) hK hP [] rfl ?_
      refine lv_iload_n FX.1 FX.2.1 dX0_both_8 rfl (lv_at hl 3 rfl) ?_
      refine lv_bipush (v := 6) FX.1 FX.2.1 dX0_both_9 (by decide) ?_
      by_cases q_3 : (e_X0_needKind k1 6) = 0
      · refine c_RDvs FX (r_X0_needKind l D cI cB k1 6 q_3) mi_X0_needKind rfl ml_RX0_34 (RMok.mk) hl.1 rfl (Nat.le_of_ble_eq_true rfl) dX0_both_11 (by decide) hK hP [] rfl ?_
        refine lv_iload FX.1 FX.2.1 dX0_both_14 (lv_at hl 4 rfl) ?_
        refine lv_iconst (v := 5) FX.1 FX.2.1 dX0_both_16 (by decide) ?_
        by_cases q_4 : (e_X0_needKind k2 5) = 0
        · refine c_RDvs FX (r_X0_needKind l D cI cB k2 5 q_4) mi_X0_needKind rfl ml_RX0_34 (RMok.mk) hl.1 rfl (Nat.le_of_ble_eq_true rfl) dX0_both_17 (by decide) hK hP [] rfl ?_
          refine lv_iload FX.1 FX.2.1 dX0_both_20 (lv_at hl 5 rfl) ?_
          by_cases q_5 : (e_X0_needNumber y1) = 0
          · refine c_RDvs FX (r_X0_needNumber l D cI cB y1 q_5) mi_X0_needNumber rfl ml_RX0_27 (RMok.mk) hl.1 rfl (Nat.le_of_ble_eq_true rfl) dX0_both_22 (by decide) hK hP [] rfl ?_
            exact absurd (by rw [e_X0_both, if_pos q_1, if_pos q_2, if_pos q_3, if_pos q_4, if_pos q_5]) h
          · exact thr_s FX htab hlk (x_X0_needNumber l hl0 D cI cB y1 q_5) mi_X0_needNumber rfl ml_RX0_27 (RMok.mk) hl.1 rfl (Nat.le_of_ble_eq_true rfl) dX0_both_22 (by decide) hK hP [] rfl hz (by rw [e_X0_both, if_pos q_1, if_pos q_2, if_pos q_3, if_pos q_4, if_neg q_5])
        · exact thr_s FX htab hlk (x_X0_needKind l hl0 D cI cB k2 5 q_4) mi_X0_needKind rfl ml_RX0_34 (RMok.mk) hl.1 rfl (Nat.le_of_ble_eq_true rfl) dX0_both_17 (by decide) hK hP [] rfl hz (by rw [e_X0_both, if_pos q_1, if_pos q_2, if_pos q_3, if_neg q_4])
      · exact thr_s FX htab hlk (x_X0_needKind l hl0 D cI cB k1 6 q_3) mi_X0_needKind rfl ml_RX0_34 (RMok.mk) hl.1 rfl (Nat.le_of_ble_eq_true rfl) dX0_both_11 (by decide) hK hP [] rfl hz (by rw [e_X0_both, if_pos q_1, if_pos q_2, if_neg q_3])
    · exact thr_s FX htab hlk (x_X0_needBox l hl0 D cI cB b2 q_2) mi_X0_needBox rfl ml_RX0_23 (RMok.mk) hl.1 rfl (Nat.le_of_ble_eq_true rfl) dX0_both_5 (by decide) hK hP [] rfl hz (by rw [e_X0_both, if_pos q_1, if_neg q_2])
  · exact thr_s FX htab hlk (x_X0_needBox l hl0 D cI cB b1 q_1) mi_X0_needBox rfl ml_RX0_23 (RMok.mk) hl.1 rfl (Nat.le_of_ble_eq_true rfl) dX0_both_1 (by decide) hK hP [] rfl hz (by rw [e_X0_both, if_neg q_1])
def e_X0_take (b1 : Int32) : Nat := if (e_X0_needBox b1) = 0 then 0 else e_X0_needBox b1
def v_X0_take (b1 : Int32) (f : Nat → Int32) (su : Int32) : Int32 := wsu_X0_giveToTaker (f b1.toNatClampNeg) su
def wak_X0_take (b1 : Int32) (f : Nat → Int32) (ak : Int32) : Int32 := wak_X0_giveToTaker (f b1.toNatClampNeg) ak
def wsu_X0_take (b1 : Int32) (f : Nat → Int32) (su : Int32) : Int32 := wsu_X0_giveToTaker (f b1.toNatClampNeg) su
def wgt_X0_take (b1 : Int32) (f : Nat → Int32) (gt : Int32) : Int32 := wgt_X0_giveToTaker (f b1.toNatClampNeg) gt
set_option maxRecDepth 100000 in
set_option maxHeartbeats 4000000 in
theorem k_X0_take (l : Launch) (D : va_G) (cI cB : ClassId) (x bx px tx : Nat) (f g : Nat → Int32) (ak su gt lf rf kn : Int32) (b1 : Int32) (h : e_X0_take b1 = 0) : WR l yX0_take cX0_take 2 (some .int) ({ frames := 1, cells := 0, slots := 0, locals := 21 } : Room) D cI cB [.ref x, .int b1] (wX cI x bx px tx f g ak su gt lf rf kn) (v_X0_take b1 f su) (wX cI x bx px tx f g (wak_X0_take b1 f ak) (wsu_X0_take b1 f su) (wgt_X0_take b1 f gt) lf rf kn) 0 0 := by
  refine bodyWR (by decide +kernel) (Nat.le_of_ble_eq_true rfl) (fun p e s m args below meth c ls A Z => ?_)
  obtain ⟨FX, hr, hlk, hK, hP, hD, hS, hA, hl⟩ := Z
  have hl : lv_has ls 2 [(0, .ref x), (1, .int b1)] := hl
  refine lv_iload_n FX.1 FX.2.1 dX0_take_0 rfl (lv_at hl 1 rfl) ?_
  have q_1 : (e_X0_needBox b1) = 0 := Decidable.byContradiction (fun z => absurd h (by rw [e_X0_take, if_neg z]; exact z))
  refine c_RDvs FX (r_X0_needBox l D cI cB b1 q_1) mi_X0_needBox rfl ml_RX0_23 (RMok.mk) hl.1 rfl (Nat.le_of_ble_eq_true rfl) dX0_take_1 (by decide) hK hP [] rfl ?_
  refine lv_aload_n FX.1 FX.2.1 dX0_take_4 rfl (lv_at hl 0 rfl) ?_
  refine lv_aload_n FX.1 FX.2.1 dX0_take_5 rfl (lv_at hl 0 rfl) ?_
  refine va_get (D := D) (ci := 2) (v := .ref bx) (C := RX0) (T := TX0) (N := 9) FX.1 FX.2.1 FX.2.2.2.2 inX0 FX.2.2.2.1 hK hP 0 rfl rfl 0 (by decide) (FX.2.2.2.2 _ fl_RX0_9) (fun _ h9 => h9) rfl dX0_take_6 ?_
  refine lv_iload_n FX.1 FX.2.1 dX0_take_9 rfl (lv_at hl 1 rfl) ?_
  refine p_iald (v := f b1.toNatClampNeg) FX hK hP 1 rfl (in_X0_needBox q_1) dX0_take_10 rfl ?_
  refine c_WRvV (wr := []) (wsN := (wX cI x bx px tx f g (wak_X0_giveToTaker (f b1.toNatClampNeg) ak) (wsu_X0_giveToTaker (f b1.toNatClampNeg) su) (wgt_X0_giveToTaker (f b1.toNatClampNeg) gt) lf rf kn)) (i0 := 0) (ci := 2) FX (k_X0_giveToTaker l D cI cB x bx px tx f g ak su gt lf rf kn (f b1.toNatClampNeg)) mi_X0_giveToTaker rfl ml_RX0_59 (RMok.mk) hl.1 rfl (Nat.le_of_ble_eq_true rfl) dX0_take_11 (by decide) hK hP hD hS hA [0, 1, 2] rfl [] rfl rfl (by decide) [0, 1, 2] rfl rfl rfl rfl rfl (fun H locs hP hD hS => ?_)
  refine lv_aload_n FX.1 FX.2.1 dX0_take_14 rfl (lv_at hl 0 rfl) ?_
  refine va_get (D := D) (ci := 2) (v := .int (wsu_X0_giveToTaker (f b1.toNatClampNeg) su)) (C := RX0) (T := TX0) (N := 9) FX.1 FX.2.1 FX.2.2.2.2 inX0 FX.2.2.2.1 hK hP 0 rfl rfl 4 (by decide) (FX.2.2.2.2 _ fl_RX0_62) (fun _ h9 => h9) rfl dX0_take_15 ?_
  exact retWR FX hr hlk dX0_take_18 rfl hP hK hD hS (by decide) (by decide) (by rw [v_X0_take]) (by rw [wak_X0_take, wsu_X0_take, wgt_X0_take])
set_option maxRecDepth 100000 in
set_option maxHeartbeats 4000000 in
theorem x_X0_take (l : Launch) (hl0 : l.stackTraces = false) (D : va_G) (cI cB : ClassId) (x bx px tx : Nat) (f g : Nat → Int32) (ak su gt lf rf kn : Int32) (b1 : Int32) (h : ¬ e_X0_take b1 = 0) : XT l yX0_take cX0_take 2 (some .int) ({ frames := 7, cells := 1, slots := 6, locals := 110 } : Room) D cI cB [.ref x, .int b1] (wX cI x bx px tx f g ak su gt lf rf kn) (e_X0_take b1) := by
  refine bodyXT (by decide) (Nat.le_of_ble_eq_true rfl) (fun p e s m args below meth c ls Z => ?_)
  obtain ⟨FX, hr, hlk, hK, hP, hz, htab, hl⟩ := Z
  have hl : lv_has ls 2 [(0, .ref x), (1, .int b1)] := hl
  refine lv_iload_n FX.1 FX.2.1 dX0_take_0 rfl (lv_at hl 1 rfl) ?_
  by_cases q_1 : (e_X0_needBox b1) = 0
  · refine c_RDvs FX (r_X0_needBox l D cI cB b1 q_1) mi_X0_needBox rfl ml_RX0_23 (RMok.mk) hl.1 rfl (Nat.le_of_ble_eq_true rfl) dX0_take_1 (by decide) hK hP [] rfl ?_
    exact absurd (by rw [e_X0_take, if_pos q_1]) h
  · exact thr_s FX htab hlk (x_X0_needBox l hl0 D cI cB b1 q_1) mi_X0_needBox rfl ml_RX0_23 (RMok.mk) hl.1 rfl (Nat.le_of_ble_eq_true rfl) dX0_take_1 (by decide) hK hP [] rfl hz (by rw [e_X0_take, if_neg q_1])
def e_X0_takeOrLeave (b1 : Int32) : Nat := if (e_X0_needBox b1) = 0 then 0 else e_X0_needBox b1
def v_X0_takeOrLeave (b1 : Int32) (f : Nat → Int32) (su : Int32) : Int32 := wsu_X0_giveToTaker (f b1.toNatClampNeg) su
def wak_X0_takeOrLeave (b1 : Int32) (f : Nat → Int32) (ak : Int32) : Int32 := if (f b1.toNatClampNeg) = (-10000) then (wak_X0_giveToTaker (f b1.toNatClampNeg) ak) + 1 else wak_X0_giveToTaker (f b1.toNatClampNeg) ak
def wsu_X0_takeOrLeave (b1 : Int32) (f : Nat → Int32) (su : Int32) : Int32 := wsu_X0_giveToTaker (f b1.toNatClampNeg) su
def wgt_X0_takeOrLeave (b1 : Int32) (f : Nat → Int32) (gt : Int32) : Int32 := wgt_X0_giveToTaker (f b1.toNatClampNeg) gt
def wlf_X0_takeOrLeave (b1 : Int32) (f : Nat → Int32) (lf : Int32) : Int32 := if (f b1.toNatClampNeg) = (-10000) then lf + 1 else lf
set_option maxRecDepth 100000 in
set_option maxHeartbeats 4000000 in
theorem k_X0_takeOrLeave (l : Launch) (D : va_G) (cI cB : ClassId) (x bx px tx : Nat) (f g : Nat → Int32) (ak su gt lf rf kn : Int32) (b1 : Int32) (h : e_X0_takeOrLeave b1 = 0) : WR l yX0_takeOrLeave cX0_takeOrLeave 2 (some .int) ({ frames := 1, cells := 0, slots := 0, locals := 21 } : Room) D cI cB [.ref x, .int b1] (wX cI x bx px tx f g ak su gt lf rf kn) (v_X0_takeOrLeave b1 f su) (wX cI x bx px tx f g (wak_X0_takeOrLeave b1 f ak) (wsu_X0_takeOrLeave b1 f su) (wgt_X0_takeOrLeave b1 f gt) (wlf_X0_takeOrLeave b1 f lf) rf kn) 0 0 := by
  refine bodyWR (by decide +kernel) (Nat.le_of_ble_eq_true rfl) (fun p e s m args below meth c ls A Z => ?_)
  obtain ⟨FX, hr, hlk, hK, hP, hD, hS, hA, hl⟩ := Z
  have hl : lv_has ls 2 [(0, .ref x), (1, .int b1)] := hl
  refine lv_iload_n FX.1 FX.2.1 dX0_takeOrLeave_0 rfl (lv_at hl 1 rfl) ?_
  have q_1 : (e_X0_needBox b1) = 0 := Decidable.byContradiction (fun z => absurd h (by rw [e_X0_takeOrLeave, if_neg z]; exact z))
  refine c_RDvs FX (r_X0_needBox l D cI cB b1 q_1) mi_X0_needBox rfl ml_RX0_23 (RMok.mk) hl.1 rfl (Nat.le_of_ble_eq_true rfl) dX0_takeOrLeave_1 (by decide) hK hP [] rfl ?_
  refine lv_aload_n FX.1 FX.2.1 dX0_takeOrLeave_4 rfl (lv_at hl 0 rfl) ?_
  refine lv_aload_n FX.1 FX.2.1 dX0_takeOrLeave_5 rfl (lv_at hl 0 rfl) ?_
  refine va_get (D := D) (ci := 2) (v := .ref bx) (C := RX0) (T := TX0) (N := 9) FX.1 FX.2.1 FX.2.2.2.2 inX0 FX.2.2.2.1 hK hP 0 rfl rfl 0 (by decide) (FX.2.2.2.2 _ fl_RX0_9) (fun _ h9 => h9) rfl dX0_takeOrLeave_6 ?_
  refine lv_iload_n FX.1 FX.2.1 dX0_takeOrLeave_9 rfl (lv_at hl 1 rfl) ?_
  refine p_iald (v := f b1.toNatClampNeg) FX hK hP 1 rfl (in_X0_needBox q_1) dX0_takeOrLeave_10 rfl ?_
  refine c_WRvV (wr := []) (wsN := (wX cI x bx px tx f g (wak_X0_giveToTaker (f b1.toNatClampNeg) ak) (wsu_X0_giveToTaker (f b1.toNatClampNeg) su) (wgt_X0_giveToTaker (f b1.toNatClampNeg) gt) lf rf kn)) (i0 := 0) (ci := 2) FX (k_X0_giveToTaker l D cI cB x bx px tx f g ak su gt lf rf kn (f b1.toNatClampNeg)) mi_X0_giveToTaker rfl ml_RX0_59 (RMok.mk) hl.1 rfl (Nat.le_of_ble_eq_true rfl) dX0_takeOrLeave_11 (by decide) hK hP hD hS hA [0, 1, 2] rfl [] rfl rfl (by decide) [0, 1, 2] rfl rfl rfl rfl rfl (fun H locs hP hD hS => ?_)
  refine lv_aload_n FX.1 FX.2.1 dX0_takeOrLeave_14 rfl (lv_at hl 0 rfl) ?_
  refine va_get (D := D) (ci := 2) (v := .ref bx) (C := RX0) (T := TX0) (N := 9) FX.1 FX.2.1 FX.2.2.2.2 inX0 FX.2.2.2.1 hK hP 0 rfl rfl 0 (by decide) (FX.2.2.2.2 _ fl_RX0_9) (fun _ h9 => h9) rfl dX0_takeOrLeave_15 ?_
  refine lv_iload_n FX.1 FX.2.1 dX0_takeOrLeave_18 rfl (lv_at hl 1 rfl) ?_
  refine p_iald (v := f b1.toNatClampNeg) FX hK hP 1 rfl (in_X0_needBox q_1) dX0_takeOrLeave_19 rfl ?_
  refine lv_sipush (v := (-10000)) FX.1 FX.2.1 dX0_takeOrLeave_20 (by decide) ?_
  refine lv_icmp_ne (tgt := 46) FX.1 FX.2.1 dX0_takeOrLeave_23 (by decide) (fun c_2 => ?_) (fun c_2 => ?_)
  · refine lv_aload_n FX.1 FX.2.1 dX0_takeOrLeave_46 rfl (lv_at hl 0 rfl) ?_
    refine va_get (D := D) (ci := 2) (v := .int (wsu_X0_giveToTaker (f b1.toNatClampNeg) su)) (C := RX0) (T := TX0) (N := 9) FX.1 FX.2.1 FX.2.2.2.2 inX0 FX.2.2.2.1 hK hP 0 rfl rfl 4 (by decide) (FX.2.2.2.2 _ fl_RX0_62) (fun _ h9 => h9) rfl dX0_takeOrLeave_47 ?_
    exact retWR FX hr hlk dX0_takeOrLeave_50 rfl hP hK hD hS (by decide) (by decide) (by rw [v_X0_takeOrLeave]) (by rw [wak_X0_takeOrLeave, if_neg c_2, wsu_X0_takeOrLeave, wgt_X0_takeOrLeave, wlf_X0_takeOrLeave, if_neg c_2])
  · refine lv_aload_n FX.1 FX.2.1 dX0_takeOrLeave_26 rfl (lv_at hl 0 rfl) ?_
    refine lv_dup FX.1 FX.2.1 dX0_takeOrLeave_27 rfl ?_
    refine va_get (D := D) (ci := 2) (v := .int (wak_X0_giveToTaker (f b1.toNatClampNeg) ak)) (C := RX0) (T := TX0) (N := 9) FX.1 FX.2.1 FX.2.2.2.2 inX0 FX.2.2.2.1 hK hP 0 rfl rfl 3 (by decide) (FX.2.2.2.2 _ fl_RX0_38) (fun _ h9 => h9) rfl dX0_takeOrLeave_28 ?_
    refine lv_iconst (v := 1) FX.1 FX.2.1 dX0_takeOrLeave_31 (by decide) ?_
    refine lv_iadd FX.1 FX.2.1 dX0_takeOrLeave_32 ?_
    refine p_put (wsN := (wX cI x bx px tx f g ((wak_X0_giveToTaker (f b1.toNatClampNeg) ak) + 1) (wsu_X0_giveToTaker (f b1.toNatClampNeg) su) (wgt_X0_giveToTaker (f b1.toNatClampNeg) gt) lf rf kn)) (ci := 2) (v := .int ((wak_X0_giveToTaker (f b1.toNatClampNeg) ak) + 1)) (ty := .int) FX inX0 tyX0_ok nmX0 hK hP hD hS 0 rfl rfl 3 (by decide) (FX.2.2.2.2 _ fl_RX0_38) rfl (by decide +kernel) rfl rfl (Nat.le_of_ble_eq_true rfl) dX0_takeOrLeave_33 rfl (fun H locs hP hD hS => ?_)
    refine lv_aload_n FX.1 FX.2.1 dX0_takeOrLeave_36 rfl (lv_at hl 0 rfl) ?_
    refine lv_dup FX.1 FX.2.1 dX0_takeOrLeave_37 rfl ?_
    refine va_get (D := D) (ci := 2) (v := .int lf) (C := RX0) (T := TX0) (N := 9) FX.1 FX.2.1 FX.2.2.2.2 inX0 FX.2.2.2.1 hK hP 0 rfl rfl 6 (by decide) (FX.2.2.2.2 _ fl_RX0_65) (fun _ h9 => h9) rfl dX0_takeOrLeave_38 ?_
    refine lv_iconst (v := 1) FX.1 FX.2.1 dX0_takeOrLeave_41 (by decide) ?_
    refine lv_iadd FX.1 FX.2.1 dX0_takeOrLeave_42 ?_
    refine p_put (wsN := (wX cI x bx px tx f g ((wak_X0_giveToTaker (f b1.toNatClampNeg) ak) + 1) (wsu_X0_giveToTaker (f b1.toNatClampNeg) su) (wgt_X0_giveToTaker (f b1.toNatClampNeg) gt) (lf + 1) rf kn)) (ci := 2) (v := .int (lf + 1)) (ty := .int) FX inX0 tyX0_ok nmX0 hK hP hD hS 0 rfl rfl 6 (by decide) (FX.2.2.2.2 _ fl_RX0_65) rfl (by decide +kernel) rfl rfl (Nat.le_of_ble_eq_true rfl) dX0_takeOrLeave_43 rfl (fun H locs hP hD hS => ?_)
    refine lv_aload_n FX.1 FX.2.1 dX0_takeOrLeave_46 rfl (lv_at hl 0 rfl) ?_
    refine va_get (D := D) (ci := 2) (v := .int (wsu_X0_giveToTaker (f b1.toNatClampNeg) su)) (C := RX0) (T := TX0) (N := 9) FX.1 FX.2.1 FX.2.2.2.2 inX0 FX.2.2.2.1 hK hP 0 rfl rfl 4 (by decide) (FX.2.2.2.2 _ fl_RX0_62) (fun _ h9 => h9) rfl dX0_takeOrLeave_47 ?_
    exact retWR FX hr hlk dX0_takeOrLeave_50 rfl hP hK hD hS (by decide) (by decide) (by rw [v_X0_takeOrLeave]) (by rw [wak_X0_takeOrLeave, if_pos c_2, wsu_X0_takeOrLeave, wgt_X0_takeOrLeave, wlf_X0_takeOrLeave, if_pos c_2])
set_option maxRecDepth 100000 in
set_option maxHeartbeats 4000000 in
theorem x_X0_takeOrLeave (l : Launch) (hl0 : l.stackTraces = false) (D : va_G) (cI cB : ClassId) (x bx px tx : Nat) (f g : Nat → Int32) (ak su gt lf rf kn : Int32) (b1 : Int32) (h : ¬ e_X0_takeOrLeave b1 = 0) : XT l yX0_takeOrLeave cX0_takeOrLeave 2 (some .int) ({ frames := 7, cells := 1, slots := 6, locals := 110 } : Room) D cI cB [.ref x, .int b1] (wX cI x bx px tx f g ak su gt lf rf kn) (e_X0_takeOrLeave b1) := by
  refine bodyXT (by decide) (Nat.le_of_ble_eq_true rfl) (fun p e s m args below meth c ls Z => ?_)
  obtain ⟨FX, hr, hlk, hK, hP, hz, htab, hl⟩ := Z
  have hl : lv_has ls 2 [(0, .ref x), (1, .int b1)] := hl
  refine lv_iload_n FX.1 FX.2.1 dX0_takeOrLeave_0 rfl (lv_at hl 1 rfl) ?_
  by_cases q_1 : (e_X0_needBox b1) = 0
  · refine c_RDvs FX (r_X0_needBox l D cI cB b1 q_1) mi_X0_needBox rfl ml_RX0_23 (RMok.mk) hl.1 rfl (Nat.le_of_ble_eq_true rfl) dX0_takeOrLeave_1 (by decide) hK hP [] rfl ?_
    exact absurd (by rw [e_X0_takeOrLeave, if_pos q_1]) h
  · exact thr_s FX htab hlk (x_X0_needBox l hl0 D cI cB b1 q_1) mi_X0_needBox rfl ml_RX0_23 (RMok.mk) hl.1 rfl (Nat.le_of_ble_eq_true rfl) dX0_takeOrLeave_1 (by decide) hK hP [] rfl hz (by rw [e_X0_takeOrLeave, if_neg q_1])
def e_X0_get (b1 : Int32) : Nat := if (e_X0_needBox b1) = 0 then 0 else e_X0_needBox b1
def v_X0_get (b1 : Int32) (f : Nat → Int32) : Int32 := v_X0_numberOrRefused (f b1.toNatClampNeg)
def wrf_X0_get (b1 : Int32) (f : Nat → Int32) (rf : Int32) : Int32 := wrf_X0_numberOrRefused (f b1.toNatClampNeg) rf
set_option maxRecDepth 100000 in
set_option maxHeartbeats 4000000 in
theorem k_X0_get (l : Launch) (D : va_G) (cI cB : ClassId) (x bx px tx : Nat) (f g : Nat → Int32) (ak su gt lf rf kn : Int32) (b1 : Int32) (h : e_X0_get b1 = 0) : WR l yX0_get cX0_get 2 (some .int) ({ frames := 1, cells := 0, slots := 0, locals := 21 } : Room) D cI cB [.ref x, .int b1] (wX cI x bx px tx f g ak su gt lf rf kn) (v_X0_get b1 f) (wX cI x bx px tx f g ak su gt lf (wrf_X0_get b1 f rf) kn) 0 0 := by
  refine bodyWR (by decide +kernel) (Nat.le_of_ble_eq_true rfl) (fun p e s m args below meth c ls A Z => ?_)
  obtain ⟨FX, hr, hlk, hK, hP, hD, hS, hA, hl⟩ := Z
  have hl : lv_has ls 2 [(0, .ref x), (1, .int b1)] := hl
  refine lv_iload_n FX.1 FX.2.1 dX0_get_0 rfl (lv_at hl 1 rfl) ?_
  have q_1 : (e_X0_needBox b1) = 0 := Decidable.byContradiction (fun z => absurd h (by rw [e_X0_get, if_neg z]; exact z))
  refine c_RDvs FX (r_X0_needBox l D cI cB b1 q_1) mi_X0_needBox rfl ml_RX0_23 (RMok.mk) hl.1 rfl (Nat.le_of_ble_eq_true rfl) dX0_get_1 (by decide) hK hP [] rfl ?_
  refine lv_aload_n FX.1 FX.2.1 dX0_get_4 rfl (lv_at hl 0 rfl) ?_
  refine lv_aload_n FX.1 FX.2.1 dX0_get_5 rfl (lv_at hl 0 rfl) ?_
  refine va_get (D := D) (ci := 2) (v := .ref bx) (C := RX0) (T := TX0) (N := 9) FX.1 FX.2.1 FX.2.2.2.2 inX0 FX.2.2.2.1 hK hP 0 rfl rfl 0 (by decide) (FX.2.2.2.2 _ fl_RX0_9) (fun _ h9 => h9) rfl dX0_get_6 ?_
  refine lv_iload_n FX.1 FX.2.1 dX0_get_9 rfl (lv_at hl 1 rfl) ?_
  refine p_iald (v := f b1.toNatClampNeg) FX hK hP 1 rfl (in_X0_needBox q_1) dX0_get_10 rfl ?_
  refine c_WRV (wr := []) (wsN := (wX cI x bx px tx f g ak su gt lf (wrf_X0_numberOrRefused (f b1.toNatClampNeg) rf) kn)) (i0 := 0) (ci := 2) FX (k_X0_numberOrRefused l D cI cB x bx px tx f g ak su gt lf rf kn (f b1.toNatClampNeg)) mi_X0_numberOrRefused rfl ml_RX0_68 (RMok.mk) hl.1 rfl (Nat.le_of_ble_eq_true rfl) dX0_get_11 (by decide) hK hP hD hS hA [0, 1, 2] rfl [] rfl rfl (by decide) [0, 1, 2] rfl rfl rfl rfl rfl (fun H locs hP hD hS => ?_)
  exact retWR FX hr hlk dX0_get_14 rfl hP hK hD hS (by decide) (by decide) (by rw [v_X0_get]) (by rw [wrf_X0_get])
set_option maxRecDepth 100000 in
set_option maxHeartbeats 4000000 in
theorem x_X0_get (l : Launch) (hl0 : l.stackTraces = false) (D : va_G) (cI cB : ClassId) (x bx px tx : Nat) (f g : Nat → Int32) (ak su gt lf rf kn : Int32) (b1 : Int32) (h : ¬ e_X0_get b1 = 0) : XT l yX0_get cX0_get 2 (some .int) ({ frames := 7, cells := 1, slots := 6, locals := 110 } : Room) D cI cB [.ref x, .int b1] (wX cI x bx px tx f g ak su gt lf rf kn) (e_X0_get b1) := by
  refine bodyXT (by decide) (Nat.le_of_ble_eq_true rfl) (fun p e s m args below meth c ls Z => ?_)
  obtain ⟨FX, hr, hlk, hK, hP, hz, htab, hl⟩ := Z
  have hl : lv_has ls 2 [(0, .ref x), (1, .int b1)] := hl
  refine lv_iload_n FX.1 FX.2.1 dX0_get_0 rfl (lv_at hl 1 rfl) ?_
  by_cases q_1 : (e_X0_needBox b1) = 0
  · refine c_RDvs FX (r_X0_needBox l D cI cB b1 q_1) mi_X0_needBox rfl ml_RX0_23 (RMok.mk) hl.1 rfl (Nat.le_of_ble_eq_true rfl) dX0_get_1 (by decide) hK hP [] rfl ?_
    exact absurd (by rw [e_X0_get, if_pos q_1]) h
  · exact thr_s FX htab hlk (x_X0_needBox l hl0 D cI cB b1 q_1) mi_X0_needBox rfl ml_RX0_23 (RMok.mk) hl.1 rfl (Nat.le_of_ble_eq_true rfl) dX0_get_1 (by decide) hK hP [] rfl hz (by rw [e_X0_get, if_neg q_1])
def e_X0_orElse (b1 : Int32) (n1 : Int32) : Nat := if (e_X0_needBox b1) = 0 then (if (e_X0_needNumber n1) = 0 then 0 else e_X0_needNumber n1) else e_X0_needBox b1
def v_X0_orElse (b1 : Int32) (n1 : Int32) (f : Nat → Int32) : Int32 := v_X0_firstFull (f b1.toNatClampNeg) n1
set_option maxRecDepth 100000 in
set_option maxHeartbeats 4000000 in
theorem r_X0_orElse (l : Launch) (D : va_G) (cI cB : ClassId) (x bx px tx : Nat) (f g : Nat → Int32) (ak su gt lf rf kn : Int32) (b1 : Int32) (n1 : Int32) (h : e_X0_orElse b1 n1 = 0) : RD l yX0_orElse cX0_orElse 3 (some .int) ({ frames := 2, cells := 0, slots := 0, locals := 40 } : Room) D cI cB [.ref x, .int b1, .int n1] (wX cI x bx px tx f g ak su gt lf rf kn) (v_X0_orElse b1 n1 f) := by
  refine bodyRD (by decide +kernel) (Nat.le_of_ble_eq_true rfl) (fun p e s m args below meth c ls FX hr hlk hK hP hl => ?_)
  have hl : lv_has ls 3 [(0, .ref x), (1, .int b1), (2, .int n1)] := hl
  refine lv_iload_n FX.1 FX.2.1 dX0_orElse_0 rfl (lv_at hl 1 rfl) ?_
  have q_1 : (e_X0_needBox b1) = 0 := Decidable.byContradiction (fun z => absurd h (by rw [e_X0_orElse, if_neg z]; exact z))
  refine c_RDvs FX (r_X0_needBox l D cI cB b1 q_1) mi_X0_needBox rfl ml_RX0_23 (RMok.mk) hl.1 rfl (Nat.le_of_ble_eq_true rfl) dX0_orElse_1 (by decide) hK hP [] rfl ?_
  refine lv_iload_n FX.1 FX.2.1 dX0_orElse_4 rfl (lv_at hl 2 rfl) ?_
  have q_2 : (e_X0_needNumber n1) = 0 := Decidable.byContradiction (fun z => absurd h (by rw [e_X0_orElse, if_pos q_1, if_neg z]; exact z))
  refine c_RDvs FX (r_X0_needNumber l D cI cB n1 q_2) mi_X0_needNumber rfl ml_RX0_27 (RMok.mk) hl.1 rfl (Nat.le_of_ble_eq_true rfl) dX0_orElse_5 (by decide) hK hP [] rfl ?_
  refine lv_aload_n FX.1 FX.2.1 dX0_orElse_8 rfl (lv_at hl 0 rfl) ?_
  refine va_get (D := D) (ci := 2) (v := .ref bx) (C := RX0) (T := TX0) (N := 9) FX.1 FX.2.1 FX.2.2.2.2 inX0 FX.2.2.2.1 hK hP 0 rfl rfl 0 (by decide) (FX.2.2.2.2 _ fl_RX0_9) (fun _ h9 => h9) rfl dX0_orElse_9 ?_
  refine lv_iload_n FX.1 FX.2.1 dX0_orElse_12 rfl (lv_at hl 1 rfl) ?_
  refine p_iald (v := f b1.toNatClampNeg) FX hK hP 1 rfl (in_X0_needBox q_1) dX0_orElse_13 rfl ?_
  refine lv_iload_n FX.1 FX.2.1 dX0_orElse_14 rfl (lv_at hl 2 rfl) ?_
  refine c_RDs FX (r_X0_firstFull l D cI cB (f b1.toNatClampNeg) n1) mi_X0_firstFull rfl ml_RX0_52 (RMok.mk) hl.1 rfl (Nat.le_of_ble_eq_true rfl) dX0_orElse_15 (by decide) hK hP [] rfl ?_
  exact retRD FX hr hlk dX0_orElse_18 rfl (by rw [v_X0_orElse])
set_option maxRecDepth 100000 in
set_option maxHeartbeats 4000000 in
theorem x_X0_orElse (l : Launch) (hl0 : l.stackTraces = false) (D : va_G) (cI cB : ClassId) (x bx px tx : Nat) (f g : Nat → Int32) (ak su gt lf rf kn : Int32) (b1 : Int32) (n1 : Int32) (h : ¬ e_X0_orElse b1 n1 = 0) : XT l yX0_orElse cX0_orElse 3 (some .int) ({ frames := 7, cells := 1, slots := 6, locals := 110 } : Room) D cI cB [.ref x, .int b1, .int n1] (wX cI x bx px tx f g ak su gt lf rf kn) (e_X0_orElse b1 n1) := by
  refine bodyXT (by decide) (Nat.le_of_ble_eq_true rfl) (fun p e s m args below meth c ls Z => ?_)
  obtain ⟨FX, hr, hlk, hK, hP, hz, htab, hl⟩ := Z
  have hl : lv_has ls 3 [(0, .ref x), (1, .int b1), (2, .int n1)] := hl
  refine lv_iload_n FX.1 FX.2.1 dX0_orElse_0 rfl (lv_at hl 1 rfl) ?_
  by_cases q_1 : (e_X0_needBox b1) = 0
  · refine c_RDvs FX (r_X0_needBox l D cI cB b1 q_1) mi_X0_needBox rfl ml_RX0_23 (RMok.mk) hl.1 rfl (Nat.le_of_ble_eq_true rfl) dX0_orElse_1 (by decide) hK hP [] rfl ?_
    refine lv_iload_n FX.1 FX.2.1 dX0_orElse_4 rfl (lv_at hl 2 rfl) ?_
    by_cases q_2 : (e_X0_needNumber n1) = 0
    · refine c_RDvs FX (r_X0_needNumber l D cI cB n1 q_2) mi_X0_needNumber rfl ml_RX0_27 (RMok.mk) hl.1 rfl (Nat.le_of_ble_eq_true rfl) dX0_orElse_5 (by decide) hK hP [] rfl ?_
      exact absurd (by rw [e_X0_orElse, if_pos q_1, if_pos q_2]) h
    · exact thr_s FX htab hlk (x_X0_needNumber l hl0 D cI cB n1 q_2) mi_X0_needNumber rfl ml_RX0_27 (RMok.mk) hl.1 rfl (Nat.le_of_ble_eq_true rfl) dX0_orElse_5 (by decide) hK hP [] rfl hz (by rw [e_X0_orElse, if_pos q_1, if_neg q_2])
  · exact thr_s FX htab hlk (x_X0_needBox l hl0 D cI cB b1 q_1) mi_X0_needBox rfl ml_RX0_23 (RMok.mk) hl.1 rfl (Nat.le_of_ble_eq_true rfl) dX0_orElse_1 (by decide) hK hP [] rfl hz (by rw [e_X0_orElse, if_neg q_1])
def e_X0_orElseGet (b1 : Int32) (n1 : Int32) : Nat := if (e_X0_needBox b1) = 0 then (if (e_X0_needNumber n1) = 0 then 0 else e_X0_needNumber n1) else e_X0_needBox b1
def v_X0_orElseGet (b1 : Int32) (n1 : Int32) (f : Nat → Int32) (ak : Int32) : Int32 := if (f b1.toNatClampNeg) = (-10000) then ak + n1 else f b1.toNatClampNeg
def wak_X0_orElseGet (b1 : Int32) (f : Nat → Int32) (ak : Int32) : Int32 := if (f b1.toNatClampNeg) = (-10000) then ak + 1 else ak
set_option maxRecDepth 100000 in
set_option maxHeartbeats 4000000 in
theorem k_X0_orElseGet (l : Launch) (D : va_G) (cI cB : ClassId) (x bx px tx : Nat) (f g : Nat → Int32) (ak su gt lf rf kn : Int32) (b1 : Int32) (n1 : Int32) (h : e_X0_orElseGet b1 n1 = 0) : WR l yX0_orElseGet cX0_orElseGet 4 (some .int) ({ frames := 2, cells := 0, slots := 0, locals := 40 } : Room) D cI cB [.ref x, .int b1, .int n1] (wX cI x bx px tx f g ak su gt lf rf kn) (v_X0_orElseGet b1 n1 f ak) (wX cI x bx px tx f g (wak_X0_orElseGet b1 f ak) su gt lf rf kn) 0 0 := by
  refine bodyWR (by decide +kernel) (Nat.le_of_ble_eq_true rfl) (fun p e s m args below meth c ls A Z => ?_)
  obtain ⟨FX, hr, hlk, hK, hP, hD, hS, hA, hl⟩ := Z
  have hl : lv_has ls 4 [(0, .ref x), (1, .int b1), (2, .int n1)] := hl
  refine lv_iload_n FX.1 FX.2.1 dX0_orElseGet_0 rfl (lv_at hl 1 rfl) ?_
  have q_1 : (e_X0_needBox b1) = 0 := Decidable.byContradiction (fun z => absurd h (by rw [e_X0_orElseGet, if_neg z]; exact z))
  refine c_RDvs FX (r_X0_needBox l D cI cB b1 q_1) mi_X0_needBox rfl ml_RX0_23 (RMok.mk) hl.1 rfl (Nat.le_of_ble_eq_true rfl) dX0_orElseGet_1 (by decide) hK hP [] rfl ?_
  refine lv_iload_n FX.1 FX.2.1 dX0_orElseGet_4 rfl (lv_at hl 2 rfl) ?_
  have q_2 : (e_X0_needNumber n1) = 0 := Decidable.byContradiction (fun z => absurd h (by rw [e_X0_orElseGet, if_pos q_1, if_neg z]; exact z))
  refine c_RDvs FX (r_X0_needNumber l D cI cB n1 q_2) mi_X0_needNumber rfl ml_RX0_27 (RMok.mk) hl.1 rfl (Nat.le_of_ble_eq_true rfl) dX0_orElseGet_5 (by decide) hK hP [] rfl ?_
  refine lv_aload_n FX.1 FX.2.1 dX0_orElseGet_8 rfl (lv_at hl 0 rfl) ?_
  refine va_get (D := D) (ci := 2) (v := .ref bx) (C := RX0) (T := TX0) (N := 9) FX.1 FX.2.1 FX.2.2.2.2 inX0 FX.2.2.2.1 hK hP 0 rfl rfl 0 (by decide) (FX.2.2.2.2 _ fl_RX0_9) (fun _ h9 => h9) rfl dX0_orElseGet_9 ?_
  refine lv_iload_n FX.1 FX.2.1 dX0_orElseGet_12 rfl (lv_at hl 1 rfl) ?_
  refine p_iald (v := f b1.toNatClampNeg) FX hK hP 1 rfl (in_X0_needBox q_1) dX0_orElseGet_13 rfl ?_
  refine lv_sipush (v := (-10000)) FX.1 FX.2.1 dX0_orElseGet_14 (by decide) ?_
  refine lv_icmp_eq (tgt := 27) FX.1 FX.2.1 dX0_orElseGet_17 (by decide) (fun c_3 => ?_) (fun c_3 => ?_)
  · refine lv_aload_n FX.1 FX.2.1 dX0_orElseGet_27 rfl (lv_at hl 0 rfl) ?_
    refine va_get (D := D) (ci := 2) (v := .int ak) (C := RX0) (T := TX0) (N := 9) FX.1 FX.2.1 FX.2.2.2.2 inX0 FX.2.2.2.1 hK hP 0 rfl rfl 3 (by decide) (FX.2.2.2.2 _ fl_RX0_38) (fun _ h9 => h9) rfl dX0_orElseGet_28 ?_
    refine lv_iload_n FX.1 FX.2.1 dX0_orElseGet_31 rfl (lv_at hl 2 rfl) ?_
    refine lv_iadd FX.1 FX.2.1 dX0_orElseGet_32 ?_
    refine lv_istore_n (lv' := [(3, .int (ak + n1)), (0, .ref x), (1, .int b1), (2, .int n1)]) FX.1 FX.2.1 dX0_orElseGet_33 rfl hl (by decide) rfl (fun ls hl => ?_)
    refine lv_aload_n FX.1 FX.2.1 dX0_orElseGet_34 rfl (lv_at hl 1 rfl) ?_
    refine lv_dup FX.1 FX.2.1 dX0_orElseGet_35 rfl ?_
    refine va_get (D := D) (ci := 2) (v := .int ak) (C := RX0) (T := TX0) (N := 9) FX.1 FX.2.1 FX.2.2.2.2 inX0 FX.2.2.2.1 hK hP 0 rfl rfl 3 (by decide) (FX.2.2.2.2 _ fl_RX0_38) (fun _ h9 => h9) rfl dX0_orElseGet_36 ?_
    refine lv_iconst (v := 1) FX.1 FX.2.1 dX0_orElseGet_39 (by decide) ?_
    refine lv_iadd FX.1 FX.2.1 dX0_orElseGet_40 ?_
    refine p_put (wsN := (wX cI x bx px tx f g (ak + 1) su gt lf rf kn)) (ci := 2) (v := .int (ak + 1)) (ty := .int) FX inX0 tyX0_ok nmX0 hK hP hD hS 0 rfl rfl 3 (by decide) (FX.2.2.2.2 _ fl_RX0_38) rfl (by decide +kernel) rfl rfl (Nat.le_of_ble_eq_true rfl) dX0_orElseGet_41 rfl (fun H locs hP hD hS => ?_)
    refine lv_iload_n FX.1 FX.2.1 dX0_orElseGet_44 rfl (lv_at hl 0 rfl) ?_
    exact retWR FX hr hlk dX0_orElseGet_45 rfl hP hK hD hS (by decide) (by decide) (by rw [v_X0_orElseGet, if_pos c_3]) (by rw [wak_X0_orElseGet, if_pos c_3])
  · refine lv_aload_n FX.1 FX.2.1 dX0_orElseGet_20 rfl (lv_at hl 0 rfl) ?_
    refine va_get (D := D) (ci := 2) (v := .ref bx) (C := RX0) (T := TX0) (N := 9) FX.1 FX.2.1 FX.2.2.2.2 inX0 FX.2.2.2.1 hK hP 0 rfl rfl 0 (by decide) (FX.2.2.2.2 _ fl_RX0_9) (fun _ h9 => h9) rfl dX0_orElseGet_21 ?_
    refine lv_iload_n FX.1 FX.2.1 dX0_orElseGet_24 rfl (lv_at hl 1 rfl) ?_
    refine p_iald (v := f b1.toNatClampNeg) FX hK hP 1 rfl (in_X0_needBox q_1) dX0_orElseGet_25 rfl ?_
    exact retWR FX hr hlk dX0_orElseGet_26 rfl hP hK hD hS (by decide) (by decide) (by rw [v_X0_orElseGet, if_neg c_3]) (by rw [wak_X0_orElseGet, if_neg c_3])
set_option maxRecDepth 100000 in
set_option maxHeartbeats 4000000 in
theorem x_X0_orElseGet (l : Launch) (hl0 : l.stackTraces = false) (D : va_G) (cI cB : ClassId) (x bx px tx : Nat) (f g : Nat → Int32) (ak su gt lf rf kn : Int32) (b1 : Int32) (n1 : Int32) (h : ¬ e_X0_orElseGet b1 n1 = 0) : XT l yX0_orElseGet cX0_orElseGet 4 (some .int) ({ frames := 7, cells := 1, slots := 6, locals := 110 } : Room) D cI cB [.ref x, .int b1, .int n1] (wX cI x bx px tx f g ak su gt lf rf kn) (e_X0_orElseGet b1 n1) := by
  refine bodyXT (by decide) (Nat.le_of_ble_eq_true rfl) (fun p e s m args below meth c ls Z => ?_)
  obtain ⟨FX, hr, hlk, hK, hP, hz, htab, hl⟩ := Z
  have hl : lv_has ls 4 [(0, .ref x), (1, .int b1), (2, .int n1)] := hl
  refine lv_iload_n FX.1 FX.2.1 dX0_orElseGet_0 rfl (lv_at hl 1 rfl) ?_
  by_cases q_1 : (e_X0_needBox b1) = 0
  · refine c_RDvs FX (r_X0_needBox l D cI cB b1 q_1) mi_X0_needBox rfl ml_RX0_23 (RMok.mk) hl.1 rfl (Nat.le_of_ble_eq_true rfl) dX0_orElseGet_1 (by decide) hK hP [] rfl ?_
    refine lv_iload_n FX.1 FX.2.1 dX0_orElseGet_4 rfl (lv_at hl 2 rfl) ?_
    by_cases q_2 : (e_X0_needNumber n1) = 0
    · refine c_RDvs FX (r_X0_needNumber l D cI cB n1 q_2) mi_X0_needNumber rfl ml_RX0_27 (RMok.mk) hl.1 rfl (Nat.le_of_ble_eq_true rfl) dX0_orElseGet_5 (by decide) hK hP [] rfl ?_
      exact absurd (by rw [e_X0_orElseGet, if_pos q_1, if_pos q_2]) h
    · exact thr_s FX htab hlk (x_X0_needNumber l hl0 D cI cB n1 q_2) mi_X0_needNumber rfl ml_RX0_27 (RMok.mk) hl.1 rfl (Nat.le_of_ble_eq_true rfl) dX0_orElseGet_5 (by decide) hK hP [] rfl hz (by rw [e_X0_orElseGet, if_pos q_1, if_neg q_2])
  · exact thr_s FX htab hlk (x_X0_needBox l hl0 D cI cB b1 q_1) mi_X0_needBox rfl ml_RX0_23 (RMok.mk) hl.1 rfl (Nat.le_of_ble_eq_true rfl) dX0_orElseGet_1 (by decide) hK hP [] rfl hz (by rw [e_X0_orElseGet, if_neg q_1])
def e_X0_orElseThrow (b1 : Int32) (f : Nat → Int32) : Nat := if (e_X0_needBox b1) = 0 then (if (f b1.toNatClampNeg) = (-10000) then 3 else 0) else e_X0_needBox b1
def v_X0_orElseThrow (b1 : Int32) (f : Nat → Int32) : Int32 := f b1.toNatClampNeg
set_option maxRecDepth 100000 in
set_option maxHeartbeats 4000000 in
theorem r_X0_orElseThrow (l : Launch) (D : va_G) (cI cB : ClassId) (x bx px tx : Nat) (f g : Nat → Int32) (ak su gt lf rf kn : Int32) (b1 : Int32) (h : e_X0_orElseThrow b1 f = 0) : RD l yX0_orElseThrow cX0_orElseThrow 2 (some .int) ({ frames := 1, cells := 0, slots := 0, locals := 20 } : Room) D cI cB [.ref x, .int b1] (wX cI x bx px tx f g ak su gt lf rf kn) (v_X0_orElseThrow b1 f) := by
  refine bodyRD (by decide +kernel) (Nat.le_of_ble_eq_true rfl) (fun p e s m args below meth c ls FX hr hlk hK hP hl => ?_)
  have hl : lv_has ls 2 [(0, .ref x), (1, .int b1)] := hl
  refine lv_iload_n FX.1 FX.2.1 dX0_orElseThrow_0 rfl (lv_at hl 1 rfl) ?_
  have q_1 : (e_X0_needBox b1) = 0 := Decidable.byContradiction (fun z => absurd h (by rw [e_X0_orElseThrow, if_neg z]; exact z))
  refine c_RDvs FX (r_X0_needBox l D cI cB b1 q_1) mi_X0_needBox rfl ml_RX0_23 (RMok.mk) hl.1 rfl (Nat.le_of_ble_eq_true rfl) dX0_orElseThrow_1 (by decide) hK hP [] rfl ?_
  refine lv_aload_n FX.1 FX.2.1 dX0_orElseThrow_4 rfl (lv_at hl 0 rfl) ?_
  refine va_get (D := D) (ci := 2) (v := .ref bx) (C := RX0) (T := TX0) (N := 9) FX.1 FX.2.1 FX.2.2.2.2 inX0 FX.2.2.2.1 hK hP 0 rfl rfl 0 (by decide) (FX.2.2.2.2 _ fl_RX0_9) (fun _ h9 => h9) rfl dX0_orElseThrow_5 ?_
  refine lv_iload_n FX.1 FX.2.1 dX0_orElseThrow_8 rfl (lv_at hl 1 rfl) ?_
  refine p_iald (v := f b1.toNatClampNeg) FX hK hP 1 rfl (in_X0_needBox q_1) dX0_orElseThrow_9 rfl ?_
  refine lv_sipush (v := (-10000)) FX.1 FX.2.1 dX0_orElseThrow_10 (by decide) ?_
  refine lv_icmp_ne (tgt := 26) FX.1 FX.2.1 dX0_orElseThrow_13 (by decide) (fun c_2 => ?_) (fun c_2 => ?_)
  · refine lv_aload_n FX.1 FX.2.1 dX0_orElseThrow_26 rfl (lv_at hl 0 rfl) ?_
    refine va_get (D := D) (ci := 2) (v := .ref bx) (C := RX0) (T := TX0) (N := 9) FX.1 FX.2.1 FX.2.2.2.2 inX0 FX.2.2.2.1 hK hP 0 rfl rfl 0 (by decide) (FX.2.2.2.2 _ fl_RX0_9) (fun _ h9 => h9) rfl dX0_orElseThrow_27 ?_
    refine lv_iload_n FX.1 FX.2.1 dX0_orElseThrow_30 rfl (lv_at hl 1 rfl) ?_
    refine p_iald (v := f b1.toNatClampNeg) FX hK hP 1 rfl (in_X0_needBox q_1) dX0_orElseThrow_31 rfl ?_
    exact retRD FX hr hlk dX0_orElseThrow_32 rfl (by rw [v_X0_orElseThrow])
  · exact absurd h (by rw [e_X0_orElseThrow, if_pos q_1, if_pos c_2]; decide)
set_option maxRecDepth 100000 in
set_option maxHeartbeats 4000000 in
theorem x_X0_orElseThrow (l : Launch) (hl0 : l.stackTraces = false) (D : va_G) (cI cB : ClassId) (x bx px tx : Nat) (f g : Nat → Int32) (ak su gt lf rf kn : Int32) (b1 : Int32) (h : ¬ e_X0_orElseThrow b1 f = 0) : XT l yX0_orElseThrow cX0_orElseThrow 2 (some .int) ({ frames := 7, cells := 1, slots := 6, locals := 110 } : Room) D cI cB [.ref x, .int b1] (wX cI x bx px tx f g ak su gt lf rf kn) (e_X0_orElseThrow b1 f) := by
  refine bodyXT (by decide) (Nat.le_of_ble_eq_true rfl) (fun p e s m args below meth c ls Z => ?_)
  obtain ⟨FX, hr, hlk, hK, hP, hz, htab, hl⟩ := Z
  have hl : lv_has ls 2 [(0, .ref x), (1, .int b1)] := hl
  refine lv_iload_n FX.1 FX.2.1 dX0_orElseThrow_0 rfl (lv_at hl 1 rfl) ?_
  by_cases q_1 : (e_X0_needBox b1) = 0
  · refine c_RDvs FX (r_X0_needBox l D cI cB b1 q_1) mi_X0_needBox rfl ml_RX0_23 (RMok.mk) hl.1 rfl (Nat.le_of_ble_eq_true rfl) dX0_orElseThrow_1 (by decide) hK hP [] rfl ?_
    refine lv_aload_n FX.1 FX.2.1 dX0_orElseThrow_4 rfl (lv_at hl 0 rfl) ?_
    refine va_get (D := D) (ci := 2) (v := .ref bx) (C := RX0) (T := TX0) (N := 9) FX.1 FX.2.1 FX.2.2.2.2 inX0 FX.2.2.2.1 hK hP 0 rfl rfl 0 (by decide) (FX.2.2.2.2 _ fl_RX0_9) (fun _ h9 => h9) rfl dX0_orElseThrow_5 ?_
    refine lv_iload_n FX.1 FX.2.1 dX0_orElseThrow_8 rfl (lv_at hl 1 rfl) ?_
    refine p_iald (v := f b1.toNatClampNeg) FX hK hP 1 rfl (in_X0_needBox q_1) dX0_orElseThrow_9 rfl ?_
    refine lv_sipush (v := (-10000)) FX.1 FX.2.1 dX0_orElseThrow_10 (by decide) ?_
    refine lv_icmp_ne (tgt := 26) FX.1 FX.2.1 dX0_orElseThrow_13 (by decide) (fun c_2 => ?_) (fun c_2 => ?_)
    · exact absurd (by rw [e_X0_orElseThrow, if_pos q_1, if_neg c_2]) h
    · exact thr_new (is := 73) (text := "the box is empty") FX htab hlk hl0 (by decide +kernel) cl_RX0_71 tw3_i (by decide) tw3_1 tw3_2 (by decide) tw3_3 hz hl.1 dX0_orElseThrow_16 dX0_orElseThrow_19 dX0_orElseThrow_20 dX0_orElseThrow_22 dX0_orElseThrow_25 (by decide) (by decide) (by decide) (by decide) (by rw [e_X0_orElseThrow, if_pos q_1, if_pos c_2]; rfl)
  · exact thr_s FX htab hlk (x_X0_needBox l hl0 D cI cB b1 q_1) mi_X0_needBox rfl ml_RX0_23 (RMok.mk) hl.1 rfl (Nat.le_of_ble_eq_true rfl) dX0_orElseThrow_1 (by decide) hK hP [] rfl hz (by rw [e_X0_orElseThrow, if_neg q_1])
def e_X0_isFull (b1 : Int32) : Nat := if (e_X0_needBox b1) = 0 then 0 else e_X0_needBox b1
def v_X0_isFull (b1 : Int32) (f : Nat → Int32) : Int32 := if (f b1.toNatClampNeg) = (-10000) then 0 else 1
set_option maxRecDepth 100000 in
set_option maxHeartbeats 4000000 in
theorem r_X0_isFull (l : Launch) (D : va_G) (cI cB : ClassId) (x bx px tx : Nat) (f g : Nat → Int32) (ak su gt lf rf kn : Int32) (b1 : Int32) (h : e_X0_isFull b1 = 0) : RD l yX0_isFull cX0_isFull 2 (some .boolean) ({ frames := 1, cells := 0, slots := 0, locals := 20 } : Room) D cI cB [.ref x, .int b1] (wX cI x bx px tx f g ak su gt lf rf kn) (v_X0_isFull b1 f) := by
  refine bodyRD (by decide +kernel) (Nat.le_of_ble_eq_true rfl) (fun p e s m args below meth c ls FX hr hlk hK hP hl => ?_)
  have hl : lv_has ls 2 [(0, .ref x), (1, .int b1)] := hl
  refine lv_iload_n FX.1 FX.2.1 dX0_isFull_0 rfl (lv_at hl 1 rfl) ?_
  have q_1 : (e_X0_needBox b1) = 0 := Decidable.byContradiction (fun z => absurd h (by rw [e_X0_isFull, if_neg z]; exact z))
  refine c_RDvs FX (r_X0_needBox l D cI cB b1 q_1) mi_X0_needBox rfl ml_RX0_23 (RMok.mk) hl.1 rfl (Nat.le_of_ble_eq_true rfl) dX0_isFull_1 (by decide) hK hP [] rfl ?_
  refine lv_aload_n FX.1 FX.2.1 dX0_isFull_4 rfl (lv_at hl 0 rfl) ?_
  refine va_get (D := D) (ci := 2) (v := .ref bx) (C := RX0) (T := TX0) (N := 9) FX.1 FX.2.1 FX.2.2.2.2 inX0 FX.2.2.2.1 hK hP 0 rfl rfl 0 (by decide) (FX.2.2.2.2 _ fl_RX0_9) (fun _ h9 => h9) rfl dX0_isFull_5 ?_
  refine lv_iload_n FX.1 FX.2.1 dX0_isFull_8 rfl (lv_at hl 1 rfl) ?_
  refine p_iald (v := f b1.toNatClampNeg) FX hK hP 1 rfl (in_X0_needBox q_1) dX0_isFull_9 rfl ?_
  refine lv_sipush (v := (-10000)) FX.1 FX.2.1 dX0_isFull_10 (by decide) ?_
  refine lv_icmp_eq (tgt := 20) FX.1 FX.2.1 dX0_isFull_13 (by decide) (fun c_2 => ?_) (fun c_2 => ?_)
  · refine lv_iconst (v := 0) FX.1 FX.2.1 dX0_isFull_20 (by decide) ?_
    exact retRD FX hr hlk dX0_isFull_21 rfl (by rw [v_X0_isFull, if_pos c_2])
  · refine lv_iconst (v := 1) FX.1 FX.2.1 dX0_isFull_16 (by decide) ?_
    refine lv_goto (tgt := 21) FX.1 FX.2.1 dX0_isFull_17 (by decide) ?_
    exact retRD FX hr hlk dX0_isFull_21 rfl (by rw [v_X0_isFull, if_neg c_2])
theorem b01_v_X0_isFull (b1 : Int32) (f : Nat → Int32) : is01 (v_X0_isFull b1 f) := by
  unfold v_X0_isFull
  repeat' split
  all_goals first | exact Or.inl rfl | exact Or.inr rfl
set_option maxRecDepth 100000 in
set_option maxHeartbeats 4000000 in
theorem x_X0_isFull (l : Launch) (hl0 : l.stackTraces = false) (D : va_G) (cI cB : ClassId) (x bx px tx : Nat) (f g : Nat → Int32) (ak su gt lf rf kn : Int32) (b1 : Int32) (h : ¬ e_X0_isFull b1 = 0) : XT l yX0_isFull cX0_isFull 2 (some .boolean) ({ frames := 7, cells := 1, slots := 6, locals := 110 } : Room) D cI cB [.ref x, .int b1] (wX cI x bx px tx f g ak su gt lf rf kn) (e_X0_isFull b1) := by
  refine bodyXT (by decide) (Nat.le_of_ble_eq_true rfl) (fun p e s m args below meth c ls Z => ?_)
  obtain ⟨FX, hr, hlk, hK, hP, hz, htab, hl⟩ := Z
  have hl : lv_has ls 2 [(0, .ref x), (1, .int b1)] := hl
  refine lv_iload_n FX.1 FX.2.1 dX0_isFull_0 rfl (lv_at hl 1 rfl) ?_
  by_cases q_1 : (e_X0_needBox b1) = 0
  · refine c_RDvs FX (r_X0_needBox l D cI cB b1 q_1) mi_X0_needBox rfl ml_RX0_23 (RMok.mk) hl.1 rfl (Nat.le_of_ble_eq_true rfl) dX0_isFull_1 (by decide) hK hP [] rfl ?_
    exact absurd (by rw [e_X0_isFull, if_pos q_1]) h
  · exact thr_s FX htab hlk (x_X0_needBox l hl0 D cI cB b1 q_1) mi_X0_needBox rfl ml_RX0_23 (RMok.mk) hl.1 rfl (Nat.le_of_ble_eq_true rfl) dX0_isFull_1 (by decide) hK hP [] rfl hz (by rw [e_X0_isFull, if_neg q_1])
def e_X0_isEmpty (b1 : Int32) : Nat := if (e_X0_needBox b1) = 0 then 0 else e_X0_needBox b1
def v_X0_isEmpty (b1 : Int32) (f : Nat → Int32) : Int32 := if (f b1.toNatClampNeg) = (-10000) then 1 else 0
set_option maxRecDepth 100000 in
set_option maxHeartbeats 4000000 in
theorem r_X0_isEmpty (l : Launch) (D : va_G) (cI cB : ClassId) (x bx px tx : Nat) (f g : Nat → Int32) (ak su gt lf rf kn : Int32) (b1 : Int32) (h : e_X0_isEmpty b1 = 0) : RD l yX0_isEmpty cX0_isEmpty 2 (some .boolean) ({ frames := 1, cells := 0, slots := 0, locals := 20 } : Room) D cI cB [.ref x, .int b1] (wX cI x bx px tx f g ak su gt lf rf kn) (v_X0_isEmpty b1 f) := by
  refine bodyRD (by decide +kernel) (Nat.le_of_ble_eq_true rfl) (fun p e s m args below meth c ls FX hr hlk hK hP hl => ?_)
  have hl : lv_has ls 2 [(0, .ref x), (1, .int b1)] := hl
  refine lv_iload_n FX.1 FX.2.1 dX0_isEmpty_0 rfl (lv_at hl 1 rfl) ?_
  have q_1 : (e_X0_needBox b1) = 0 := Decidable.byContradiction (fun z => absurd h (by rw [e_X0_isEmpty, if_neg z]; exact z))
  refine c_RDvs FX (r_X0_needBox l D cI cB b1 q_1) mi_X0_needBox rfl ml_RX0_23 (RMok.mk) hl.1 rfl (Nat.le_of_ble_eq_true rfl) dX0_isEmpty_1 (by decide) hK hP [] rfl ?_
  refine lv_aload_n FX.1 FX.2.1 dX0_isEmpty_4 rfl (lv_at hl 0 rfl) ?_
  refine va_get (D := D) (ci := 2) (v := .ref bx) (C := RX0) (T := TX0) (N := 9) FX.1 FX.2.1 FX.2.2.2.2 inX0 FX.2.2.2.1 hK hP 0 rfl rfl 0 (by decide) (FX.2.2.2.2 _ fl_RX0_9) (fun _ h9 => h9) rfl dX0_isEmpty_5 ?_
  refine lv_iload_n FX.1 FX.2.1 dX0_isEmpty_8 rfl (lv_at hl 1 rfl) ?_
  refine p_iald (v := f b1.toNatClampNeg) FX hK hP 1 rfl (in_X0_needBox q_1) dX0_isEmpty_9 rfl ?_
  refine lv_sipush (v := (-10000)) FX.1 FX.2.1 dX0_isEmpty_10 (by decide) ?_
  refine lv_icmp_ne (tgt := 20) FX.1 FX.2.1 dX0_isEmpty_13 (by decide) (fun c_2 => ?_) (fun c_2 => ?_)
  · refine lv_iconst (v := 0) FX.1 FX.2.1 dX0_isEmpty_20 (by decide) ?_
    exact retRD FX hr hlk dX0_isEmpty_21 rfl (by rw [v_X0_isEmpty, if_neg c_2])
  · refine lv_iconst (v := 1) FX.1 FX.2.1 dX0_isEmpty_16 (by decide) ?_
    refine lv_goto (tgt := 21) FX.1 FX.2.1 dX0_isEmpty_17 (by decide) ?_
    exact retRD FX hr hlk dX0_isEmpty_21 rfl (by rw [v_X0_isEmpty, if_pos c_2])
theorem b01_v_X0_isEmpty (b1 : Int32) (f : Nat → Int32) : is01 (v_X0_isEmpty b1 f) := by
  unfold v_X0_isEmpty
  repeat' split
  all_goals first | exact Or.inl rfl | exact Or.inr rfl
set_option maxRecDepth 100000 in
set_option maxHeartbeats 4000000 in
theorem x_X0_isEmpty (l : Launch) (hl0 : l.stackTraces = false) (D : va_G) (cI cB : ClassId) (x bx px tx : Nat) (f g : Nat → Int32) (ak su gt lf rf kn : Int32) (b1 : Int32) (h : ¬ e_X0_isEmpty b1 = 0) : XT l yX0_isEmpty cX0_isEmpty 2 (some .boolean) ({ frames := 7, cells := 1, slots := 6, locals := 110 } : Room) D cI cB [.ref x, .int b1] (wX cI x bx px tx f g ak su gt lf rf kn) (e_X0_isEmpty b1) := by
  refine bodyXT (by decide) (Nat.le_of_ble_eq_true rfl) (fun p e s m args below meth c ls Z => ?_)
  obtain ⟨FX, hr, hlk, hK, hP, hz, htab, hl⟩ := Z
  have hl : lv_has ls 2 [(0, .ref x), (1, .int b1)] := hl
  refine lv_iload_n FX.1 FX.2.1 dX0_isEmpty_0 rfl (lv_at hl 1 rfl) ?_
  by_cases q_1 : (e_X0_needBox b1) = 0
  · refine c_RDvs FX (r_X0_needBox l D cI cB b1 q_1) mi_X0_needBox rfl ml_RX0_23 (RMok.mk) hl.1 rfl (Nat.le_of_ble_eq_true rfl) dX0_isEmpty_1 (by decide) hK hP [] rfl ?_
    exact absurd (by rw [e_X0_isEmpty, if_pos q_1]) h
  · exact thr_s FX htab hlk (x_X0_needBox l hl0 D cI cB b1 q_1) mi_X0_needBox rfl ml_RX0_23 (RMok.mk) hl.1 rfl (Nat.le_of_ble_eq_true rfl) dX0_isEmpty_1 (by decide) hK hP [] rfl hz (by rw [e_X0_isEmpty, if_neg q_1])
def e_X0_isLike (b1 : Int32) (b2 : Int32) : Nat := if (e_X0_needBox b1) = 0 then (if (e_X0_needBox b2) = 0 then 0 else e_X0_needBox b2) else e_X0_needBox b1
def v_X0_isLike (b1 : Int32) (b2 : Int32) (f : Nat → Int32) : Int32 := v_X0_alike (f b1.toNatClampNeg) (f b2.toNatClampNeg)
set_option maxRecDepth 100000 in
set_option maxHeartbeats 4000000 in
theorem r_X0_isLike (l : Launch) (D : va_G) (cI cB : ClassId) (x bx px tx : Nat) (f g : Nat → Int32) (ak su gt lf rf kn : Int32) (b1 : Int32) (b2 : Int32) (h : e_X0_isLike b1 b2 = 0) : RD l yX0_isLike cX0_isLike 3 (some .boolean) ({ frames := 1, cells := 0, slots := 0, locals := 21 } : Room) D cI cB [.ref x, .int b1, .int b2] (wX cI x bx px tx f g ak su gt lf rf kn) (v_X0_isLike b1 b2 f) := by
  refine bodyRD (by decide +kernel) (Nat.le_of_ble_eq_true rfl) (fun p e s m args below meth c ls FX hr hlk hK hP hl => ?_)
  have hl : lv_has ls 3 [(0, .ref x), (1, .int b1), (2, .int b2)] := hl
  refine lv_iload_n FX.1 FX.2.1 dX0_isLike_0 rfl (lv_at hl 1 rfl) ?_
  have q_1 : (e_X0_needBox b1) = 0 := Decidable.byContradiction (fun z => absurd h (by rw [e_X0_isLike, if_neg z]; exact z))
  refine c_RDvs FX (r_X0_needBox l D cI cB b1 q_1) mi_X0_needBox rfl ml_RX0_23 (RMok.mk) hl.1 rfl (Nat.le_of_ble_eq_true rfl) dX0_isLike_1 (by decide) hK hP [] rfl ?_
  refine lv_iload_n FX.1 FX.2.1 dX0_isLike_4 rfl (lv_at hl 2 rfl) ?_
  have q_2 : (e_X0_needBox b2) = 0 := Decidable.byContradiction (fun z => absurd h (by rw [e_X0_isLike, if_pos q_1, if_neg z]; exact z))
  refine c_RDvs FX (r_X0_needBox l D cI cB b2 q_2) mi_X0_needBox rfl ml_RX0_23 (RMok.mk) hl.1 rfl (Nat.le_of_ble_eq_true rfl) dX0_isLike_5 (by decide) hK hP [] rfl ?_
  refine lv_aload_n FX.1 FX.2.1 dX0_isLike_8 rfl (lv_at hl 0 rfl) ?_
  refine va_get (D := D) (ci := 2) (v := .ref bx) (C := RX0) (T := TX0) (N := 9) FX.1 FX.2.1 FX.2.2.2.2 inX0 FX.2.2.2.1 hK hP 0 rfl rfl 0 (by decide) (FX.2.2.2.2 _ fl_RX0_9) (fun _ h9 => h9) rfl dX0_isLike_9 ?_
  refine lv_iload_n FX.1 FX.2.1 dX0_isLike_12 rfl (lv_at hl 1 rfl) ?_
  refine p_iald (v := f b1.toNatClampNeg) FX hK hP 1 rfl (in_X0_needBox q_1) dX0_isLike_13 rfl ?_
  refine lv_aload_n FX.1 FX.2.1 dX0_isLike_14 rfl (lv_at hl 0 rfl) ?_
  refine va_get (D := D) (ci := 2) (v := .ref bx) (C := RX0) (T := TX0) (N := 9) FX.1 FX.2.1 FX.2.2.2.2 inX0 FX.2.2.2.1 hK hP 0 rfl rfl 0 (by decide) (FX.2.2.2.2 _ fl_RX0_9) (fun _ h9 => h9) rfl dX0_isLike_15 ?_
  refine lv_iload_n FX.1 FX.2.1 dX0_isLike_18 rfl (lv_at hl 2 rfl) ?_
  refine p_iald (v := f b2.toNatClampNeg) FX hK hP 1 rfl (in_X0_needBox q_2) dX0_isLike_19 rfl ?_
  refine c_RDs FX (r_X0_alike l D cI cB (f b1.toNatClampNeg) (f b2.toNatClampNeg)) mi_X0_alike rfl ml_RX0_78 (RMok.mk) hl.1 rfl (Nat.le_of_ble_eq_true rfl) dX0_isLike_20 (by decide) hK hP [] rfl ?_
  exact retRD FX hr hlk dX0_isLike_23 (nz (b01_v_X0_alike _ _)) (by rw [v_X0_isLike])
theorem b01_v_X0_isLike (b1 : Int32) (b2 : Int32) (f : Nat → Int32) : is01 (v_X0_isLike b1 b2 f) := by
  unfold v_X0_isLike
  repeat' split
  all_goals first | with_reducible exact b01_v_X0_alike _ _ | exact Or.inl rfl | exact Or.inr rfl
set_option maxRecDepth 100000 in
set_option maxHeartbeats 4000000 in
theorem x_X0_isLike (l : Launch) (hl0 : l.stackTraces = false) (D : va_G) (cI cB : ClassId) (x bx px tx : Nat) (f g : Nat → Int32) (ak su gt lf rf kn : Int32) (b1 : Int32) (b2 : Int32) (h : ¬ e_X0_isLike b1 b2 = 0) : XT l yX0_isLike cX0_isLike 3 (some .boolean) ({ frames := 7, cells := 1, slots := 6, locals := 110 } : Room) D cI cB [.ref x, .int b1, .int b2] (wX cI x bx px tx f g ak su gt lf rf kn) (e_X0_isLike b1 b2) := by
  refine bodyXT (by decide) (Nat.le_of_ble_eq_true rfl) (fun p e s m args below meth c ls Z => ?_)
  obtain ⟨FX, hr, hlk, hK, hP, hz, htab, hl⟩ := Z
  have hl : lv_has ls 3 [(0, .ref x), (1, .int b1), (2, .int b2)] := hl
  refine lv_iload_n FX.1 FX.2.1 dX0_isLike_0 rfl (lv_at hl 1 rfl) ?_
  by_cases q_1 : (e_X0_needBox b1) = 0
  · refine c_RDvs FX (r_X0_needBox l D cI cB b1 q_1) mi_X0_needBox rfl ml_RX0_23 (RMok.mk) hl.1 rfl (Nat.le_of_ble_eq_true rfl) dX0_isLike_1 (by decide) hK hP [] rfl ?_
    refine lv_iload_n FX.1 FX.2.1 dX0_isLike_4 rfl (lv_at hl 2 rfl) ?_
    by_cases q_2 : (e_X0_needBox b2) = 0
    · refine c_RDvs FX (r_X0_needBox l D cI cB b2 q_2) mi_X0_needBox rfl ml_RX0_23 (RMok.mk) hl.1 rfl (Nat.le_of_ble_eq_true rfl) dX0_isLike_5 (by decide) hK hP [] rfl ?_
      exact absurd (by rw [e_X0_isLike, if_pos q_1, if_pos q_2]) h
    · exact thr_s FX htab hlk (x_X0_needBox l hl0 D cI cB b2 q_2) mi_X0_needBox rfl ml_RX0_23 (RMok.mk) hl.1 rfl (Nat.le_of_ble_eq_true rfl) dX0_isLike_5 (by decide) hK hP [] rfl hz (by rw [e_X0_isLike, if_pos q_1, if_neg q_2])
  · exact thr_s FX htab hlk (x_X0_needBox l hl0 D cI cB b1 q_1) mi_X0_needBox rfl ml_RX0_23 (RMok.mk) hl.1 rfl (Nat.le_of_ble_eq_true rfl) dX0_isLike_1 (by decide) hK hP [] rfl hz (by rw [e_X0_isLike, if_neg q_1])
def e_X0_code (b1 : Int32) : Nat := if (e_X0_needBox b1) = 0 then 0 else e_X0_needBox b1
def v_X0_code (b1 : Int32) (f : Nat → Int32) : Int32 := v_X0_numberOrZero (f b1.toNatClampNeg)
set_option maxRecDepth 100000 in
set_option maxHeartbeats 4000000 in
theorem r_X0_code (l : Launch) (D : va_G) (cI cB : ClassId) (x bx px tx : Nat) (f g : Nat → Int32) (ak su gt lf rf kn : Int32) (b1 : Int32) (h : e_X0_code b1 = 0) : RD l yX0_code cX0_code 2 (some .int) ({ frames := 1, cells := 0, slots := 0, locals := 20 } : Room) D cI cB [.ref x, .int b1] (wX cI x bx px tx f g ak su gt lf rf kn) (v_X0_code b1 f) := by
  refine bodyRD (by decide +kernel) (Nat.le_of_ble_eq_true rfl) (fun p e s m args below meth c ls FX hr hlk hK hP hl => ?_)
  have hl : lv_has ls 2 [(0, .ref x), (1, .int b1)] := hl
  refine lv_iload_n FX.1 FX.2.1 dX0_code_0 rfl (lv_at hl 1 rfl) ?_
  have q_1 : (e_X0_needBox b1) = 0 := Decidable.byContradiction (fun z => absurd h (by rw [e_X0_code, if_neg z]; exact z))
  refine c_RDvs FX (r_X0_needBox l D cI cB b1 q_1) mi_X0_needBox rfl ml_RX0_23 (RMok.mk) hl.1 rfl (Nat.le_of_ble_eq_true rfl) dX0_code_1 (by decide) hK hP [] rfl ?_
  refine lv_aload_n FX.1 FX.2.1 dX0_code_4 rfl (lv_at hl 0 rfl) ?_
  refine va_get (D := D) (ci := 2) (v := .ref bx) (C := RX0) (T := TX0) (N := 9) FX.1 FX.2.1 FX.2.2.2.2 inX0 FX.2.2.2.1 hK hP 0 rfl rfl 0 (by decide) (FX.2.2.2.2 _ fl_RX0_9) (fun _ h9 => h9) rfl dX0_code_5 ?_
  refine lv_iload_n FX.1 FX.2.1 dX0_code_8 rfl (lv_at hl 1 rfl) ?_
  refine p_iald (v := f b1.toNatClampNeg) FX hK hP 1 rfl (in_X0_needBox q_1) dX0_code_9 rfl ?_
  refine c_RDs FX (r_X0_numberOrZero l D cI cB (f b1.toNatClampNeg)) mi_X0_numberOrZero rfl ml_RX0_82 (RMok.mk) hl.1 rfl (Nat.le_of_ble_eq_true rfl) dX0_code_10 (by decide) hK hP [] rfl ?_
  exact retRD FX hr hlk dX0_code_13 rfl (by rw [v_X0_code])
set_option maxRecDepth 100000 in
set_option maxHeartbeats 4000000 in
theorem x_X0_code (l : Launch) (hl0 : l.stackTraces = false) (D : va_G) (cI cB : ClassId) (x bx px tx : Nat) (f g : Nat → Int32) (ak su gt lf rf kn : Int32) (b1 : Int32) (h : ¬ e_X0_code b1 = 0) : XT l yX0_code cX0_code 2 (some .int) ({ frames := 7, cells := 1, slots := 6, locals := 110 } : Room) D cI cB [.ref x, .int b1] (wX cI x bx px tx f g ak su gt lf rf kn) (e_X0_code b1) := by
  refine bodyXT (by decide) (Nat.le_of_ble_eq_true rfl) (fun p e s m args below meth c ls Z => ?_)
  obtain ⟨FX, hr, hlk, hK, hP, hz, htab, hl⟩ := Z
  have hl : lv_has ls 2 [(0, .ref x), (1, .int b1)] := hl
  refine lv_iload_n FX.1 FX.2.1 dX0_code_0 rfl (lv_at hl 1 rfl) ?_
  by_cases q_1 : (e_X0_needBox b1) = 0
  · refine c_RDvs FX (r_X0_needBox l D cI cB b1 q_1) mi_X0_needBox rfl ml_RX0_23 (RMok.mk) hl.1 rfl (Nat.le_of_ble_eq_true rfl) dX0_code_1 (by decide) hK hP [] rfl ?_
    exact absurd (by rw [e_X0_code, if_pos q_1]) h
  · exact thr_s FX htab hlk (x_X0_needBox l hl0 D cI cB b1 q_1) mi_X0_needBox rfl ml_RX0_23 (RMok.mk) hl.1 rfl (Nat.le_of_ble_eq_true rfl) dX0_code_1 (by decide) hK hP [] rfl hz (by rw [e_X0_code, if_neg q_1])
def e_X0_fillPlain (p1 : Int32) (n1 : Int32) : Nat := if (e_X0_needPlain p1) = 0 then (if (e_X0_needNumber n1) = 0 then 0 else e_X0_needNumber n1) else e_X0_needPlain p1
def v_X0_fillPlain (p1 : Int32) (g : Nat → Int32) : Int32 := v_X0_fullness (g p1.toNatClampNeg)
def wg_X0_fillPlain (p1 : Int32) (n1 : Int32) (g : Nat → Int32) : Nat → Int32 := upd g p1.toNatClampNeg n1
set_option maxRecDepth 100000 in
set_option maxHeartbeats 4000000 in
theorem k_X0_fillPlain (l : Launch) (D : va_G) (cI cB : ClassId) (x bx px tx : Nat) (f g : Nat → Int32) (ak su gt lf rf kn : Int32) (p1 : Int32) (n1 : Int32) (h : e_X0_fillPlain p1 n1 = 0) : WR l yX0_fillPlain cX0_fillPlain 4 (some .int) ({ frames := 2, cells := 0, slots := 0, locals := 40 } : Room) D cI cB [.ref x, .int p1, .int n1] (wX cI x bx px tx f g ak su gt lf rf kn) (v_X0_fillPlain p1 g) (wX cI x bx px tx f (wg_X0_fillPlain p1 n1 g) ak su gt lf rf kn) 0 0 := by
  refine bodyWR (by decide +kernel) (Nat.le_of_ble_eq_true rfl) (fun p e s m args below meth c ls A Z => ?_)
  obtain ⟨FX, hr, hlk, hK, hP, hD, hS, hA, hl⟩ := Z
  have hl : lv_has ls 4 [(0, .ref x), (1, .int p1), (2, .int n1)] := hl
  refine lv_iload_n FX.1 FX.2.1 dX0_fillPlain_0 rfl (lv_at hl 1 rfl) ?_
  have q_1 : (e_X0_needPlain p1) = 0 := Decidable.byContradiction (fun z => absurd h (by rw [e_X0_fillPlain, if_neg z]; exact z))
  refine c_RDvs FX (r_X0_needPlain l D cI cB p1 q_1) mi_X0_needPlain rfl ml_RX0_85 (RMok.mk) hl.1 rfl (Nat.le_of_ble_eq_true rfl) dX0_fillPlain_1 (by decide) hK hP [] rfl ?_
  refine lv_iload_n FX.1 FX.2.1 dX0_fillPlain_4 rfl (lv_at hl 2 rfl) ?_
  have q_2 : (e_X0_needNumber n1) = 0 := Decidable.byContradiction (fun z => absurd h (by rw [e_X0_fillPlain, if_pos q_1, if_neg z]; exact z))
  refine c_RDvs FX (r_X0_needNumber l D cI cB n1 q_2) mi_X0_needNumber rfl ml_RX0_27 (RMok.mk) hl.1 rfl (Nat.le_of_ble_eq_true rfl) dX0_fillPlain_5 (by decide) hK hP [] rfl ?_
  refine lv_aload_n FX.1 FX.2.1 dX0_fillPlain_8 rfl (lv_at hl 0 rfl) ?_
  refine va_get (D := D) (ci := 2) (v := .ref px) (C := RX0) (T := TX0) (N := 9) FX.1 FX.2.1 FX.2.2.2.2 inX0 FX.2.2.2.1 hK hP 0 rfl rfl 1 (by decide) (FX.2.2.2.2 _ fl_RX0_13) (fun _ h9 => h9) rfl dX0_fillPlain_9 ?_
  refine lv_iload_n FX.1 FX.2.1 dX0_fillPlain_12 rfl (lv_at hl 1 rfl) ?_
  refine p_iald (v := g p1.toNatClampNeg) FX hK hP 2 rfl (in_X0_needPlain q_1) dX0_fillPlain_13 rfl ?_
  refine c_RDs FX (r_X0_fullness l D cI cB (g p1.toNatClampNeg)) mi_X0_fullness rfl ml_RX0_30 (RMok.mk) hl.1 rfl (Nat.le_of_ble_eq_true rfl) dX0_fillPlain_14 (by decide) hK hP [] rfl ?_
  refine lv_istore_n (lv' := [(3, .int (v_X0_fullness (g p1.toNatClampNeg))), (0, .ref x), (1, .int p1), (2, .int n1)]) FX.1 FX.2.1 dX0_fillPlain_17 rfl hl (by decide) rfl (fun ls hl => ?_)
  refine lv_aload_n FX.1 FX.2.1 dX0_fillPlain_18 rfl (lv_at hl 1 rfl) ?_
  refine va_get (D := D) (ci := 2) (v := .ref px) (C := RX0) (T := TX0) (N := 9) FX.1 FX.2.1 FX.2.2.2.2 inX0 FX.2.2.2.1 hK hP 0 rfl rfl 1 (by decide) (FX.2.2.2.2 _ fl_RX0_13) (fun _ h9 => h9) rfl dX0_fillPlain_19 ?_
  refine lv_iload_n FX.1 FX.2.1 dX0_fillPlain_22 rfl (lv_at hl 2 rfl) ?_
  refine lv_iload_n FX.1 FX.2.1 dX0_fillPlain_23 rfl (lv_at hl 3 rfl) ?_
  refine p_iast (wsN := (wX cI x bx px tx f (upd g p1.toNatClampNeg n1) ak su gt lf rf kn)) FX hK hP hD hS 2 rfl (in_X0_needPlain q_1) dX0_fillPlain_24 rfl (fun H locs hP hD hS => ?_)
  refine lv_iload_n FX.1 FX.2.1 dX0_fillPlain_25 rfl (lv_at hl 0 rfl) ?_
  exact retWR FX hr hlk dX0_fillPlain_26 rfl hP hK hD hS (by decide) (by decide) (by rw [v_X0_fillPlain]) (by rw [wg_X0_fillPlain])
set_option maxRecDepth 100000 in
set_option maxHeartbeats 4000000 in
theorem x_X0_fillPlain (l : Launch) (hl0 : l.stackTraces = false) (D : va_G) (cI cB : ClassId) (x bx px tx : Nat) (f g : Nat → Int32) (ak su gt lf rf kn : Int32) (p1 : Int32) (n1 : Int32) (h : ¬ e_X0_fillPlain p1 n1 = 0) : XT l yX0_fillPlain cX0_fillPlain 4 (some .int) ({ frames := 7, cells := 1, slots := 6, locals := 110 } : Room) D cI cB [.ref x, .int p1, .int n1] (wX cI x bx px tx f g ak su gt lf rf kn) (e_X0_fillPlain p1 n1) := by
  refine bodyXT (by decide) (Nat.le_of_ble_eq_true rfl) (fun p e s m args below meth c ls Z => ?_)
  obtain ⟨FX, hr, hlk, hK, hP, hz, htab, hl⟩ := Z
  have hl : lv_has ls 4 [(0, .ref x), (1, .int p1), (2, .int n1)] := hl
  refine lv_iload_n FX.1 FX.2.1 dX0_fillPlain_0 rfl (lv_at hl 1 rfl) ?_
  by_cases q_1 : (e_X0_needPlain p1) = 0
  · refine c_RDvs FX (r_X0_needPlain l D cI cB p1 q_1) mi_X0_needPlain rfl ml_RX0_85 (RMok.mk) hl.1 rfl (Nat.le_of_ble_eq_true rfl) dX0_fillPlain_1 (by decide) hK hP [] rfl ?_
    refine lv_iload_n FX.1 FX.2.1 dX0_fillPlain_4 rfl (lv_at hl 2 rfl) ?_
    by_cases q_2 : (e_X0_needNumber n1) = 0
    · refine c_RDvs FX (r_X0_needNumber l D cI cB n1 q_2) mi_X0_needNumber rfl ml_RX0_27 (RMok.mk) hl.1 rfl (Nat.le_of_ble_eq_true rfl) dX0_fillPlain_5 (by decide) hK hP [] rfl ?_
      exact absurd (by rw [e_X0_fillPlain, if_pos q_1, if_pos q_2]) h
    · exact thr_s FX htab hlk (x_X0_needNumber l hl0 D cI cB n1 q_2) mi_X0_needNumber rfl ml_RX0_27 (RMok.mk) hl.1 rfl (Nat.le_of_ble_eq_true rfl) dX0_fillPlain_5 (by decide) hK hP [] rfl hz (by rw [e_X0_fillPlain, if_pos q_1, if_neg q_2])
  · exact thr_s FX htab hlk (x_X0_needPlain l hl0 D cI cB p1 q_1) mi_X0_needPlain rfl ml_RX0_85 (RMok.mk) hl.1 rfl (Nat.le_of_ble_eq_true rfl) dX0_fillPlain_1 (by decide) hK hP [] rfl hz (by rw [e_X0_fillPlain, if_neg q_1])
def e_X0_emptyPlain (p1 : Int32) : Nat := if (e_X0_needPlain p1) = 0 then 0 else e_X0_needPlain p1
def v_X0_emptyPlain (p1 : Int32) (g : Nat → Int32) : Int32 := v_X0_fullness (g p1.toNatClampNeg)
def wg_X0_emptyPlain (p1 : Int32) (g : Nat → Int32) : Nat → Int32 := upd g p1.toNatClampNeg (-10000)
set_option maxRecDepth 100000 in
set_option maxHeartbeats 4000000 in
theorem k_X0_emptyPlain (l : Launch) (D : va_G) (cI cB : ClassId) (x bx px tx : Nat) (f g : Nat → Int32) (ak su gt lf rf kn : Int32) (p1 : Int32) (h : e_X0_emptyPlain p1 = 0) : WR l yX0_emptyPlain cX0_emptyPlain 3 (some .int) ({ frames := 1, cells := 0, slots := 0, locals := 20 } : Room) D cI cB [.ref x, .int p1] (wX cI x bx px tx f g ak su gt lf rf kn) (v_X0_emptyPlain p1 g) (wX cI x bx px tx f (wg_X0_emptyPlain p1 g) ak su gt lf rf kn) 0 0 := by
  refine bodyWR (by decide +kernel) (Nat.le_of_ble_eq_true rfl) (fun p e s m args below meth c ls A Z => ?_)
  obtain ⟨FX, hr, hlk, hK, hP, hD, hS, hA, hl⟩ := Z
  have hl : lv_has ls 3 [(0, .ref x), (1, .int p1)] := hl
  refine lv_iload_n FX.1 FX.2.1 dX0_emptyPlain_0 rfl (lv_at hl 1 rfl) ?_
  have q_1 : (e_X0_needPlain p1) = 0 := Decidable.byContradiction (fun z => absurd h (by rw [e_X0_emptyPlain, if_neg z]; exact z))
  refine c_RDvs FX (r_X0_needPlain l D cI cB p1 q_1) mi_X0_needPlain rfl ml_RX0_85 (RMok.mk) hl.1 rfl (Nat.le_of_ble_eq_true rfl) dX0_emptyPlain_1 (by decide) hK hP [] rfl ?_
  refine lv_aload_n FX.1 FX.2.1 dX0_emptyPlain_4 rfl (lv_at hl 0 rfl) ?_
  refine va_get (D := D) (ci := 2) (v := .ref px) (C := RX0) (T := TX0) (N := 9) FX.1 FX.2.1 FX.2.2.2.2 inX0 FX.2.2.2.1 hK hP 0 rfl rfl 1 (by decide) (FX.2.2.2.2 _ fl_RX0_13) (fun _ h9 => h9) rfl dX0_emptyPlain_5 ?_
  refine lv_iload_n FX.1 FX.2.1 dX0_emptyPlain_8 rfl (lv_at hl 1 rfl) ?_
  refine p_iald (v := g p1.toNatClampNeg) FX hK hP 2 rfl (in_X0_needPlain q_1) dX0_emptyPlain_9 rfl ?_
  refine c_RDs FX (r_X0_fullness l D cI cB (g p1.toNatClampNeg)) mi_X0_fullness rfl ml_RX0_30 (RMok.mk) hl.1 rfl (Nat.le_of_ble_eq_true rfl) dX0_emptyPlain_10 (by decide) hK hP [] rfl ?_
  refine lv_istore_n (lv' := [(2, .int (v_X0_fullness (g p1.toNatClampNeg))), (0, .ref x), (1, .int p1)]) FX.1 FX.2.1 dX0_emptyPlain_13 rfl hl (by decide) rfl (fun ls hl => ?_)
  refine lv_aload_n FX.1 FX.2.1 dX0_emptyPlain_14 rfl (lv_at hl 1 rfl) ?_
  refine va_get (D := D) (ci := 2) (v := .ref px) (C := RX0) (T := TX0) (N := 9) FX.1 FX.2.1 FX.2.2.2.2 inX0 FX.2.2.2.1 hK hP 0 rfl rfl 1 (by decide) (FX.2.2.2.2 _ fl_RX0_13) (fun _ h9 => h9) rfl dX0_emptyPlain_15 ?_
  refine lv_iload_n FX.1 FX.2.1 dX0_emptyPlain_18 rfl (lv_at hl 2 rfl) ?_
  refine lv_sipush (v := (-10000)) FX.1 FX.2.1 dX0_emptyPlain_19 (by decide) ?_
  refine p_iast (wsN := (wX cI x bx px tx f (upd g p1.toNatClampNeg (-10000)) ak su gt lf rf kn)) FX hK hP hD hS 2 rfl (in_X0_needPlain q_1) dX0_emptyPlain_22 rfl (fun H locs hP hD hS => ?_)
  refine lv_iload_n FX.1 FX.2.1 dX0_emptyPlain_23 rfl (lv_at hl 0 rfl) ?_
  exact retWR FX hr hlk dX0_emptyPlain_24 rfl hP hK hD hS (by decide) (by decide) (by rw [v_X0_emptyPlain]) (by rw [wg_X0_emptyPlain])
set_option maxRecDepth 100000 in
set_option maxHeartbeats 4000000 in
theorem x_X0_emptyPlain (l : Launch) (hl0 : l.stackTraces = false) (D : va_G) (cI cB : ClassId) (x bx px tx : Nat) (f g : Nat → Int32) (ak su gt lf rf kn : Int32) (p1 : Int32) (h : ¬ e_X0_emptyPlain p1 = 0) : XT l yX0_emptyPlain cX0_emptyPlain 3 (some .int) ({ frames := 7, cells := 1, slots := 6, locals := 110 } : Room) D cI cB [.ref x, .int p1] (wX cI x bx px tx f g ak su gt lf rf kn) (e_X0_emptyPlain p1) := by
  refine bodyXT (by decide) (Nat.le_of_ble_eq_true rfl) (fun p e s m args below meth c ls Z => ?_)
  obtain ⟨FX, hr, hlk, hK, hP, hz, htab, hl⟩ := Z
  have hl : lv_has ls 3 [(0, .ref x), (1, .int p1)] := hl
  refine lv_iload_n FX.1 FX.2.1 dX0_emptyPlain_0 rfl (lv_at hl 1 rfl) ?_
  by_cases q_1 : (e_X0_needPlain p1) = 0
  · refine c_RDvs FX (r_X0_needPlain l D cI cB p1 q_1) mi_X0_needPlain rfl ml_RX0_85 (RMok.mk) hl.1 rfl (Nat.le_of_ble_eq_true rfl) dX0_emptyPlain_1 (by decide) hK hP [] rfl ?_
    exact absurd (by rw [e_X0_emptyPlain, if_pos q_1]) h
  · exact thr_s FX htab hlk (x_X0_needPlain l hl0 D cI cB p1 q_1) mi_X0_needPlain rfl ml_RX0_85 (RMok.mk) hl.1 rfl (Nat.le_of_ble_eq_true rfl) dX0_emptyPlain_1 (by decide) hK hP [] rfl hz (by rw [e_X0_emptyPlain, if_neg q_1])
def e_X0_getPlain (p1 : Int32) : Nat := if (e_X0_needPlain p1) = 0 then 0 else e_X0_needPlain p1
def v_X0_getPlain (p1 : Int32) (g : Nat → Int32) : Int32 := v_X0_numberOrRefused (g p1.toNatClampNeg)
def wrf_X0_getPlain (p1 : Int32) (g : Nat → Int32) (rf : Int32) : Int32 := wrf_X0_numberOrRefused (g p1.toNatClampNeg) rf
set_option maxRecDepth 100000 in
set_option maxHeartbeats 4000000 in
theorem k_X0_getPlain (l : Launch) (D : va_G) (cI cB : ClassId) (x bx px tx : Nat) (f g : Nat → Int32) (ak su gt lf rf kn : Int32) (p1 : Int32) (h : e_X0_getPlain p1 = 0) : WR l yX0_getPlain cX0_getPlain 2 (some .int) ({ frames := 1, cells := 0, slots := 0, locals := 21 } : Room) D cI cB [.ref x, .int p1] (wX cI x bx px tx f g ak su gt lf rf kn) (v_X0_getPlain p1 g) (wX cI x bx px tx f g ak su gt lf (wrf_X0_getPlain p1 g rf) kn) 0 0 := by
  refine bodyWR (by decide +kernel) (Nat.le_of_ble_eq_true rfl) (fun p e s m args below meth c ls A Z => ?_)
  obtain ⟨FX, hr, hlk, hK, hP, hD, hS, hA, hl⟩ := Z
  have hl : lv_has ls 2 [(0, .ref x), (1, .int p1)] := hl
  refine lv_iload_n FX.1 FX.2.1 dX0_getPlain_0 rfl (lv_at hl 1 rfl) ?_
  have q_1 : (e_X0_needPlain p1) = 0 := Decidable.byContradiction (fun z => absurd h (by rw [e_X0_getPlain, if_neg z]; exact z))
  refine c_RDvs FX (r_X0_needPlain l D cI cB p1 q_1) mi_X0_needPlain rfl ml_RX0_85 (RMok.mk) hl.1 rfl (Nat.le_of_ble_eq_true rfl) dX0_getPlain_1 (by decide) hK hP [] rfl ?_
  refine lv_aload_n FX.1 FX.2.1 dX0_getPlain_4 rfl (lv_at hl 0 rfl) ?_
  refine lv_aload_n FX.1 FX.2.1 dX0_getPlain_5 rfl (lv_at hl 0 rfl) ?_
  refine va_get (D := D) (ci := 2) (v := .ref px) (C := RX0) (T := TX0) (N := 9) FX.1 FX.2.1 FX.2.2.2.2 inX0 FX.2.2.2.1 hK hP 0 rfl rfl 1 (by decide) (FX.2.2.2.2 _ fl_RX0_13) (fun _ h9 => h9) rfl dX0_getPlain_6 ?_
  refine lv_iload_n FX.1 FX.2.1 dX0_getPlain_9 rfl (lv_at hl 1 rfl) ?_
  refine p_iald (v := g p1.toNatClampNeg) FX hK hP 2 rfl (in_X0_needPlain q_1) dX0_getPlain_10 rfl ?_
  refine c_WRV (wr := []) (wsN := (wX cI x bx px tx f g ak su gt lf (wrf_X0_numberOrRefused (g p1.toNatClampNeg) rf) kn)) (i0 := 0) (ci := 2) FX (k_X0_numberOrRefused l D cI cB x bx px tx f g ak su gt lf rf kn (g p1.toNatClampNeg)) mi_X0_numberOrRefused rfl ml_RX0_68 (RMok.mk) hl.1 rfl (Nat.le_of_ble_eq_true rfl) dX0_getPlain_11 (by decide) hK hP hD hS hA [0, 1, 2] rfl [] rfl rfl (by decide) [0, 1, 2] rfl rfl rfl rfl rfl (fun H locs hP hD hS => ?_)
  exact retWR FX hr hlk dX0_getPlain_14 rfl hP hK hD hS (by decide) (by decide) (by rw [v_X0_getPlain]) (by rw [wrf_X0_getPlain])
set_option maxRecDepth 100000 in
set_option maxHeartbeats 4000000 in
theorem x_X0_getPlain (l : Launch) (hl0 : l.stackTraces = false) (D : va_G) (cI cB : ClassId) (x bx px tx : Nat) (f g : Nat → Int32) (ak su gt lf rf kn : Int32) (p1 : Int32) (h : ¬ e_X0_getPlain p1 = 0) : XT l yX0_getPlain cX0_getPlain 2 (some .int) ({ frames := 7, cells := 1, slots := 6, locals := 110 } : Room) D cI cB [.ref x, .int p1] (wX cI x bx px tx f g ak su gt lf rf kn) (e_X0_getPlain p1) := by
  refine bodyXT (by decide) (Nat.le_of_ble_eq_true rfl) (fun p e s m args below meth c ls Z => ?_)
  obtain ⟨FX, hr, hlk, hK, hP, hz, htab, hl⟩ := Z
  have hl : lv_has ls 2 [(0, .ref x), (1, .int p1)] := hl
  refine lv_iload_n FX.1 FX.2.1 dX0_getPlain_0 rfl (lv_at hl 1 rfl) ?_
  by_cases q_1 : (e_X0_needPlain p1) = 0
  · refine c_RDvs FX (r_X0_needPlain l D cI cB p1 q_1) mi_X0_needPlain rfl ml_RX0_85 (RMok.mk) hl.1 rfl (Nat.le_of_ble_eq_true rfl) dX0_getPlain_1 (by decide) hK hP [] rfl ?_
    exact absurd (by rw [e_X0_getPlain, if_pos q_1]) h
  · exact thr_s FX htab hlk (x_X0_needPlain l hl0 D cI cB p1 q_1) mi_X0_needPlain rfl ml_RX0_85 (RMok.mk) hl.1 rfl (Nat.le_of_ble_eq_true rfl) dX0_getPlain_1 (by decide) hK hP [] rfl hz (by rw [e_X0_getPlain, if_neg q_1])
def e_X0_orElsePlain (p1 : Int32) (n1 : Int32) : Nat := if (e_X0_needPlain p1) = 0 then (if (e_X0_needNumber n1) = 0 then 0 else e_X0_needNumber n1) else e_X0_needPlain p1
def v_X0_orElsePlain (p1 : Int32) (n1 : Int32) (g : Nat → Int32) : Int32 := v_X0_firstFull (g p1.toNatClampNeg) n1
set_option maxRecDepth 100000 in
set_option maxHeartbeats 4000000 in
theorem r_X0_orElsePlain (l : Launch) (D : va_G) (cI cB : ClassId) (x bx px tx : Nat) (f g : Nat → Int32) (ak su gt lf rf kn : Int32) (p1 : Int32) (n1 : Int32) (h : e_X0_orElsePlain p1 n1 = 0) : RD l yX0_orElsePlain cX0_orElsePlain 3 (some .int) ({ frames := 2, cells := 0, slots := 0, locals := 40 } : Room) D cI cB [.ref x, .int p1, .int n1] (wX cI x bx px tx f g ak su gt lf rf kn) (v_X0_orElsePlain p1 n1 g) := by
  refine bodyRD (by decide +kernel) (Nat.le_of_ble_eq_true rfl) (fun p e s m args below meth c ls FX hr hlk hK hP hl => ?_)
  have hl : lv_has ls 3 [(0, .ref x), (1, .int p1), (2, .int n1)] := hl
  refine lv_iload_n FX.1 FX.2.1 dX0_orElsePlain_0 rfl (lv_at hl 1 rfl) ?_
  have q_1 : (e_X0_needPlain p1) = 0 := Decidable.byContradiction (fun z => absurd h (by rw [e_X0_orElsePlain, if_neg z]; exact z))
  refine c_RDvs FX (r_X0_needPlain l D cI cB p1 q_1) mi_X0_needPlain rfl ml_RX0_85 (RMok.mk) hl.1 rfl (Nat.le_of_ble_eq_true rfl) dX0_orElsePlain_1 (by decide) hK hP [] rfl ?_
  refine lv_iload_n FX.1 FX.2.1 dX0_orElsePlain_4 rfl (lv_at hl 2 rfl) ?_
  have q_2 : (e_X0_needNumber n1) = 0 := Decidable.byContradiction (fun z => absurd h (by rw [e_X0_orElsePlain, if_pos q_1, if_neg z]; exact z))
  refine c_RDvs FX (r_X0_needNumber l D cI cB n1 q_2) mi_X0_needNumber rfl ml_RX0_27 (RMok.mk) hl.1 rfl (Nat.le_of_ble_eq_true rfl) dX0_orElsePlain_5 (by decide) hK hP [] rfl ?_
  refine lv_aload_n FX.1 FX.2.1 dX0_orElsePlain_8 rfl (lv_at hl 0 rfl) ?_
  refine va_get (D := D) (ci := 2) (v := .ref px) (C := RX0) (T := TX0) (N := 9) FX.1 FX.2.1 FX.2.2.2.2 inX0 FX.2.2.2.1 hK hP 0 rfl rfl 1 (by decide) (FX.2.2.2.2 _ fl_RX0_13) (fun _ h9 => h9) rfl dX0_orElsePlain_9 ?_
  refine lv_iload_n FX.1 FX.2.1 dX0_orElsePlain_12 rfl (lv_at hl 1 rfl) ?_
  refine p_iald (v := g p1.toNatClampNeg) FX hK hP 2 rfl (in_X0_needPlain q_1) dX0_orElsePlain_13 rfl ?_
  refine lv_iload_n FX.1 FX.2.1 dX0_orElsePlain_14 rfl (lv_at hl 2 rfl) ?_
  refine c_RDs FX (r_X0_firstFull l D cI cB (g p1.toNatClampNeg) n1) mi_X0_firstFull rfl ml_RX0_52 (RMok.mk) hl.1 rfl (Nat.le_of_ble_eq_true rfl) dX0_orElsePlain_15 (by decide) hK hP [] rfl ?_
  exact retRD FX hr hlk dX0_orElsePlain_18 rfl (by rw [v_X0_orElsePlain])
set_option maxRecDepth 100000 in
set_option maxHeartbeats 4000000 in
theorem x_X0_orElsePlain (l : Launch) (hl0 : l.stackTraces = false) (D : va_G) (cI cB : ClassId) (x bx px tx : Nat) (f g : Nat → Int32) (ak su gt lf rf kn : Int32) (p1 : Int32) (n1 : Int32) (h : ¬ e_X0_orElsePlain p1 n1 = 0) : XT l yX0_orElsePlain cX0_orElsePlain 3 (some .int) ({ frames := 7, cells := 1, slots := 6, locals := 110 } : Room) D cI cB [.ref x, .int p1, .int n1] (wX cI x bx px tx f g ak su gt lf rf kn) (e_X0_orElsePlain p1 n1) := by
  refine bodyXT (by decide) (Nat.le_of_ble_eq_true rfl) (fun p e s m args below meth c ls Z => ?_)
  obtain ⟨FX, hr, hlk, hK, hP, hz, htab, hl⟩ := Z
  have hl : lv_has ls 3 [(0, .ref x), (1, .int p1), (2, .int n1)] := hl
  refine lv_iload_n FX.1 FX.2.1 dX0_orElsePlain_0 rfl (lv_at hl 1 rfl) ?_
  by_cases q_1 : (e_X0_needPlain p1) = 0
  · refine c_RDvs FX (r_X0_needPlain l D cI cB p1 q_1) mi_X0_needPlain rfl ml_RX0_85 (RMok.mk) hl.1 rfl (Nat.le_of_ble_eq_true rfl) dX0_orElsePlain_1 (by decide) hK hP [] rfl ?_
    refine lv_iload_n FX.1 FX.2.1 dX0_orElsePlain_4 rfl (lv_at hl 2 rfl) ?_
    by_cases q_2 : (e_X0_needNumber n1) = 0
    · refine c_RDvs FX (r_X0_needNumber l D cI cB n1 q_2) mi_X0_needNumber rfl ml_RX0_27 (RMok.mk) hl.1 rfl (Nat.le_of_ble_eq_true rfl) dX0_orElsePlain_5 (by decide) hK hP [] rfl ?_
      exact absurd (by rw [e_X0_orElsePlain, if_pos q_1, if_pos q_2]) h
    · exact thr_s FX htab hlk (x_X0_needNumber l hl0 D cI cB n1 q_2) mi_X0_needNumber rfl ml_RX0_27 (RMok.mk) hl.1 rfl (Nat.le_of_ble_eq_true rfl) dX0_orElsePlain_5 (by decide) hK hP [] rfl hz (by rw [e_X0_orElsePlain, if_pos q_1, if_neg q_2])
  · exact thr_s FX htab hlk (x_X0_needPlain l hl0 D cI cB p1 q_1) mi_X0_needPlain rfl ml_RX0_85 (RMok.mk) hl.1 rfl (Nat.le_of_ble_eq_true rfl) dX0_orElsePlain_1 (by decide) hK hP [] rfl hz (by rw [e_X0_orElsePlain, if_neg q_1])
def e_X0_isFullPlain (p1 : Int32) : Nat := if (e_X0_needPlain p1) = 0 then 0 else e_X0_needPlain p1
def v_X0_isFullPlain (p1 : Int32) (g : Nat → Int32) : Int32 := if (g p1.toNatClampNeg) = (-10000) then 0 else 1
set_option maxRecDepth 100000 in
set_option maxHeartbeats 4000000 in
theorem r_X0_isFullPlain (l : Launch) (D : va_G) (cI cB : ClassId) (x bx px tx : Nat) (f g : Nat → Int32) (ak su gt lf rf kn : Int32) (p1 : Int32) (h : e_X0_isFullPlain p1 = 0) : RD l yX0_isFullPlain cX0_isFullPlain 2 (some .boolean) ({ frames := 1, cells := 0, slots := 0, locals := 20 } : Room) D cI cB [.ref x, .int p1] (wX cI x bx px tx f g ak su gt lf rf kn) (v_X0_isFullPlain p1 g) := by
  refine bodyRD (by decide +kernel) (Nat.le_of_ble_eq_true rfl) (fun p e s m args below meth c ls FX hr hlk hK hP hl => ?_)
  have hl : lv_has ls 2 [(0, .ref x), (1, .int p1)] := hl
  refine lv_iload_n FX.1 FX.2.1 dX0_isFullPlain_0 rfl (lv_at hl 1 rfl) ?_
  have q_1 : (e_X0_needPlain p1) = 0 := Decidable.byContradiction (fun z => absurd h (by rw [e_X0_isFullPlain, if_neg z]; exact z))
  refine c_RDvs FX (r_X0_needPlain l D cI cB p1 q_1) mi_X0_needPlain rfl ml_RX0_85 (RMok.mk) hl.1 rfl (Nat.le_of_ble_eq_true rfl) dX0_isFullPlain_1 (by decide) hK hP [] rfl ?_
  refine lv_aload_n FX.1 FX.2.1 dX0_isFullPlain_4 rfl (lv_at hl 0 rfl) ?_
  refine va_get (D := D) (ci := 2) (v := .ref px) (C := RX0) (T := TX0) (N := 9) FX.1 FX.2.1 FX.2.2.2.2 inX0 FX.2.2.2.1 hK hP 0 rfl rfl 1 (by decide) (FX.2.2.2.2 _ fl_RX0_13) (fun _ h9 => h9) rfl dX0_isFullPlain_5 ?_
  refine lv_iload_n FX.1 FX.2.1 dX0_isFullPlain_8 rfl (lv_at hl 1 rfl) ?_
  refine p_iald (v := g p1.toNatClampNeg) FX hK hP 2 rfl (in_X0_needPlain q_1) dX0_isFullPlain_9 rfl ?_
  refine lv_sipush (v := (-10000)) FX.1 FX.2.1 dX0_isFullPlain_10 (by decide) ?_
  refine lv_icmp_eq (tgt := 20) FX.1 FX.2.1 dX0_isFullPlain_13 (by decide) (fun c_2 => ?_) (fun c_2 => ?_)
  · refine lv_iconst (v := 0) FX.1 FX.2.1 dX0_isFullPlain_20 (by decide) ?_
    exact retRD FX hr hlk dX0_isFullPlain_21 rfl (by rw [v_X0_isFullPlain, if_pos c_2])
  · refine lv_iconst (v := 1) FX.1 FX.2.1 dX0_isFullPlain_16 (by decide) ?_
    refine lv_goto (tgt := 21) FX.1 FX.2.1 dX0_isFullPlain_17 (by decide) ?_
    exact retRD FX hr hlk dX0_isFullPlain_21 rfl (by rw [v_X0_isFullPlain, if_neg c_2])
theorem b01_v_X0_isFullPlain (p1 : Int32) (g : Nat → Int32) : is01 (v_X0_isFullPlain p1 g) := by
  unfold v_X0_isFullPlain
  repeat' split
  all_goals first | exact Or.inl rfl | exact Or.inr rfl
set_option maxRecDepth 100000 in
set_option maxHeartbeats 4000000 in
theorem x_X0_isFullPlain (l : Launch) (hl0 : l.stackTraces = false) (D : va_G) (cI cB : ClassId) (x bx px tx : Nat) (f g : Nat → Int32) (ak su gt lf rf kn : Int32) (p1 : Int32) (h : ¬ e_X0_isFullPlain p1 = 0) : XT l yX0_isFullPlain cX0_isFullPlain 2 (some .boolean) ({ frames := 7, cells := 1, slots := 6, locals := 110 } : Room) D cI cB [.ref x, .int p1] (wX cI x bx px tx f g ak su gt lf rf kn) (e_X0_isFullPlain p1) := by
  refine bodyXT (by decide) (Nat.le_of_ble_eq_true rfl) (fun p e s m args below meth c ls Z => ?_)
  obtain ⟨FX, hr, hlk, hK, hP, hz, htab, hl⟩ := Z
  have hl : lv_has ls 2 [(0, .ref x), (1, .int p1)] := hl
  refine lv_iload_n FX.1 FX.2.1 dX0_isFullPlain_0 rfl (lv_at hl 1 rfl) ?_
  by_cases q_1 : (e_X0_needPlain p1) = 0
  · refine c_RDvs FX (r_X0_needPlain l D cI cB p1 q_1) mi_X0_needPlain rfl ml_RX0_85 (RMok.mk) hl.1 rfl (Nat.le_of_ble_eq_true rfl) dX0_isFullPlain_1 (by decide) hK hP [] rfl ?_
    exact absurd (by rw [e_X0_isFullPlain, if_pos q_1]) h
  · exact thr_s FX htab hlk (x_X0_needPlain l hl0 D cI cB p1 q_1) mi_X0_needPlain rfl ml_RX0_85 (RMok.mk) hl.1 rfl (Nat.le_of_ble_eq_true rfl) dX0_isFullPlain_1 (by decide) hK hP [] rfl hz (by rw [e_X0_isFullPlain, if_neg q_1])
def e_X0_takePlain (p1 : Int32) : Nat := if (e_X0_needPlain p1) = 0 then 0 else e_X0_needPlain p1
def v_X0_takePlain (p1 : Int32) (g : Nat → Int32) (su : Int32) : Int32 := wsu_X0_giveToTaker (g p1.toNatClampNeg) su
def wak_X0_takePlain (p1 : Int32) (g : Nat → Int32) (ak : Int32) : Int32 := wak_X0_giveToTaker (g p1.toNatClampNeg) ak
def wsu_X0_takePlain (p1 : Int32) (g : Nat → Int32) (su : Int32) : Int32 := wsu_X0_giveToTaker (g p1.toNatClampNeg) su
def wgt_X0_takePlain (p1 : Int32) (g : Nat → Int32) (gt : Int32) : Int32 := wgt_X0_giveToTaker (g p1.toNatClampNeg) gt
set_option maxRecDepth 100000 in
set_option maxHeartbeats 4000000 in
theorem k_X0_takePlain (l : Launch) (D : va_G) (cI cB : ClassId) (x bx px tx : Nat) (f g : Nat → Int32) (ak su gt lf rf kn : Int32) (p1 : Int32) (h : e_X0_takePlain p1 = 0) : WR l yX0_takePlain cX0_takePlain 2 (some .int) ({ frames := 1, cells := 0, slots := 0, locals := 21 } : Room) D cI cB [.ref x, .int p1] (wX cI x bx px tx f g ak su gt lf rf kn) (v_X0_takePlain p1 g su) (wX cI x bx px tx f g (wak_X0_takePlain p1 g ak) (wsu_X0_takePlain p1 g su) (wgt_X0_takePlain p1 g gt) lf rf kn) 0 0 := by
  refine bodyWR (by decide +kernel) (Nat.le_of_ble_eq_true rfl) (fun p e s m args below meth c ls A Z => ?_)
  obtain ⟨FX, hr, hlk, hK, hP, hD, hS, hA, hl⟩ := Z
  have hl : lv_has ls 2 [(0, .ref x), (1, .int p1)] := hl
  refine lv_iload_n FX.1 FX.2.1 dX0_takePlain_0 rfl (lv_at hl 1 rfl) ?_
  have q_1 : (e_X0_needPlain p1) = 0 := Decidable.byContradiction (fun z => absurd h (by rw [e_X0_takePlain, if_neg z]; exact z))
  refine c_RDvs FX (r_X0_needPlain l D cI cB p1 q_1) mi_X0_needPlain rfl ml_RX0_85 (RMok.mk) hl.1 rfl (Nat.le_of_ble_eq_true rfl) dX0_takePlain_1 (by decide) hK hP [] rfl ?_
  refine lv_aload_n FX.1 FX.2.1 dX0_takePlain_4 rfl (lv_at hl 0 rfl) ?_
  refine lv_aload_n FX.1 FX.2.1 dX0_takePlain_5 rfl (lv_at hl 0 rfl) ?_
  refine va_get (D := D) (ci := 2) (v := .ref px) (C := RX0) (T := TX0) (N := 9) FX.1 FX.2.1 FX.2.2.2.2 inX0 FX.2.2.2.1 hK hP 0 rfl rfl 1 (by decide) (FX.2.2.2.2 _ fl_RX0_13) (fun _ h9 => h9) rfl dX0_takePlain_6 ?_
  refine lv_iload_n FX.1 FX.2.1 dX0_takePlain_9 rfl (lv_at hl 1 rfl) ?_
  refine p_iald (v := g p1.toNatClampNeg) FX hK hP 2 rfl (in_X0_needPlain q_1) dX0_takePlain_10 rfl ?_
  refine c_WRvV (wr := []) (wsN := (wX cI x bx px tx f g (wak_X0_giveToTaker (g p1.toNatClampNeg) ak) (wsu_X0_giveToTaker (g p1.toNatClampNeg) su) (wgt_X0_giveToTaker (g p1.toNatClampNeg) gt) lf rf kn)) (i0 := 0) (ci := 2) FX (k_X0_giveToTaker l D cI cB x bx px tx f g ak su gt lf rf kn (g p1.toNatClampNeg)) mi_X0_giveToTaker rfl ml_RX0_59 (RMok.mk) hl.1 rfl (Nat.le_of_ble_eq_true rfl) dX0_takePlain_11 (by decide) hK hP hD hS hA [0, 1, 2] rfl [] rfl rfl (by decide) [0, 1, 2] rfl rfl rfl rfl rfl (fun H locs hP hD hS => ?_)
  refine lv_aload_n FX.1 FX.2.1 dX0_takePlain_14 rfl (lv_at hl 0 rfl) ?_
  refine va_get (D := D) (ci := 2) (v := .int (wsu_X0_giveToTaker (g p1.toNatClampNeg) su)) (C := RX0) (T := TX0) (N := 9) FX.1 FX.2.1 FX.2.2.2.2 inX0 FX.2.2.2.1 hK hP 0 rfl rfl 4 (by decide) (FX.2.2.2.2 _ fl_RX0_62) (fun _ h9 => h9) rfl dX0_takePlain_15 ?_
  exact retWR FX hr hlk dX0_takePlain_18 rfl hP hK hD hS (by decide) (by decide) (by rw [v_X0_takePlain]) (by rw [wak_X0_takePlain, wsu_X0_takePlain, wgt_X0_takePlain])
set_option maxRecDepth 100000 in
set_option maxHeartbeats 4000000 in
theorem x_X0_takePlain (l : Launch) (hl0 : l.stackTraces = false) (D : va_G) (cI cB : ClassId) (x bx px tx : Nat) (f g : Nat → Int32) (ak su gt lf rf kn : Int32) (p1 : Int32) (h : ¬ e_X0_takePlain p1 = 0) : XT l yX0_takePlain cX0_takePlain 2 (some .int) ({ frames := 7, cells := 1, slots := 6, locals := 110 } : Room) D cI cB [.ref x, .int p1] (wX cI x bx px tx f g ak su gt lf rf kn) (e_X0_takePlain p1) := by
  refine bodyXT (by decide) (Nat.le_of_ble_eq_true rfl) (fun p e s m args below meth c ls Z => ?_)
  obtain ⟨FX, hr, hlk, hK, hP, hz, htab, hl⟩ := Z
  have hl : lv_has ls 2 [(0, .ref x), (1, .int p1)] := hl
  refine lv_iload_n FX.1 FX.2.1 dX0_takePlain_0 rfl (lv_at hl 1 rfl) ?_
  by_cases q_1 : (e_X0_needPlain p1) = 0
  · refine c_RDvs FX (r_X0_needPlain l D cI cB p1 q_1) mi_X0_needPlain rfl ml_RX0_85 (RMok.mk) hl.1 rfl (Nat.le_of_ble_eq_true rfl) dX0_takePlain_1 (by decide) hK hP [] rfl ?_
    exact absurd (by rw [e_X0_takePlain, if_pos q_1]) h
  · exact thr_s FX htab hlk (x_X0_needPlain l hl0 D cI cB p1 q_1) mi_X0_needPlain rfl ml_RX0_85 (RMok.mk) hl.1 rfl (Nat.le_of_ble_eq_true rfl) dX0_takePlain_1 (by decide) hK hP [] rfl hz (by rw [e_X0_takePlain, if_neg q_1])
def v_X0_arePlainLike (g : Nat → Int32) : Int32 := v_X0_alike (g 0) (g 1)
set_option maxRecDepth 100000 in
set_option maxHeartbeats 4000000 in
theorem r_X0_arePlainLike (l : Launch) (D : va_G) (cI cB : ClassId) (x bx px tx : Nat) (f g : Nat → Int32) (ak su gt lf rf kn : Int32) : RD l yX0_arePlainLike cX0_arePlainLike 1 (some .boolean) ({ frames := 1, cells := 0, slots := 0, locals := 21 } : Room) D cI cB [.ref x] (wX cI x bx px tx f g ak su gt lf rf kn) (v_X0_arePlainLike g) := by
  refine bodyRD (by decide +kernel) (Nat.le_of_ble_eq_true rfl) (fun p e s m args below meth c ls FX hr hlk hK hP hl => ?_)
  have hl : lv_has ls 1 [(0, .ref x)] := hl
  refine lv_aload_n FX.1 FX.2.1 dX0_arePlainLike_0 rfl (lv_at hl 0 rfl) ?_
  refine va_get (D := D) (ci := 2) (v := .ref px) (C := RX0) (T := TX0) (N := 9) FX.1 FX.2.1 FX.2.2.2.2 inX0 FX.2.2.2.1 hK hP 0 rfl rfl 1 (by decide) (FX.2.2.2.2 _ fl_RX0_13) (fun _ h9 => h9) rfl dX0_arePlainLike_1 ?_
  refine lv_iconst (v := 0) FX.1 FX.2.1 dX0_arePlainLike_4 (by decide) ?_
  refine p_iald (v := g 0) FX hK hP 2 rfl (vp_in_iff.mpr ⟨by decide, by decide⟩) dX0_arePlainLike_5 rfl ?_
  refine lv_aload_n FX.1 FX.2.1 dX0_arePlainLike_6 rfl (lv_at hl 0 rfl) ?_
  refine va_get (D := D) (ci := 2) (v := .ref px) (C := RX0) (T := TX0) (N := 9) FX.1 FX.2.1 FX.2.2.2.2 inX0 FX.2.2.2.1 hK hP 0 rfl rfl 1 (by decide) (FX.2.2.2.2 _ fl_RX0_13) (fun _ h9 => h9) rfl dX0_arePlainLike_7 ?_
  refine lv_iconst (v := 1) FX.1 FX.2.1 dX0_arePlainLike_10 (by decide) ?_
  refine p_iald (v := g 1) FX hK hP 2 rfl (vp_in_iff.mpr ⟨by decide, by decide⟩) dX0_arePlainLike_11 rfl ?_
  refine c_RDs FX (r_X0_alike l D cI cB (g 0) (g 1)) mi_X0_alike rfl ml_RX0_78 (RMok.mk) hl.1 rfl (Nat.le_of_ble_eq_true rfl) dX0_arePlainLike_12 (by decide) hK hP [] rfl ?_
  exact retRD FX hr hlk dX0_arePlainLike_15 (nz (b01_v_X0_alike _ _)) (by rw [v_X0_arePlainLike])
theorem b01_v_X0_arePlainLike (g : Nat → Int32) : is01 (v_X0_arePlainLike g) := by
  unfold v_X0_arePlainLike
  repeat' split
  all_goals first | with_reducible exact b01_v_X0_alike _ _ | exact Or.inl rfl | exact Or.inr rfl
def e_X0_toPlain (p1 : Int32) (b1 : Int32) : Nat := if (e_X0_needPlain p1) = 0 then (if (e_X0_needBox b1) = 0 then 0 else e_X0_needBox b1) else e_X0_needPlain p1
def v_X0_toPlain (p1 : Int32) (b1 : Int32) (f : Nat → Int32) (g : Nat → Int32) : Int32 := v_X0_fullness ((upd g p1.toNatClampNeg (f b1.toNatClampNeg)) p1.toNatClampNeg)
def wg_X0_toPlain (p1 : Int32) (b1 : Int32) (f : Nat → Int32) (g : Nat → Int32) : Nat → Int32 := upd g p1.toNatClampNeg (f b1.toNatClampNeg)
set_option maxRecDepth 100000 in
set_option maxHeartbeats 4000000 in
theorem k_X0_toPlain (l : Launch) (D : va_G) (cI cB : ClassId) (x bx px tx : Nat) (f g : Nat → Int32) (ak su gt lf rf kn : Int32) (p1 : Int32) (b1 : Int32) (h : e_X0_toPlain p1 b1 = 0) : WR l yX0_toPlain cX0_toPlain 3 (some .int) ({ frames := 1, cells := 0, slots := 0, locals := 20 } : Room) D cI cB [.ref x, .int p1, .int b1] (wX cI x bx px tx f g ak su gt lf rf kn) (v_X0_toPlain p1 b1 f g) (wX cI x bx px tx f (wg_X0_toPlain p1 b1 f g) ak su gt lf rf kn) 0 0 := by
  refine bodyWR (by decide +kernel) (Nat.le_of_ble_eq_true rfl) (fun p e s m args below meth c ls A Z => ?_)
  obtain ⟨FX, hr, hlk, hK, hP, hD, hS, hA, hl⟩ := Z
  have hl : lv_has ls 3 [(0, .ref x), (1, .int p1), (2, .int b1)] := hl
  refine lv_iload_n FX.1 FX.2.1 dX0_toPlain_0 rfl (lv_at hl 1 rfl) ?_
  have q_1 : (e_X0_needPlain p1) = 0 := Decidable.byContradiction (fun z => absurd h (by rw [e_X0_toPlain, if_neg z]; exact z))
  refine c_RDvs FX (r_X0_needPlain l D cI cB p1 q_1) mi_X0_needPlain rfl ml_RX0_85 (RMok.mk) hl.1 rfl (Nat.le_of_ble_eq_true rfl) dX0_toPlain_1 (by decide) hK hP [] rfl ?_
  refine lv_iload_n FX.1 FX.2.1 dX0_toPlain_4 rfl (lv_at hl 2 rfl) ?_
  have q_2 : (e_X0_needBox b1) = 0 := Decidable.byContradiction (fun z => absurd h (by rw [e_X0_toPlain, if_pos q_1, if_neg z]; exact z))
  refine c_RDvs FX (r_X0_needBox l D cI cB b1 q_2) mi_X0_needBox rfl ml_RX0_23 (RMok.mk) hl.1 rfl (Nat.le_of_ble_eq_true rfl) dX0_toPlain_5 (by decide) hK hP [] rfl ?_
  refine lv_aload_n FX.1 FX.2.1 dX0_toPlain_8 rfl (lv_at hl 0 rfl) ?_
  refine va_get (D := D) (ci := 2) (v := .ref px) (C := RX0) (T := TX0) (N := 9) FX.1 FX.2.1 FX.2.2.2.2 inX0 FX.2.2.2.1 hK hP 0 rfl rfl 1 (by decide) (FX.2.2.2.2 _ fl_RX0_13) (fun _ h9 => h9) rfl dX0_toPlain_9 ?_
  refine lv_iload_n FX.1 FX.2.1 dX0_toPlain_12 rfl (lv_at hl 1 rfl) ?_
  refine lv_aload_n FX.1 FX.2.1 dX0_toPlain_13 rfl (lv_at hl 0 rfl) ?_
  refine va_get (D := D) (ci := 2) (v := .ref bx) (C := RX0) (T := TX0) (N := 9) FX.1 FX.2.1 FX.2.2.2.2 inX0 FX.2.2.2.1 hK hP 0 rfl rfl 0 (by decide) (FX.2.2.2.2 _ fl_RX0_9) (fun _ h9 => h9) rfl dX0_toPlain_14 ?_
  refine lv_iload_n FX.1 FX.2.1 dX0_toPlain_17 rfl (lv_at hl 2 rfl) ?_
  refine p_iald (v := f b1.toNatClampNeg) FX hK hP 1 rfl (in_X0_needBox q_2) dX0_toPlain_18 rfl ?_
  refine p_iast (wsN := (wX cI x bx px tx f (upd g p1.toNatClampNeg (f b1.toNatClampNeg)) ak su gt lf rf kn)) FX hK hP hD hS 2 rfl (in_X0_needPlain q_1) dX0_toPlain_19 rfl (fun H locs hP hD hS => ?_)
  refine lv_aload_n FX.1 FX.2.1 dX0_toPlain_20 rfl (lv_at hl 0 rfl) ?_
  refine va_get (D := D) (ci := 2) (v := .ref px) (C := RX0) (T := TX0) (N := 9) FX.1 FX.2.1 FX.2.2.2.2 inX0 FX.2.2.2.1 hK hP 0 rfl rfl 1 (by decide) (FX.2.2.2.2 _ fl_RX0_13) (fun _ h9 => h9) rfl dX0_toPlain_21 ?_
  refine lv_iload_n FX.1 FX.2.1 dX0_toPlain_24 rfl (lv_at hl 1 rfl) ?_
  refine p_iald (v := (upd g p1.toNatClampNeg (f b1.toNatClampNeg)) p1.toNatClampNeg) FX hK hP 2 rfl (in_X0_needPlain q_1) dX0_toPlain_25 rfl ?_
  refine c_RDs FX (r_X0_fullness l D cI cB ((upd g p1.toNatClampNeg (f b1.toNatClampNeg)) p1.toNatClampNeg)) mi_X0_fullness rfl ml_RX0_30 (RMok.mk) hl.1 rfl (Nat.le_of_ble_eq_true rfl) dX0_toPlain_26 (by decide) hK hP [] rfl ?_
  exact retWR FX hr hlk dX0_toPlain_29 rfl hP hK hD hS (by decide) (by decide) (by rw [v_X0_toPlain]) (by rw [wg_X0_toPlain])
set_option maxRecDepth 100000 in
set_option maxHeartbeats 4000000 in
theorem x_X0_toPlain (l : Launch) (hl0 : l.stackTraces = false) (D : va_G) (cI cB : ClassId) (x bx px tx : Nat) (f g : Nat → Int32) (ak su gt lf rf kn : Int32) (p1 : Int32) (b1 : Int32) (h : ¬ e_X0_toPlain p1 b1 = 0) : XT l yX0_toPlain cX0_toPlain 3 (some .int) ({ frames := 7, cells := 1, slots := 6, locals := 110 } : Room) D cI cB [.ref x, .int p1, .int b1] (wX cI x bx px tx f g ak su gt lf rf kn) (e_X0_toPlain p1 b1) := by
  refine bodyXT (by decide) (Nat.le_of_ble_eq_true rfl) (fun p e s m args below meth c ls Z => ?_)
  obtain ⟨FX, hr, hlk, hK, hP, hz, htab, hl⟩ := Z
  have hl : lv_has ls 3 [(0, .ref x), (1, .int p1), (2, .int b1)] := hl
  refine lv_iload_n FX.1 FX.2.1 dX0_toPlain_0 rfl (lv_at hl 1 rfl) ?_
  by_cases q_1 : (e_X0_needPlain p1) = 0
  · refine c_RDvs FX (r_X0_needPlain l D cI cB p1 q_1) mi_X0_needPlain rfl ml_RX0_85 (RMok.mk) hl.1 rfl (Nat.le_of_ble_eq_true rfl) dX0_toPlain_1 (by decide) hK hP [] rfl ?_
    refine lv_iload_n FX.1 FX.2.1 dX0_toPlain_4 rfl (lv_at hl 2 rfl) ?_
    by_cases q_2 : (e_X0_needBox b1) = 0
    · refine c_RDvs FX (r_X0_needBox l D cI cB b1 q_2) mi_X0_needBox rfl ml_RX0_23 (RMok.mk) hl.1 rfl (Nat.le_of_ble_eq_true rfl) dX0_toPlain_5 (by decide) hK hP [] rfl ?_
      exact absurd (by rw [e_X0_toPlain, if_pos q_1, if_pos q_2]) h
    · exact thr_s FX htab hlk (x_X0_needBox l hl0 D cI cB b1 q_2) mi_X0_needBox rfl ml_RX0_23 (RMok.mk) hl.1 rfl (Nat.le_of_ble_eq_true rfl) dX0_toPlain_5 (by decide) hK hP [] rfl hz (by rw [e_X0_toPlain, if_pos q_1, if_neg q_2])
  · exact thr_s FX htab hlk (x_X0_needPlain l hl0 D cI cB p1 q_1) mi_X0_needPlain rfl ml_RX0_85 (RMok.mk) hl.1 rfl (Nat.le_of_ble_eq_true rfl) dX0_toPlain_1 (by decide) hK hP [] rfl hz (by rw [e_X0_toPlain, if_neg q_1])
def e_X0_fromPlain (b1 : Int32) (p1 : Int32) : Nat := if (e_X0_needBox b1) = 0 then (if (e_X0_needPlain p1) = 0 then 0 else e_X0_needPlain p1) else e_X0_needBox b1
def v_X0_fromPlain (b1 : Int32) (p1 : Int32) (f : Nat → Int32) (g : Nat → Int32) : Int32 := v_X0_fullness ((upd f b1.toNatClampNeg (g p1.toNatClampNeg)) b1.toNatClampNeg)
def wf_X0_fromPlain (b1 : Int32) (p1 : Int32) (f : Nat → Int32) (g : Nat → Int32) : Nat → Int32 := upd f b1.toNatClampNeg (g p1.toNatClampNeg)
set_option maxRecDepth 100000 in
set_option maxHeartbeats 4000000 in
theorem k_X0_fromPlain (l : Launch) (D : va_G) (cI cB : ClassId) (x bx px tx : Nat) (f g : Nat → Int32) (ak su gt lf rf kn : Int32) (b1 : Int32) (p1 : Int32) (h : e_X0_fromPlain b1 p1 = 0) : WR l yX0_fromPlain cX0_fromPlain 3 (some .int) ({ frames := 1, cells := 0, slots := 0, locals := 20 } : Room) D cI cB [.ref x, .int b1, .int p1] (wX cI x bx px tx f g ak su gt lf rf kn) (v_X0_fromPlain b1 p1 f g) (wX cI x bx px tx (wf_X0_fromPlain b1 p1 f g) g ak su gt lf rf kn) 0 0 := by
  refine bodyWR (by decide +kernel) (Nat.le_of_ble_eq_true rfl) (fun p e s m args below meth c ls A Z => ?_)
  obtain ⟨FX, hr, hlk, hK, hP, hD, hS, hA, hl⟩ := Z
  have hl : lv_has ls 3 [(0, .ref x), (1, .int b1), (2, .int p1)] := hl
  refine lv_iload_n FX.1 FX.2.1 dX0_fromPlain_0 rfl (lv_at hl 1 rfl) ?_
  have q_1 : (e_X0_needBox b1) = 0 := Decidable.byContradiction (fun z => absurd h (by rw [e_X0_fromPlain, if_neg z]; exact z))
  refine c_RDvs FX (r_X0_needBox l D cI cB b1 q_1) mi_X0_needBox rfl ml_RX0_23 (RMok.mk) hl.1 rfl (Nat.le_of_ble_eq_true rfl) dX0_fromPlain_1 (by decide) hK hP [] rfl ?_
  refine lv_iload_n FX.1 FX.2.1 dX0_fromPlain_4 rfl (lv_at hl 2 rfl) ?_
  have q_2 : (e_X0_needPlain p1) = 0 := Decidable.byContradiction (fun z => absurd h (by rw [e_X0_fromPlain, if_pos q_1, if_neg z]; exact z))
  refine c_RDvs FX (r_X0_needPlain l D cI cB p1 q_2) mi_X0_needPlain rfl ml_RX0_85 (RMok.mk) hl.1 rfl (Nat.le_of_ble_eq_true rfl) dX0_fromPlain_5 (by decide) hK hP [] rfl ?_
  refine lv_aload_n FX.1 FX.2.1 dX0_fromPlain_8 rfl (lv_at hl 0 rfl) ?_
  refine va_get (D := D) (ci := 2) (v := .ref bx) (C := RX0) (T := TX0) (N := 9) FX.1 FX.2.1 FX.2.2.2.2 inX0 FX.2.2.2.1 hK hP 0 rfl rfl 0 (by decide) (FX.2.2.2.2 _ fl_RX0_9) (fun _ h9 => h9) rfl dX0_fromPlain_9 ?_
  refine lv_iload_n FX.1 FX.2.1 dX0_fromPlain_12 rfl (lv_at hl 1 rfl) ?_
  refine lv_aload_n FX.1 FX.2.1 dX0_fromPlain_13 rfl (lv_at hl 0 rfl) ?_
  refine va_get (D := D) (ci := 2) (v := .ref px) (C := RX0) (T := TX0) (N := 9) FX.1 FX.2.1 FX.2.2.2.2 inX0 FX.2.2.2.1 hK hP 0 rfl rfl 1 (by decide) (FX.2.2.2.2 _ fl_RX0_13) (fun _ h9 => h9) rfl dX0_fromPlain_14 ?_
  refine lv_iload_n FX.1 FX.2.1 dX0_fromPlain_17 rfl (lv_at hl 2 rfl) ?_
  refine p_iald (v := g p1.toNatClampNeg) FX hK hP 2 rfl (in_X0_needPlain q_2) dX0_fromPlain_18 rfl ?_
  refine p_iast (wsN := (wX cI x bx px tx (upd f b1.toNatClampNeg (g p1.toNatClampNeg)) g ak su gt lf rf kn)) FX hK hP hD hS 1 rfl (in_X0_needBox q_1) dX0_fromPlain_19 rfl (fun H locs hP hD hS => ?_)
  refine lv_aload_n FX.1 FX.2.1 dX0_fromPlain_20 rfl (lv_at hl 0 rfl) ?_
  refine va_get (D := D) (ci := 2) (v := .ref bx) (C := RX0) (T := TX0) (N := 9) FX.1 FX.2.1 FX.2.2.2.2 inX0 FX.2.2.2.1 hK hP 0 rfl rfl 0 (by decide) (FX.2.2.2.2 _ fl_RX0_9) (fun _ h9 => h9) rfl dX0_fromPlain_21 ?_
  refine lv_iload_n FX.1 FX.2.1 dX0_fromPlain_24 rfl (lv_at hl 1 rfl) ?_
  refine p_iald (v := (upd f b1.toNatClampNeg (g p1.toNatClampNeg)) b1.toNatClampNeg) FX hK hP 1 rfl (in_X0_needBox q_1) dX0_fromPlain_25 rfl ?_
  refine c_RDs FX (r_X0_fullness l D cI cB ((upd f b1.toNatClampNeg (g p1.toNatClampNeg)) b1.toNatClampNeg)) mi_X0_fullness rfl ml_RX0_30 (RMok.mk) hl.1 rfl (Nat.le_of_ble_eq_true rfl) dX0_fromPlain_26 (by decide) hK hP [] rfl ?_
  exact retWR FX hr hlk dX0_fromPlain_29 rfl hP hK hD hS (by decide) (by decide) (by rw [v_X0_fromPlain]) (by rw [wf_X0_fromPlain])
set_option maxRecDepth 100000 in
set_option maxHeartbeats 4000000 in
theorem x_X0_fromPlain (l : Launch) (hl0 : l.stackTraces = false) (D : va_G) (cI cB : ClassId) (x bx px tx : Nat) (f g : Nat → Int32) (ak su gt lf rf kn : Int32) (b1 : Int32) (p1 : Int32) (h : ¬ e_X0_fromPlain b1 p1 = 0) : XT l yX0_fromPlain cX0_fromPlain 3 (some .int) ({ frames := 7, cells := 1, slots := 6, locals := 110 } : Room) D cI cB [.ref x, .int b1, .int p1] (wX cI x bx px tx f g ak su gt lf rf kn) (e_X0_fromPlain b1 p1) := by
  refine bodyXT (by decide) (Nat.le_of_ble_eq_true rfl) (fun p e s m args below meth c ls Z => ?_)
  obtain ⟨FX, hr, hlk, hK, hP, hz, htab, hl⟩ := Z
  have hl : lv_has ls 3 [(0, .ref x), (1, .int b1), (2, .int p1)] := hl
  refine lv_iload_n FX.1 FX.2.1 dX0_fromPlain_0 rfl (lv_at hl 1 rfl) ?_
  by_cases q_1 : (e_X0_needBox b1) = 0
  · refine c_RDvs FX (r_X0_needBox l D cI cB b1 q_1) mi_X0_needBox rfl ml_RX0_23 (RMok.mk) hl.1 rfl (Nat.le_of_ble_eq_true rfl) dX0_fromPlain_1 (by decide) hK hP [] rfl ?_
    refine lv_iload_n FX.1 FX.2.1 dX0_fromPlain_4 rfl (lv_at hl 2 rfl) ?_
    by_cases q_2 : (e_X0_needPlain p1) = 0
    · refine c_RDvs FX (r_X0_needPlain l D cI cB p1 q_2) mi_X0_needPlain rfl ml_RX0_85 (RMok.mk) hl.1 rfl (Nat.le_of_ble_eq_true rfl) dX0_fromPlain_5 (by decide) hK hP [] rfl ?_
      exact absurd (by rw [e_X0_fromPlain, if_pos q_1, if_pos q_2]) h
    · exact thr_s FX htab hlk (x_X0_needPlain l hl0 D cI cB p1 q_2) mi_X0_needPlain rfl ml_RX0_85 (RMok.mk) hl.1 rfl (Nat.le_of_ble_eq_true rfl) dX0_fromPlain_5 (by decide) hK hP [] rfl hz (by rw [e_X0_fromPlain, if_pos q_1, if_neg q_2])
  · exact thr_s FX htab hlk (x_X0_needBox l hl0 D cI cB b1 q_1) mi_X0_needBox rfl ml_RX0_23 (RMok.mk) hl.1 rfl (Nat.le_of_ble_eq_true rfl) dX0_fromPlain_1 (by decide) hK hP [] rfl hz (by rw [e_X0_fromPlain, if_neg q_1])
def e_X0_areLike (b1 : Int32) (b2 : Int32) : Nat := if (e_X0_needBox b1) = 0 then (if (e_X0_needBox b2) = 0 then 0 else e_X0_needBox b2) else e_X0_needBox b1
def v_X0_areLike (b1 : Int32) (b2 : Int32) (f : Nat → Int32) : Int32 := v_X0_alike (f b1.toNatClampNeg) (f b2.toNatClampNeg)
set_option maxRecDepth 100000 in
set_option maxHeartbeats 4000000 in
theorem r_X0_areLike (l : Launch) (D : va_G) (cI cB : ClassId) (x bx px tx : Nat) (f g : Nat → Int32) (ak su gt lf rf kn : Int32) (b1 : Int32) (b2 : Int32) (h : e_X0_areLike b1 b2 = 0) : RD l yX0_areLike cX0_areLike 3 (some .boolean) ({ frames := 1, cells := 0, slots := 0, locals := 21 } : Room) D cI cB [.ref x, .int b1, .int b2] (wX cI x bx px tx f g ak su gt lf rf kn) (v_X0_areLike b1 b2 f) := by
  refine bodyRD (by decide +kernel) (Nat.le_of_ble_eq_true rfl) (fun p e s m args below meth c ls FX hr hlk hK hP hl => ?_)
  have hl : lv_has ls 3 [(0, .ref x), (1, .int b1), (2, .int b2)] := hl
  refine lv_iload_n FX.1 FX.2.1 dX0_areLike_0 rfl (lv_at hl 1 rfl) ?_
  have q_1 : (e_X0_needBox b1) = 0 := Decidable.byContradiction (fun z => absurd h (by rw [e_X0_areLike, if_neg z]; exact z))
  refine c_RDvs FX (r_X0_needBox l D cI cB b1 q_1) mi_X0_needBox rfl ml_RX0_23 (RMok.mk) hl.1 rfl (Nat.le_of_ble_eq_true rfl) dX0_areLike_1 (by decide) hK hP [] rfl ?_
  refine lv_iload_n FX.1 FX.2.1 dX0_areLike_4 rfl (lv_at hl 2 rfl) ?_
  have q_2 : (e_X0_needBox b2) = 0 := Decidable.byContradiction (fun z => absurd h (by rw [e_X0_areLike, if_pos q_1, if_neg z]; exact z))
  refine c_RDvs FX (r_X0_needBox l D cI cB b2 q_2) mi_X0_needBox rfl ml_RX0_23 (RMok.mk) hl.1 rfl (Nat.le_of_ble_eq_true rfl) dX0_areLike_5 (by decide) hK hP [] rfl ?_
  refine lv_aload_n FX.1 FX.2.1 dX0_areLike_8 rfl (lv_at hl 0 rfl) ?_
  refine va_get (D := D) (ci := 2) (v := .ref bx) (C := RX0) (T := TX0) (N := 9) FX.1 FX.2.1 FX.2.2.2.2 inX0 FX.2.2.2.1 hK hP 0 rfl rfl 0 (by decide) (FX.2.2.2.2 _ fl_RX0_9) (fun _ h9 => h9) rfl dX0_areLike_9 ?_
  refine lv_iload_n FX.1 FX.2.1 dX0_areLike_12 rfl (lv_at hl 1 rfl) ?_
  refine p_iald (v := f b1.toNatClampNeg) FX hK hP 1 rfl (in_X0_needBox q_1) dX0_areLike_13 rfl ?_
  refine lv_aload_n FX.1 FX.2.1 dX0_areLike_14 rfl (lv_at hl 0 rfl) ?_
  refine va_get (D := D) (ci := 2) (v := .ref bx) (C := RX0) (T := TX0) (N := 9) FX.1 FX.2.1 FX.2.2.2.2 inX0 FX.2.2.2.1 hK hP 0 rfl rfl 0 (by decide) (FX.2.2.2.2 _ fl_RX0_9) (fun _ h9 => h9) rfl dX0_areLike_15 ?_
  refine lv_iload_n FX.1 FX.2.1 dX0_areLike_18 rfl (lv_at hl 2 rfl) ?_
  refine p_iald (v := f b2.toNatClampNeg) FX hK hP 1 rfl (in_X0_needBox q_2) dX0_areLike_19 rfl ?_
  refine c_RDs FX (r_X0_alike l D cI cB (f b1.toNatClampNeg) (f b2.toNatClampNeg)) mi_X0_alike rfl ml_RX0_78 (RMok.mk) hl.1 rfl (Nat.le_of_ble_eq_true rfl) dX0_areLike_20 (by decide) hK hP [] rfl ?_
  exact retRD FX hr hlk dX0_areLike_23 (nz (b01_v_X0_alike _ _)) (by rw [v_X0_areLike])
theorem b01_v_X0_areLike (b1 : Int32) (b2 : Int32) (f : Nat → Int32) : is01 (v_X0_areLike b1 b2 f) := by
  unfold v_X0_areLike
  repeat' split
  all_goals first | with_reducible exact b01_v_X0_alike _ _ | exact Or.inl rfl | exact Or.inr rfl
set_option maxRecDepth 100000 in
set_option maxHeartbeats 4000000 in
theorem x_X0_areLike (l : Launch) (hl0 : l.stackTraces = false) (D : va_G) (cI cB : ClassId) (x bx px tx : Nat) (f g : Nat → Int32) (ak su gt lf rf kn : Int32) (b1 : Int32) (b2 : Int32) (h : ¬ e_X0_areLike b1 b2 = 0) : XT l yX0_areLike cX0_areLike 3 (some .boolean) ({ frames := 7, cells := 1, slots := 6, locals := 110 } : Room) D cI cB [.ref x, .int b1, .int b2] (wX cI x bx px tx f g ak su gt lf rf kn) (e_X0_areLike b1 b2) := by
  refine bodyXT (by decide) (Nat.le_of_ble_eq_true rfl) (fun p e s m args below meth c ls Z => ?_)
  obtain ⟨FX, hr, hlk, hK, hP, hz, htab, hl⟩ := Z
  have hl : lv_has ls 3 [(0, .ref x), (1, .int b1), (2, .int b2)] := hl
  refine lv_iload_n FX.1 FX.2.1 dX0_areLike_0 rfl (lv_at hl 1 rfl) ?_
  by_cases q_1 : (e_X0_needBox b1) = 0
  · refine c_RDvs FX (r_X0_needBox l D cI cB b1 q_1) mi_X0_needBox rfl ml_RX0_23 (RMok.mk) hl.1 rfl (Nat.le_of_ble_eq_true rfl) dX0_areLike_1 (by decide) hK hP [] rfl ?_
    refine lv_iload_n FX.1 FX.2.1 dX0_areLike_4 rfl (lv_at hl 2 rfl) ?_
    by_cases q_2 : (e_X0_needBox b2) = 0
    · refine c_RDvs FX (r_X0_needBox l D cI cB b2 q_2) mi_X0_needBox rfl ml_RX0_23 (RMok.mk) hl.1 rfl (Nat.le_of_ble_eq_true rfl) dX0_areLike_5 (by decide) hK hP [] rfl ?_
      exact absurd (by rw [e_X0_areLike, if_pos q_1, if_pos q_2]) h
    · exact thr_s FX htab hlk (x_X0_needBox l hl0 D cI cB b2 q_2) mi_X0_needBox rfl ml_RX0_23 (RMok.mk) hl.1 rfl (Nat.le_of_ble_eq_true rfl) dX0_areLike_5 (by decide) hK hP [] rfl hz (by rw [e_X0_areLike, if_pos q_1, if_neg q_2])
  · exact thr_s FX htab hlk (x_X0_needBox l hl0 D cI cB b1 q_1) mi_X0_needBox rfl ml_RX0_23 (RMok.mk) hl.1 rfl (Nat.le_of_ble_eq_true rfl) dX0_areLike_1 (by decide) hK hP [] rfl hz (by rw [e_X0_areLike, if_neg q_1])
def e_X0_compare (b1 : Int32) (b2 : Int32) (k1 : Int32) : Nat := if (e_X0_needBox b1) = 0 then (if (e_X0_needBox b2) = 0 then (if (e_X0_needKind k1 3) = 0 then 0 else e_X0_needKind k1 3) else e_X0_needBox b2) else e_X0_needBox b1
def v_X0_compare (b1 : Int32) (b2 : Int32) (k1 : Int32) (f : Nat → Int32) : Int32 := if (v_X0_standing (f b1.toNatClampNeg) k1) = (v_X0_standing (f b2.toNatClampNeg) k1) then 0 else (if (v_X0_standing (f b2.toNatClampNeg) k1) ≤ (v_X0_standing (f b1.toNatClampNeg) k1) then 1 else (-1))
set_option maxRecDepth 100000 in
set_option maxHeartbeats 4000000 in
theorem r_X0_compare (l : Launch) (D : va_G) (cI cB : ClassId) (x bx px tx : Nat) (f g : Nat → Int32) (ak su gt lf rf kn : Int32) (b1 : Int32) (b2 : Int32) (k1 : Int32) (h : e_X0_compare b1 b2 k1 = 0) : RD l yX0_compare cX0_compare 6 (some .int) ({ frames := 2, cells := 0, slots := 0, locals := 46 } : Room) D cI cB [.ref x, .int b1, .int b2, .int k1] (wX cI x bx px tx f g ak su gt lf rf kn) (v_X0_compare b1 b2 k1 f) := by
  refine bodyRD (by decide +kernel) (Nat.le_of_ble_eq_true rfl) (fun p e s m args below meth c ls FX hr hlk hK hP hl => ?_)
  have hl : lv_has ls 6 [(0, .ref x), (1, .int b1), (2, .int b2), (3, .int k1)] := hl
  refine lv_iload_n FX.1 FX.2.1 dX0_compare_0 rfl (lv_at hl 1 rfl) ?_
  have q_1 : (e_X0_needBox b1) = 0 := Decidable.byContradiction (fun z => absurd h (by rw [e_X0_compare, if_neg z]; exact z))
  refine c_RDvs FX (r_X0_needBox l D cI cB b1 q_1) mi_X0_needBox rfl ml_RX0_23 (RMok.mk) hl.1 rfl (Nat.le_of_ble_eq_true rfl) dX0_compare_1 (by decide) hK hP [] rfl ?_
  refine lv_iload_n FX.1 FX.2.1 dX0_compare_4 rfl (lv_at hl 2 rfl) ?_
  have q_2 : (e_X0_needBox b2) = 0 := Decidable.byContradiction (fun z => absurd h (by rw [e_X0_compare, if_pos q_1, if_neg z]; exact z))
  refine c_RDvs FX (r_X0_needBox l D cI cB b2 q_2) mi_X0_needBox rfl ml_RX0_23 (RMok.mk) hl.1 rfl (Nat.le_of_ble_eq_true rfl) dX0_compare_5 (by decide) hK hP [] rfl ?_
  refine lv_iload_n FX.1 FX.2.1 dX0_compare_8 rfl (lv_at hl 3 rfl) ?_
  refine lv_iconst (v := 3) FX.1 FX.2.1 dX0_compare_9 (by decide) ?_
  have q_3 : (e_X0_needKind k1 3) = 0 := Decidable.byContradiction (fun z => absurd h (by rw [e_X0_compare, if_pos q_1, if_pos q_2, if_neg z]; exact z))
  refine c_RDvs FX (r_X0_needKind l D cI cB k1 3 q_3) mi_X0_needKind rfl ml_RX0_34 (RMok.mk) hl.1 rfl (Nat.le_of_ble_eq_true rfl) dX0_compare_10 (by decide) hK hP [] rfl ?_
  refine lv_aload_n FX.1 FX.2.1 dX0_compare_13 rfl (lv_at hl 0 rfl) ?_
  refine va_get (D := D) (ci := 2) (v := .ref bx) (C := RX0) (T := TX0) (N := 9) FX.1 FX.2.1 FX.2.2.2.2 inX0 FX.2.2.2.1 hK hP 0 rfl rfl 0 (by decide) (FX.2.2.2.2 _ fl_RX0_9) (fun _ h9 => h9) rfl dX0_compare_14 ?_
  refine lv_iload_n FX.1 FX.2.1 dX0_compare_17 rfl (lv_at hl 1 rfl) ?_
  refine p_iald (v := f b1.toNatClampNeg) FX hK hP 1 rfl (in_X0_needBox q_1) dX0_compare_18 rfl ?_
  refine lv_iload_n FX.1 FX.2.1 dX0_compare_19 rfl (lv_at hl 3 rfl) ?_
  refine c_RDs FX (r_X0_standing l D cI cB (f b1.toNatClampNeg) k1) mi_X0_standing rfl ml_RX0_88 (RMok.mk) hl.1 rfl (Nat.le_of_ble_eq_true rfl) dX0_compare_20 (by decide) hK hP [] rfl ?_
  refine lv_istore (lv' := [(4, .int (v_X0_standing (f b1.toNatClampNeg) k1)), (0, .ref x), (1, .int b1), (2, .int b2), (3, .int k1)]) FX.1 FX.2.1 dX0_compare_23 hl (by decide) rfl (fun ls hl => ?_)
  refine lv_aload_n FX.1 FX.2.1 dX0_compare_25 rfl (lv_at hl 1 rfl) ?_
  refine va_get (D := D) (ci := 2) (v := .ref bx) (C := RX0) (T := TX0) (N := 9) FX.1 FX.2.1 FX.2.2.2.2 inX0 FX.2.2.2.1 hK hP 0 rfl rfl 0 (by decide) (FX.2.2.2.2 _ fl_RX0_9) (fun _ h9 => h9) rfl dX0_compare_26 ?_
  refine lv_iload_n FX.1 FX.2.1 dX0_compare_29 rfl (lv_at hl 3 rfl) ?_
  refine p_iald (v := f b2.toNatClampNeg) FX hK hP 1 rfl (in_X0_needBox q_2) dX0_compare_30 rfl ?_
  refine lv_iload_n FX.1 FX.2.1 dX0_compare_31 rfl (lv_at hl 4 rfl) ?_
  refine c_RDs FX (r_X0_standing l D cI cB (f b2.toNatClampNeg) k1) mi_X0_standing rfl ml_RX0_88 (RMok.mk) hl.1 rfl (Nat.le_of_ble_eq_true rfl) dX0_compare_32 (by decide) hK hP [] rfl ?_
  refine lv_istore (lv' := [(5, .int (v_X0_standing (f b2.toNatClampNeg) k1)), (4, .int (v_X0_standing (f b1.toNatClampNeg) k1)), (0, .ref x), (1, .int b1), (2, .int b2), (3, .int k1)]) FX.1 FX.2.1 dX0_compare_35 hl (by decide) rfl (fun ls hl => ?_)
  refine lv_iload FX.1 FX.2.1 dX0_compare_37 (lv_at hl 1 rfl) ?_
  refine lv_iload FX.1 FX.2.1 dX0_compare_39 (lv_at hl 0 rfl) ?_
  refine lv_icmp_ne (tgt := 46) FX.1 FX.2.1 dX0_compare_41 (by decide) (fun c_4 => ?_) (fun c_4 => ?_)
  · refine lv_iload FX.1 FX.2.1 dX0_compare_46 (lv_at hl 1 rfl) ?_
    refine lv_iload FX.1 FX.2.1 dX0_compare_48 (lv_at hl 0 rfl) ?_
    refine lv_icmp_ge (tgt := 57) FX.1 FX.2.1 dX0_compare_50 (by decide) (fun c_5 => ?_) (fun c_5 => ?_)
    · refine lv_iconst (v := 1) FX.1 FX.2.1 dX0_compare_57 (by decide) ?_
      exact retRD FX hr hlk dX0_compare_58 rfl (by rw [v_X0_compare, if_neg c_4, if_pos c_5])
    · refine lv_iconst (v := (-1)) FX.1 FX.2.1 dX0_compare_53 (by decide) ?_
      refine lv_goto (tgt := 58) FX.1 FX.2.1 dX0_compare_54 (by decide) ?_
      exact retRD FX hr hlk dX0_compare_58 rfl (by rw [v_X0_compare, if_neg c_4, if_neg c_5])
  · refine lv_iconst (v := 0) FX.1 FX.2.1 dX0_compare_44 (by decide) ?_
    exact retRD FX hr hlk dX0_compare_45 rfl (by rw [v_X0_compare, if_pos c_4])
set_option maxRecDepth 100000 in
set_option maxHeartbeats 4000000 in
theorem x_X0_compare (l : Launch) (hl0 : l.stackTraces = false) (D : va_G) (cI cB : ClassId) (x bx px tx : Nat) (f g : Nat → Int32) (ak su gt lf rf kn : Int32) (b1 : Int32) (b2 : Int32) (k1 : Int32) (h : ¬ e_X0_compare b1 b2 k1 = 0) : XT l yX0_compare cX0_compare 6 (some .int) ({ frames := 7, cells := 1, slots := 6, locals := 111 } : Room) D cI cB [.ref x, .int b1, .int b2, .int k1] (wX cI x bx px tx f g ak su gt lf rf kn) (e_X0_compare b1 b2 k1) := by
  refine bodyXT (by decide) (Nat.le_of_ble_eq_true rfl) (fun p e s m args below meth c ls Z => ?_)
  obtain ⟨FX, hr, hlk, hK, hP, hz, htab, hl⟩ := Z
  have hl : lv_has ls 6 [(0, .ref x), (1, .int b1), (2, .int b2), (3, .int k1)] := hl
  refine lv_iload_n FX.1 FX.2.1 dX0_compare_0 rfl (lv_at hl 1 rfl) ?_
  by_cases q_1 : (e_X0_needBox b1) = 0
  · refine c_RDvs FX (r_X0_needBox l D cI cB b1 q_1) mi_X0_needBox rfl ml_RX0_23 (RMok.mk) hl.1 rfl (Nat.le_of_ble_eq_true rfl) dX0_compare_1 (by decide) hK hP [] rfl ?_
    refine lv_iload_n FX.1 FX.2.1 dX0_compare_4 rfl (lv_at hl 2 rfl) ?_
    by_cases q_2 : (e_X0_needBox b2) = 0
    · refine c_RDvs FX (r_X0_needBox l D cI cB b2 q_2) mi_X0_needBox rfl ml_RX0_23 (RMok.mk) hl.1 rfl (Nat.le_of_ble_eq_true rfl) dX0_compare_5 (by decide) hK hP [] rfl ?_
      refine lv_iload_n FX.1 FX.2.1 dX0_compare_8 rfl (lv_at hl 3 rfl) ?_
      refine lv_iconst (v := 3) FX.1 FX.2.1 dX0_compare_9 (by decide) ?_
      by_cases q_3 : (e_X0_needKind k1 3) = 0
      · refine c_RDvs FX (r_X0_needKind l D cI cB k1 3 q_3) mi_X0_needKind rfl ml_RX0_34 (RMok.mk) hl.1 rfl (Nat.le_of_ble_eq_true rfl) dX0_compare_10 (by decide) hK hP [] rfl ?_
        exact absurd (by rw [e_X0_compare, if_pos q_1, if_pos q_2, if_pos q_3]) h
      · exact thr_s FX htab hlk (x_X0_needKind l hl0 D cI cB k1 3 q_3) mi_X0_needKind rfl ml_RX0_34 (RMok.mk) hl.1 rfl (Nat.le_of_ble_eq_true rfl) dX0_compare_10 (by decide) hK hP [] rfl hz (by rw [e_X0_compare, if_pos q_1, if_pos q_2, if_neg q_3])
    · exact thr_s FX htab hlk (x_X0_needBox l hl0 D cI cB b2 q_2) mi_X0_needBox rfl ml_RX0_23 (RMok.mk) hl.1 rfl (Nat.le_of_ble_eq_true rfl) dX0_compare_5 (by decide) hK hP [] rfl hz (by rw [e_X0_compare, if_pos q_1, if_neg q_2])
  · exact thr_s FX htab hlk (x_X0_needBox l hl0 D cI cB b1 q_1) mi_X0_needBox rfl ml_RX0_23 (RMok.mk) hl.1 rfl (Nat.le_of_ble_eq_true rfl) dX0_compare_1 (by decide) hK hP [] rfl hz (by rw [e_X0_compare, if_neg q_1])
def e_X0_codes (b1 : Int32) (b2 : Int32) (b3 : Int32) : Nat := if (e_X0_needBox b1) = 0 then (if (e_X0_needBox b2) = 0 then (if (e_X0_needBox b3) = 0 then 0 else e_X0_needBox b3) else e_X0_needBox b2) else e_X0_needBox b1
def v_X0_codes (b1 : Int32) (b2 : Int32) (b3 : Int32) (f : Nat → Int32) : Int32 := (((((1 * 31) + (v_X0_numberOrZero (f b1.toNatClampNeg))) * 31) + (v_X0_numberOrZero (f b2.toNatClampNeg))) * 31) + (v_X0_numberOrZero (f b3.toNatClampNeg))
set_option maxRecDepth 100000 in
set_option maxHeartbeats 4000000 in
theorem r_X0_codes (l : Launch) (D : va_G) (cI cB : ClassId) (x bx px tx : Nat) (f g : Nat → Int32) (ak su gt lf rf kn : Int32) (b1 : Int32) (b2 : Int32) (b3 : Int32) (h : e_X0_codes b1 b2 b3 = 0) : RD l yX0_codes cX0_codes 5 (some .int) ({ frames := 1, cells := 0, slots := 0, locals := 20 } : Room) D cI cB [.ref x, .int b1, .int b2, .int b3] (wX cI x bx px tx f g ak su gt lf rf kn) (v_X0_codes b1 b2 b3 f) := by
  refine bodyRD (by decide +kernel) (Nat.le_of_ble_eq_true rfl) (fun p e s m args below meth c ls FX hr hlk hK hP hl => ?_)
  have hl : lv_has ls 5 [(0, .ref x), (1, .int b1), (2, .int b2), (3, .int b3)] := hl
  refine lv_iload_n FX.1 FX.2.1 dX0_codes_0 rfl (lv_at hl 1 rfl) ?_
  have q_1 : (e_X0_needBox b1) = 0 := Decidable.byContradiction (fun z => absurd h (by rw [e_X0_codes, if_neg z]; exact z))
  refine c_RDvs FX (r_X0_needBox l D cI cB b1 q_1) mi_X0_needBox rfl ml_RX0_23 (RMok.mk) hl.1 rfl (Nat.le_of_ble_eq_true rfl) dX0_codes_1 (by decide) hK hP [] rfl ?_
  refine lv_iload_n FX.1 FX.2.1 dX0_codes_4 rfl (lv_at hl 2 rfl) ?_
  have q_2 : (e_X0_needBox b2) = 0 := Decidable.byContradiction (fun z => absurd h (by rw [e_X0_codes, if_pos q_1, if_neg z]; exact z))
  refine c_RDvs FX (r_X0_needBox l D cI cB b2 q_2) mi_X0_needBox rfl ml_RX0_23 (RMok.mk) hl.1 rfl (Nat.le_of_ble_eq_true rfl) dX0_codes_5 (by decide) hK hP [] rfl ?_
  refine lv_iload_n FX.1 FX.2.1 dX0_codes_8 rfl (lv_at hl 3 rfl) ?_
  have q_3 : (e_X0_needBox b3) = 0 := Decidable.byContradiction (fun z => absurd h (by rw [e_X0_codes, if_pos q_1, if_pos q_2, if_neg z]; exact z))
  refine c_RDvs FX (r_X0_needBox l D cI cB b3 q_3) mi_X0_needBox rfl ml_RX0_23 (RMok.mk) hl.1 rfl (Nat.le_of_ble_eq_true rfl) dX0_codes_9 (by decide) hK hP [] rfl ?_
  refine lv_iconst (v := 1) FX.1 FX.2.1 dX0_codes_12 (by decide) ?_
  refine lv_istore (lv' := [(4, .int 1), (0, .ref x), (1, .int b1), (2, .int b2), (3, .int b3)]) FX.1 FX.2.1 dX0_codes_13 hl (by decide) rfl (fun ls hl => ?_)
  refine lv_iload FX.1 FX.2.1 dX0_codes_15 (lv_at hl 0 rfl) ?_
  refine lv_bipush (v := 31) FX.1 FX.2.1 dX0_codes_17 (by decide) ?_
  refine lv_imul FX.1 FX.2.1 dX0_codes_19 ?_
  refine lv_aload_n FX.1 FX.2.1 dX0_codes_20 rfl (lv_at hl 1 rfl) ?_
  refine va_get (D := D) (ci := 2) (v := .ref bx) (C := RX0) (T := TX0) (N := 9) FX.1 FX.2.1 FX.2.2.2.2 inX0 FX.2.2.2.1 hK hP 0 rfl rfl 0 (by decide) (FX.2.2.2.2 _ fl_RX0_9) (fun _ h9 => h9) rfl dX0_codes_21 ?_
  refine lv_iload_n FX.1 FX.2.1 dX0_codes_24 rfl (lv_at hl 2 rfl) ?_
  refine p_iald (v := f b1.toNatClampNeg) FX hK hP 1 rfl (in_X0_needBox q_1) dX0_codes_25 rfl ?_
  refine c_RDs FX (r_X0_numberOrZero l D cI cB (f b1.toNatClampNeg)) mi_X0_numberOrZero rfl ml_RX0_82 (RMok.mk) hl.1 rfl (Nat.le_of_ble_eq_true rfl) dX0_codes_26 (by decide) hK hP [] rfl ?_
  refine lv_iadd FX.1 FX.2.1 dX0_codes_29 ?_
  refine lv_istore (lv' := [(4, .int ((1 * 31) + (v_X0_numberOrZero (f b1.toNatClampNeg)))), (0, .ref x), (1, .int b1), (2, .int b2), (3, .int b3)]) FX.1 FX.2.1 dX0_codes_30 hl (by decide) rfl (fun ls hl => ?_)
  refine lv_iload FX.1 FX.2.1 dX0_codes_32 (lv_at hl 0 rfl) ?_
  refine lv_bipush (v := 31) FX.1 FX.2.1 dX0_codes_34 (by decide) ?_
  refine lv_imul FX.1 FX.2.1 dX0_codes_36 ?_
  refine lv_aload_n FX.1 FX.2.1 dX0_codes_37 rfl (lv_at hl 1 rfl) ?_
  refine va_get (D := D) (ci := 2) (v := .ref bx) (C := RX0) (T := TX0) (N := 9) FX.1 FX.2.1 FX.2.2.2.2 inX0 FX.2.2.2.1 hK hP 0 rfl rfl 0 (by decide) (FX.2.2.2.2 _ fl_RX0_9) (fun _ h9 => h9) rfl dX0_codes_38 ?_
  refine lv_iload_n FX.1 FX.2.1 dX0_codes_41 rfl (lv_at hl 3 rfl) ?_
  refine p_iald (v := f b2.toNatClampNeg) FX hK hP 1 rfl (in_X0_needBox q_2) dX0_codes_42 rfl ?_
  refine c_RDs FX (r_X0_numberOrZero l D cI cB (f b2.toNatClampNeg)) mi_X0_numberOrZero rfl ml_RX0_82 (RMok.mk) hl.1 rfl (Nat.le_of_ble_eq_true rfl) dX0_codes_43 (by decide) hK hP [] rfl ?_
  refine lv_iadd FX.1 FX.2.1 dX0_codes_46 ?_
  refine lv_istore (lv' := [(4, .int ((((1 * 31) + (v_X0_numberOrZero (f b1.toNatClampNeg))) * 31) + (v_X0_numberOrZero (f b2.toNatClampNeg)))), (0, .ref x), (1, .int b1), (2, .int b2), (3, .int b3)]) FX.1 FX.2.1 dX0_codes_47 hl (by decide) rfl (fun ls hl => ?_)
  refine lv_iload FX.1 FX.2.1 dX0_codes_49 (lv_at hl 0 rfl) ?_
  refine lv_bipush (v := 31) FX.1 FX.2.1 dX0_codes_51 (by decide) ?_
  refine lv_imul FX.1 FX.2.1 dX0_codes_53 ?_
  refine lv_aload_n FX.1 FX.2.1 dX0_codes_54 rfl (lv_at hl 1 rfl) ?_
  refine va_get (D := D) (ci := 2) (v := .ref bx) (C := RX0) (T := TX0) (N := 9) FX.1 FX.2.1 FX.2.2.2.2 inX0 FX.2.2.2.1 hK hP 0 rfl rfl 0 (by decide) (FX.2.2.2.2 _ fl_RX0_9) (fun _ h9 => h9) rfl dX0_codes_55 ?_
  refine lv_iload_n FX.1 FX.2.1 dX0_codes_58 rfl (lv_at hl 4 rfl) ?_
  refine p_iald (v := f b3.toNatClampNeg) FX hK hP 1 rfl (in_X0_needBox q_3) dX0_codes_59 rfl ?_
  refine c_RDs FX (r_X0_numberOrZero l D cI cB (f b3.toNatClampNeg)) mi_X0_numberOrZero rfl ml_RX0_82 (RMok.mk) hl.1 rfl (Nat.le_of_ble_eq_true rfl) dX0_codes_60 (by decide) hK hP [] rfl ?_
  refine lv_iadd FX.1 FX.2.1 dX0_codes_63 ?_
  refine lv_istore (lv' := [(4, .int ((((((1 * 31) + (v_X0_numberOrZero (f b1.toNatClampNeg))) * 31) + (v_X0_numberOrZero (f b2.toNatClampNeg))) * 31) + (v_X0_numberOrZero (f b3.toNatClampNeg)))), (0, .ref x), (1, .int b1), (2, .int b2), (3, .int b3)]) FX.1 FX.2.1 dX0_codes_64 hl (by decide) rfl (fun ls hl => ?_)
  refine lv_iload FX.1 FX.2.1 dX0_codes_66 (lv_at hl 0 rfl) ?_
  exact retRD FX hr hlk dX0_codes_68 rfl (by rw [v_X0_codes])
set_option maxRecDepth 100000 in
set_option maxHeartbeats 4000000 in
theorem x_X0_codes (l : Launch) (hl0 : l.stackTraces = false) (D : va_G) (cI cB : ClassId) (x bx px tx : Nat) (f g : Nat → Int32) (ak su gt lf rf kn : Int32) (b1 : Int32) (b2 : Int32) (b3 : Int32) (h : ¬ e_X0_codes b1 b2 b3 = 0) : XT l yX0_codes cX0_codes 5 (some .int) ({ frames := 7, cells := 1, slots := 6, locals := 110 } : Room) D cI cB [.ref x, .int b1, .int b2, .int b3] (wX cI x bx px tx f g ak su gt lf rf kn) (e_X0_codes b1 b2 b3) := by
  refine bodyXT (by decide) (Nat.le_of_ble_eq_true rfl) (fun p e s m args below meth c ls Z => ?_)
  obtain ⟨FX, hr, hlk, hK, hP, hz, htab, hl⟩ := Z
  have hl : lv_has ls 5 [(0, .ref x), (1, .int b1), (2, .int b2), (3, .int b3)] := hl
  refine lv_iload_n FX.1 FX.2.1 dX0_codes_0 rfl (lv_at hl 1 rfl) ?_
  by_cases q_1 : (e_X0_needBox b1) = 0
  · refine c_RDvs FX (r_X0_needBox l D cI cB b1 q_1) mi_X0_needBox rfl ml_RX0_23 (RMok.mk) hl.1 rfl (Nat.le_of_ble_eq_true rfl) dX0_codes_1 (by decide) hK hP [] rfl ?_
    refine lv_iload_n FX.1 FX.2.1 dX0_codes_4 rfl (lv_at hl 2 rfl) ?_
    by_cases q_2 : (e_X0_needBox b2) = 0
    · refine c_RDvs FX (r_X0_needBox l D cI cB b2 q_2) mi_X0_needBox rfl ml_RX0_23 (RMok.mk) hl.1 rfl (Nat.le_of_ble_eq_true rfl) dX0_codes_5 (by decide) hK hP [] rfl ?_
      refine lv_iload_n FX.1 FX.2.1 dX0_codes_8 rfl (lv_at hl 3 rfl) ?_
      by_cases q_3 : (e_X0_needBox b3) = 0
      · refine c_RDvs FX (r_X0_needBox l D cI cB b3 q_3) mi_X0_needBox rfl ml_RX0_23 (RMok.mk) hl.1 rfl (Nat.le_of_ble_eq_true rfl) dX0_codes_9 (by decide) hK hP [] rfl ?_
        exact absurd (by rw [e_X0_codes, if_pos q_1, if_pos q_2, if_pos q_3]) h
      · exact thr_s FX htab hlk (x_X0_needBox l hl0 D cI cB b3 q_3) mi_X0_needBox rfl ml_RX0_23 (RMok.mk) hl.1 rfl (Nat.le_of_ble_eq_true rfl) dX0_codes_9 (by decide) hK hP [] rfl hz (by rw [e_X0_codes, if_pos q_1, if_pos q_2, if_neg q_3])
    · exact thr_s FX htab hlk (x_X0_needBox l hl0 D cI cB b2 q_2) mi_X0_needBox rfl ml_RX0_23 (RMok.mk) hl.1 rfl (Nat.le_of_ble_eq_true rfl) dX0_codes_5 (by decide) hK hP [] rfl hz (by rw [e_X0_codes, if_pos q_1, if_neg q_2])
  · exact thr_s FX htab hlk (x_X0_needBox l hl0 D cI cB b1 q_1) mi_X0_needBox rfl ml_RX0_23 (RMok.mk) hl.1 rfl (Nat.le_of_ble_eq_true rfl) dX0_codes_1 (by decide) hK hP [] rfl hz (by rw [e_X0_codes, if_neg q_1])
def e_X0_codeOf (b1 : Int32) : Nat := if (e_X0_needBox b1) = 0 then 0 else e_X0_needBox b1
def v_X0_codeOf (b1 : Int32) (f : Nat → Int32) : Int32 := v_X0_numberOrZero (f b1.toNatClampNeg)
set_option maxRecDepth 100000 in
set_option maxHeartbeats 4000000 in
theorem r_X0_codeOf (l : Launch) (D : va_G) (cI cB : ClassId) (x bx px tx : Nat) (f g : Nat → Int32) (ak su gt lf rf kn : Int32) (b1 : Int32) (h : e_X0_codeOf b1 = 0) : RD l yX0_codeOf cX0_codeOf 2 (some .int) ({ frames := 1, cells := 0, slots := 0, locals := 20 } : Room) D cI cB [.ref x, .int b1] (wX cI x bx px tx f g ak su gt lf rf kn) (v_X0_codeOf b1 f) := by
  refine bodyRD (by decide +kernel) (Nat.le_of_ble_eq_true rfl) (fun p e s m args below meth c ls FX hr hlk hK hP hl => ?_)
  have hl : lv_has ls 2 [(0, .ref x), (1, .int b1)] := hl
  refine lv_iload_n FX.1 FX.2.1 dX0_codeOf_0 rfl (lv_at hl 1 rfl) ?_
  have q_1 : (e_X0_needBox b1) = 0 := Decidable.byContradiction (fun z => absurd h (by rw [e_X0_codeOf, if_neg z]; exact z))
  refine c_RDvs FX (r_X0_needBox l D cI cB b1 q_1) mi_X0_needBox rfl ml_RX0_23 (RMok.mk) hl.1 rfl (Nat.le_of_ble_eq_true rfl) dX0_codeOf_1 (by decide) hK hP [] rfl ?_
  refine lv_aload_n FX.1 FX.2.1 dX0_codeOf_4 rfl (lv_at hl 0 rfl) ?_
  refine va_get (D := D) (ci := 2) (v := .ref bx) (C := RX0) (T := TX0) (N := 9) FX.1 FX.2.1 FX.2.2.2.2 inX0 FX.2.2.2.1 hK hP 0 rfl rfl 0 (by decide) (FX.2.2.2.2 _ fl_RX0_9) (fun _ h9 => h9) rfl dX0_codeOf_5 ?_
  refine lv_iload_n FX.1 FX.2.1 dX0_codeOf_8 rfl (lv_at hl 1 rfl) ?_
  refine p_iald (v := f b1.toNatClampNeg) FX hK hP 1 rfl (in_X0_needBox q_1) dX0_codeOf_9 rfl ?_
  refine c_RDs FX (r_X0_numberOrZero l D cI cB (f b1.toNatClampNeg)) mi_X0_numberOrZero rfl ml_RX0_82 (RMok.mk) hl.1 rfl (Nat.le_of_ble_eq_true rfl) dX0_codeOf_10 (by decide) hK hP [] rfl ?_
  exact retRD FX hr hlk dX0_codeOf_13 rfl (by rw [v_X0_codeOf])
set_option maxRecDepth 100000 in
set_option maxHeartbeats 4000000 in
theorem x_X0_codeOf (l : Launch) (hl0 : l.stackTraces = false) (D : va_G) (cI cB : ClassId) (x bx px tx : Nat) (f g : Nat → Int32) (ak su gt lf rf kn : Int32) (b1 : Int32) (h : ¬ e_X0_codeOf b1 = 0) : XT l yX0_codeOf cX0_codeOf 2 (some .int) ({ frames := 7, cells := 1, slots := 6, locals := 110 } : Room) D cI cB [.ref x, .int b1] (wX cI x bx px tx f g ak su gt lf rf kn) (e_X0_codeOf b1) := by
  refine bodyXT (by decide) (Nat.le_of_ble_eq_true rfl) (fun p e s m args below meth c ls Z => ?_)
  obtain ⟨FX, hr, hlk, hK, hP, hz, htab, hl⟩ := Z
  have hl : lv_has ls 2 [(0, .ref x), (1, .int b1)] := hl
  refine lv_iload_n FX.1 FX.2.1 dX0_codeOf_0 rfl (lv_at hl 1 rfl) ?_
  by_cases q_1 : (e_X0_needBox b1) = 0
  · refine c_RDvs FX (r_X0_needBox l D cI cB b1 q_1) mi_X0_needBox rfl ml_RX0_23 (RMok.mk) hl.1 rfl (Nat.le_of_ble_eq_true rfl) dX0_codeOf_1 (by decide) hK hP [] rfl ?_
    exact absurd (by rw [e_X0_codeOf, if_pos q_1]) h
  · exact thr_s FX htab hlk (x_X0_needBox l hl0 D cI cB b1 q_1) mi_X0_needBox rfl ml_RX0_23 (RMok.mk) hl.1 rfl (Nat.le_of_ble_eq_true rfl) dX0_codeOf_1 (by decide) hK hP [] rfl hz (by rw [e_X0_codeOf, if_neg q_1])
def e_X0_must (b1 : Int32) : Nat := if (e_X0_needBox b1) = 0 then 0 else e_X0_needBox b1
def v_X0_must (b1 : Int32) (f : Nat → Int32) : Int32 := v_X0_numberOrRefused (f b1.toNatClampNeg)
def wrf_X0_must (b1 : Int32) (f : Nat → Int32) (rf : Int32) : Int32 := wrf_X0_numberOrRefused (f b1.toNatClampNeg) rf
set_option maxRecDepth 100000 in
set_option maxHeartbeats 4000000 in
theorem k_X0_must (l : Launch) (D : va_G) (cI cB : ClassId) (x bx px tx : Nat) (f g : Nat → Int32) (ak su gt lf rf kn : Int32) (b1 : Int32) (h : e_X0_must b1 = 0) : WR l yX0_must cX0_must 2 (some .int) ({ frames := 1, cells := 0, slots := 0, locals := 21 } : Room) D cI cB [.ref x, .int b1] (wX cI x bx px tx f g ak su gt lf rf kn) (v_X0_must b1 f) (wX cI x bx px tx f g ak su gt lf (wrf_X0_must b1 f rf) kn) 0 0 := by
  refine bodyWR (by decide +kernel) (Nat.le_of_ble_eq_true rfl) (fun p e s m args below meth c ls A Z => ?_)
  obtain ⟨FX, hr, hlk, hK, hP, hD, hS, hA, hl⟩ := Z
  have hl : lv_has ls 2 [(0, .ref x), (1, .int b1)] := hl
  refine lv_iload_n FX.1 FX.2.1 dX0_must_0 rfl (lv_at hl 1 rfl) ?_
  have q_1 : (e_X0_needBox b1) = 0 := Decidable.byContradiction (fun z => absurd h (by rw [e_X0_must, if_neg z]; exact z))
  refine c_RDvs FX (r_X0_needBox l D cI cB b1 q_1) mi_X0_needBox rfl ml_RX0_23 (RMok.mk) hl.1 rfl (Nat.le_of_ble_eq_true rfl) dX0_must_1 (by decide) hK hP [] rfl ?_
  refine lv_aload_n FX.1 FX.2.1 dX0_must_4 rfl (lv_at hl 0 rfl) ?_
  refine lv_aload_n FX.1 FX.2.1 dX0_must_5 rfl (lv_at hl 0 rfl) ?_
  refine va_get (D := D) (ci := 2) (v := .ref bx) (C := RX0) (T := TX0) (N := 9) FX.1 FX.2.1 FX.2.2.2.2 inX0 FX.2.2.2.1 hK hP 0 rfl rfl 0 (by decide) (FX.2.2.2.2 _ fl_RX0_9) (fun _ h9 => h9) rfl dX0_must_6 ?_
  refine lv_iload_n FX.1 FX.2.1 dX0_must_9 rfl (lv_at hl 1 rfl) ?_
  refine p_iald (v := f b1.toNatClampNeg) FX hK hP 1 rfl (in_X0_needBox q_1) dX0_must_10 rfl ?_
  refine c_WRV (wr := []) (wsN := (wX cI x bx px tx f g ak su gt lf (wrf_X0_numberOrRefused (f b1.toNatClampNeg) rf) kn)) (i0 := 0) (ci := 2) FX (k_X0_numberOrRefused l D cI cB x bx px tx f g ak su gt lf rf kn (f b1.toNatClampNeg)) mi_X0_numberOrRefused rfl ml_RX0_68 (RMok.mk) hl.1 rfl (Nat.le_of_ble_eq_true rfl) dX0_must_11 (by decide) hK hP hD hS hA [0, 1, 2] rfl [] rfl rfl (by decide) [0, 1, 2] rfl rfl rfl rfl rfl (fun H locs hP hD hS => ?_)
  exact retWR FX hr hlk dX0_must_14 rfl hP hK hD hS (by decide) (by decide) (by rw [v_X0_must]) (by rw [wrf_X0_must])
set_option maxRecDepth 100000 in
set_option maxHeartbeats 4000000 in
theorem x_X0_must (l : Launch) (hl0 : l.stackTraces = false) (D : va_G) (cI cB : ClassId) (x bx px tx : Nat) (f g : Nat → Int32) (ak su gt lf rf kn : Int32) (b1 : Int32) (h : ¬ e_X0_must b1 = 0) : XT l yX0_must cX0_must 2 (some .int) ({ frames := 7, cells := 1, slots := 6, locals := 110 } : Room) D cI cB [.ref x, .int b1] (wX cI x bx px tx f g ak su gt lf rf kn) (e_X0_must b1) := by
  refine bodyXT (by decide) (Nat.le_of_ble_eq_true rfl) (fun p e s m args below meth c ls Z => ?_)
  obtain ⟨FX, hr, hlk, hK, hP, hz, htab, hl⟩ := Z
  have hl : lv_has ls 2 [(0, .ref x), (1, .int b1)] := hl
  refine lv_iload_n FX.1 FX.2.1 dX0_must_0 rfl (lv_at hl 1 rfl) ?_
  by_cases q_1 : (e_X0_needBox b1) = 0
  · refine c_RDvs FX (r_X0_needBox l D cI cB b1 q_1) mi_X0_needBox rfl ml_RX0_23 (RMok.mk) hl.1 rfl (Nat.le_of_ble_eq_true rfl) dX0_must_1 (by decide) hK hP [] rfl ?_
    exact absurd (by rw [e_X0_must, if_pos q_1]) h
  · exact thr_s FX htab hlk (x_X0_needBox l hl0 D cI cB b1 q_1) mi_X0_needBox rfl ml_RX0_23 (RMok.mk) hl.1 rfl (Nat.le_of_ble_eq_true rfl) dX0_must_1 (by decide) hK hP [] rfl hz (by rw [e_X0_must, if_neg q_1])
def e_X0_mustElse (b1 : Int32) (n1 : Int32) : Nat := if (e_X0_needBox b1) = 0 then (if (e_X0_needNumber n1) = 0 then 0 else e_X0_needNumber n1) else e_X0_needBox b1
def v_X0_mustElse (b1 : Int32) (n1 : Int32) (f : Nat → Int32) : Int32 := v_X0_firstFull (f b1.toNatClampNeg) n1
set_option maxRecDepth 100000 in
set_option maxHeartbeats 4000000 in
theorem r_X0_mustElse (l : Launch) (D : va_G) (cI cB : ClassId) (x bx px tx : Nat) (f g : Nat → Int32) (ak su gt lf rf kn : Int32) (b1 : Int32) (n1 : Int32) (h : e_X0_mustElse b1 n1 = 0) : RD l yX0_mustElse cX0_mustElse 3 (some .int) ({ frames := 2, cells := 0, slots := 0, locals := 40 } : Room) D cI cB [.ref x, .int b1, .int n1] (wX cI x bx px tx f g ak su gt lf rf kn) (v_X0_mustElse b1 n1 f) := by
  refine bodyRD (by decide +kernel) (Nat.le_of_ble_eq_true rfl) (fun p e s m args below meth c ls FX hr hlk hK hP hl => ?_)
  have hl : lv_has ls 3 [(0, .ref x), (1, .int b1), (2, .int n1)] := hl
  refine lv_iload_n FX.1 FX.2.1 dX0_mustElse_0 rfl (lv_at hl 1 rfl) ?_
  have q_1 : (e_X0_needBox b1) = 0 := Decidable.byContradiction (fun z => absurd h (by rw [e_X0_mustElse, if_neg z]; exact z))
  refine c_RDvs FX (r_X0_needBox l D cI cB b1 q_1) mi_X0_needBox rfl ml_RX0_23 (RMok.mk) hl.1 rfl (Nat.le_of_ble_eq_true rfl) dX0_mustElse_1 (by decide) hK hP [] rfl ?_
  refine lv_iload_n FX.1 FX.2.1 dX0_mustElse_4 rfl (lv_at hl 2 rfl) ?_
  have q_2 : (e_X0_needNumber n1) = 0 := Decidable.byContradiction (fun z => absurd h (by rw [e_X0_mustElse, if_pos q_1, if_neg z]; exact z))
  refine c_RDvs FX (r_X0_needNumber l D cI cB n1 q_2) mi_X0_needNumber rfl ml_RX0_27 (RMok.mk) hl.1 rfl (Nat.le_of_ble_eq_true rfl) dX0_mustElse_5 (by decide) hK hP [] rfl ?_
  refine lv_aload_n FX.1 FX.2.1 dX0_mustElse_8 rfl (lv_at hl 0 rfl) ?_
  refine va_get (D := D) (ci := 2) (v := .ref bx) (C := RX0) (T := TX0) (N := 9) FX.1 FX.2.1 FX.2.2.2.2 inX0 FX.2.2.2.1 hK hP 0 rfl rfl 0 (by decide) (FX.2.2.2.2 _ fl_RX0_9) (fun _ h9 => h9) rfl dX0_mustElse_9 ?_
  refine lv_iload_n FX.1 FX.2.1 dX0_mustElse_12 rfl (lv_at hl 1 rfl) ?_
  refine p_iald (v := f b1.toNatClampNeg) FX hK hP 1 rfl (in_X0_needBox q_1) dX0_mustElse_13 rfl ?_
  refine lv_iload_n FX.1 FX.2.1 dX0_mustElse_14 rfl (lv_at hl 2 rfl) ?_
  refine c_RDs FX (r_X0_firstFull l D cI cB (f b1.toNatClampNeg) n1) mi_X0_firstFull rfl ml_RX0_52 (RMok.mk) hl.1 rfl (Nat.le_of_ble_eq_true rfl) dX0_mustElse_15 (by decide) hK hP [] rfl ?_
  exact retRD FX hr hlk dX0_mustElse_18 rfl (by rw [v_X0_mustElse])
set_option maxRecDepth 100000 in
set_option maxHeartbeats 4000000 in
theorem x_X0_mustElse (l : Launch) (hl0 : l.stackTraces = false) (D : va_G) (cI cB : ClassId) (x bx px tx : Nat) (f g : Nat → Int32) (ak su gt lf rf kn : Int32) (b1 : Int32) (n1 : Int32) (h : ¬ e_X0_mustElse b1 n1 = 0) : XT l yX0_mustElse cX0_mustElse 3 (some .int) ({ frames := 7, cells := 1, slots := 6, locals := 110 } : Room) D cI cB [.ref x, .int b1, .int n1] (wX cI x bx px tx f g ak su gt lf rf kn) (e_X0_mustElse b1 n1) := by
  refine bodyXT (by decide) (Nat.le_of_ble_eq_true rfl) (fun p e s m args below meth c ls Z => ?_)
  obtain ⟨FX, hr, hlk, hK, hP, hz, htab, hl⟩ := Z
  have hl : lv_has ls 3 [(0, .ref x), (1, .int b1), (2, .int n1)] := hl
  refine lv_iload_n FX.1 FX.2.1 dX0_mustElse_0 rfl (lv_at hl 1 rfl) ?_
  by_cases q_1 : (e_X0_needBox b1) = 0
  · refine c_RDvs FX (r_X0_needBox l D cI cB b1 q_1) mi_X0_needBox rfl ml_RX0_23 (RMok.mk) hl.1 rfl (Nat.le_of_ble_eq_true rfl) dX0_mustElse_1 (by decide) hK hP [] rfl ?_
    refine lv_iload_n FX.1 FX.2.1 dX0_mustElse_4 rfl (lv_at hl 2 rfl) ?_
    by_cases q_2 : (e_X0_needNumber n1) = 0
    · refine c_RDvs FX (r_X0_needNumber l D cI cB n1 q_2) mi_X0_needNumber rfl ml_RX0_27 (RMok.mk) hl.1 rfl (Nat.le_of_ble_eq_true rfl) dX0_mustElse_5 (by decide) hK hP [] rfl ?_
      exact absurd (by rw [e_X0_mustElse, if_pos q_1, if_pos q_2]) h
    · exact thr_s FX htab hlk (x_X0_needNumber l hl0 D cI cB n1 q_2) mi_X0_needNumber rfl ml_RX0_27 (RMok.mk) hl.1 rfl (Nat.le_of_ble_eq_true rfl) dX0_mustElse_5 (by decide) hK hP [] rfl hz (by rw [e_X0_mustElse, if_pos q_1, if_neg q_2])
  · exact thr_s FX htab hlk (x_X0_needBox l hl0 D cI cB b1 q_1) mi_X0_needBox rfl ml_RX0_23 (RMok.mk) hl.1 rfl (Nat.le_of_ble_eq_true rfl) dX0_mustElse_1 (by decide) hK hP [] rfl hz (by rw [e_X0_mustElse, if_neg q_1])
def e_X0_isNothing (b1 : Int32) : Nat := if (e_X0_needBox b1) = 0 then 0 else e_X0_needBox b1
def v_X0_isNothing (b1 : Int32) (f : Nat → Int32) : Int32 := if (f b1.toNatClampNeg) = (-10000) then 1 else 0
set_option maxRecDepth 100000 in
set_option maxHeartbeats 4000000 in
theorem r_X0_isNothing (l : Launch) (D : va_G) (cI cB : ClassId) (x bx px tx : Nat) (f g : Nat → Int32) (ak su gt lf rf kn : Int32) (b1 : Int32) (h : e_X0_isNothing b1 = 0) : RD l yX0_isNothing cX0_isNothing 2 (some .boolean) ({ frames := 1, cells := 0, slots := 0, locals := 20 } : Room) D cI cB [.ref x, .int b1] (wX cI x bx px tx f g ak su gt lf rf kn) (v_X0_isNothing b1 f) := by
  refine bodyRD (by decide +kernel) (Nat.le_of_ble_eq_true rfl) (fun p e s m args below meth c ls FX hr hlk hK hP hl => ?_)
  have hl : lv_has ls 2 [(0, .ref x), (1, .int b1)] := hl
  refine lv_iload_n FX.1 FX.2.1 dX0_isNothing_0 rfl (lv_at hl 1 rfl) ?_
  have q_1 : (e_X0_needBox b1) = 0 := Decidable.byContradiction (fun z => absurd h (by rw [e_X0_isNothing, if_neg z]; exact z))
  refine c_RDvs FX (r_X0_needBox l D cI cB b1 q_1) mi_X0_needBox rfl ml_RX0_23 (RMok.mk) hl.1 rfl (Nat.le_of_ble_eq_true rfl) dX0_isNothing_1 (by decide) hK hP [] rfl ?_
  refine lv_aload_n FX.1 FX.2.1 dX0_isNothing_4 rfl (lv_at hl 0 rfl) ?_
  refine va_get (D := D) (ci := 2) (v := .ref bx) (C := RX0) (T := TX0) (N := 9) FX.1 FX.2.1 FX.2.2.2.2 inX0 FX.2.2.2.1 hK hP 0 rfl rfl 0 (by decide) (FX.2.2.2.2 _ fl_RX0_9) (fun _ h9 => h9) rfl dX0_isNothing_5 ?_
  refine lv_iload_n FX.1 FX.2.1 dX0_isNothing_8 rfl (lv_at hl 1 rfl) ?_
  refine p_iald (v := f b1.toNatClampNeg) FX hK hP 1 rfl (in_X0_needBox q_1) dX0_isNothing_9 rfl ?_
  refine lv_sipush (v := (-10000)) FX.1 FX.2.1 dX0_isNothing_10 (by decide) ?_
  refine lv_icmp_ne (tgt := 20) FX.1 FX.2.1 dX0_isNothing_13 (by decide) (fun c_2 => ?_) (fun c_2 => ?_)
  · refine lv_iconst (v := 0) FX.1 FX.2.1 dX0_isNothing_20 (by decide) ?_
    exact retRD FX hr hlk dX0_isNothing_21 rfl (by rw [v_X0_isNothing, if_neg c_2])
  · refine lv_iconst (v := 1) FX.1 FX.2.1 dX0_isNothing_16 (by decide) ?_
    refine lv_goto (tgt := 21) FX.1 FX.2.1 dX0_isNothing_17 (by decide) ?_
    exact retRD FX hr hlk dX0_isNothing_21 rfl (by rw [v_X0_isNothing, if_pos c_2])
theorem b01_v_X0_isNothing (b1 : Int32) (f : Nat → Int32) : is01 (v_X0_isNothing b1 f) := by
  unfold v_X0_isNothing
  repeat' split
  all_goals first | exact Or.inl rfl | exact Or.inr rfl
set_option maxRecDepth 100000 in
set_option maxHeartbeats 4000000 in
theorem x_X0_isNothing (l : Launch) (hl0 : l.stackTraces = false) (D : va_G) (cI cB : ClassId) (x bx px tx : Nat) (f g : Nat → Int32) (ak su gt lf rf kn : Int32) (b1 : Int32) (h : ¬ e_X0_isNothing b1 = 0) : XT l yX0_isNothing cX0_isNothing 2 (some .boolean) ({ frames := 7, cells := 1, slots := 6, locals := 110 } : Room) D cI cB [.ref x, .int b1] (wX cI x bx px tx f g ak su gt lf rf kn) (e_X0_isNothing b1) := by
  refine bodyXT (by decide) (Nat.le_of_ble_eq_true rfl) (fun p e s m args below meth c ls Z => ?_)
  obtain ⟨FX, hr, hlk, hK, hP, hz, htab, hl⟩ := Z
  have hl : lv_has ls 2 [(0, .ref x), (1, .int b1)] := hl
  refine lv_iload_n FX.1 FX.2.1 dX0_isNothing_0 rfl (lv_at hl 1 rfl) ?_
  by_cases q_1 : (e_X0_needBox b1) = 0
  · refine c_RDvs FX (r_X0_needBox l D cI cB b1 q_1) mi_X0_needBox rfl ml_RX0_23 (RMok.mk) hl.1 rfl (Nat.le_of_ble_eq_true rfl) dX0_isNothing_1 (by decide) hK hP [] rfl ?_
    exact absurd (by rw [e_X0_isNothing, if_pos q_1]) h
  · exact thr_s FX htab hlk (x_X0_needBox l hl0 D cI cB b1 q_1) mi_X0_needBox rfl ml_RX0_23 (RMok.mk) hl.1 rfl (Nat.le_of_ble_eq_true rfl) dX0_isNothing_1 (by decide) hK hP [] rfl hz (by rw [e_X0_isNothing, if_neg q_1])
def e_X0_isSomething (b1 : Int32) : Nat := if (e_X0_needBox b1) = 0 then 0 else e_X0_needBox b1
def v_X0_isSomething (b1 : Int32) (f : Nat → Int32) : Int32 := if (f b1.toNatClampNeg) = (-10000) then 0 else 1
set_option maxRecDepth 100000 in
set_option maxHeartbeats 4000000 in
theorem r_X0_isSomething (l : Launch) (D : va_G) (cI cB : ClassId) (x bx px tx : Nat) (f g : Nat → Int32) (ak su gt lf rf kn : Int32) (b1 : Int32) (h : e_X0_isSomething b1 = 0) : RD l yX0_isSomething cX0_isSomething 2 (some .boolean) ({ frames := 1, cells := 0, slots := 0, locals := 20 } : Room) D cI cB [.ref x, .int b1] (wX cI x bx px tx f g ak su gt lf rf kn) (v_X0_isSomething b1 f) := by
  refine bodyRD (by decide +kernel) (Nat.le_of_ble_eq_true rfl) (fun p e s m args below meth c ls FX hr hlk hK hP hl => ?_)
  have hl : lv_has ls 2 [(0, .ref x), (1, .int b1)] := hl
  refine lv_iload_n FX.1 FX.2.1 dX0_isSomething_0 rfl (lv_at hl 1 rfl) ?_
  have q_1 : (e_X0_needBox b1) = 0 := Decidable.byContradiction (fun z => absurd h (by rw [e_X0_isSomething, if_neg z]; exact z))
  refine c_RDvs FX (r_X0_needBox l D cI cB b1 q_1) mi_X0_needBox rfl ml_RX0_23 (RMok.mk) hl.1 rfl (Nat.le_of_ble_eq_true rfl) dX0_isSomething_1 (by decide) hK hP [] rfl ?_
  refine lv_aload_n FX.1 FX.2.1 dX0_isSomething_4 rfl (lv_at hl 0 rfl) ?_
  refine va_get (D := D) (ci := 2) (v := .ref bx) (C := RX0) (T := TX0) (N := 9) FX.1 FX.2.1 FX.2.2.2.2 inX0 FX.2.2.2.1 hK hP 0 rfl rfl 0 (by decide) (FX.2.2.2.2 _ fl_RX0_9) (fun _ h9 => h9) rfl dX0_isSomething_5 ?_
  refine lv_iload_n FX.1 FX.2.1 dX0_isSomething_8 rfl (lv_at hl 1 rfl) ?_
  refine p_iald (v := f b1.toNatClampNeg) FX hK hP 1 rfl (in_X0_needBox q_1) dX0_isSomething_9 rfl ?_
  refine lv_sipush (v := (-10000)) FX.1 FX.2.1 dX0_isSomething_10 (by decide) ?_
  refine lv_icmp_eq (tgt := 20) FX.1 FX.2.1 dX0_isSomething_13 (by decide) (fun c_2 => ?_) (fun c_2 => ?_)
  · refine lv_iconst (v := 0) FX.1 FX.2.1 dX0_isSomething_20 (by decide) ?_
    exact retRD FX hr hlk dX0_isSomething_21 rfl (by rw [v_X0_isSomething, if_pos c_2])
  · refine lv_iconst (v := 1) FX.1 FX.2.1 dX0_isSomething_16 (by decide) ?_
    refine lv_goto (tgt := 21) FX.1 FX.2.1 dX0_isSomething_17 (by decide) ?_
    exact retRD FX hr hlk dX0_isSomething_21 rfl (by rw [v_X0_isSomething, if_neg c_2])
theorem b01_v_X0_isSomething (b1 : Int32) (f : Nat → Int32) : is01 (v_X0_isSomething b1 f) := by
  unfold v_X0_isSomething
  repeat' split
  all_goals first | exact Or.inl rfl | exact Or.inr rfl
set_option maxRecDepth 100000 in
set_option maxHeartbeats 4000000 in
theorem x_X0_isSomething (l : Launch) (hl0 : l.stackTraces = false) (D : va_G) (cI cB : ClassId) (x bx px tx : Nat) (f g : Nat → Int32) (ak su gt lf rf kn : Int32) (b1 : Int32) (h : ¬ e_X0_isSomething b1 = 0) : XT l yX0_isSomething cX0_isSomething 2 (some .boolean) ({ frames := 7, cells := 1, slots := 6, locals := 110 } : Room) D cI cB [.ref x, .int b1] (wX cI x bx px tx f g ak su gt lf rf kn) (e_X0_isSomething b1) := by
  refine bodyXT (by decide) (Nat.le_of_ble_eq_true rfl) (fun p e s m args below meth c ls Z => ?_)
  obtain ⟨FX, hr, hlk, hK, hP, hz, htab, hl⟩ := Z
  have hl : lv_has ls 2 [(0, .ref x), (1, .int b1)] := hl
  refine lv_iload_n FX.1 FX.2.1 dX0_isSomething_0 rfl (lv_at hl 1 rfl) ?_
  by_cases q_1 : (e_X0_needBox b1) = 0
  · refine c_RDvs FX (r_X0_needBox l D cI cB b1 q_1) mi_X0_needBox rfl ml_RX0_23 (RMok.mk) hl.1 rfl (Nat.le_of_ble_eq_true rfl) dX0_isSomething_1 (by decide) hK hP [] rfl ?_
    exact absurd (by rw [e_X0_isSomething, if_pos q_1]) h
  · exact thr_s FX htab hlk (x_X0_needBox l hl0 D cI cB b1 q_1) mi_X0_needBox rfl ml_RX0_23 (RMok.mk) hl.1 rfl (Nat.le_of_ble_eq_true rfl) dX0_isSomething_1 (by decide) hK hP [] rfl hz (by rw [e_X0_isSomething, if_neg q_1])
def e_X0_place (n1 : Int32) (n2 : Int32) : Nat := if n2 < 0 then 2 else (if n2 ≤ 999 then (if n1 < 0 then 1 else (if n1 < n2 then 0 else 1)) else 2)
def v_X0_place (n1 : Int32) : Int32 := n1
set_option maxRecDepth 100000 in
set_option maxHeartbeats 4000000 in
theorem r_X0_place (l : Launch) (D : va_G) (cI cB : ClassId) (x bx px tx : Nat) (f g : Nat → Int32) (ak su gt lf rf kn : Int32) (n1 : Int32) (n2 : Int32) (h : e_X0_place n1 n2 = 0) : RD l yX0_place cX0_place 3 (some .int) ({ frames := 0, cells := 0, slots := 0, locals := 0 } : Room) D cI cB [.ref x, .int n1, .int n2] (wX cI x bx px tx f g ak su gt lf rf kn) (v_X0_place n1) := by
  refine bodyRD (by decide +kernel) (Nat.le_of_ble_eq_true rfl) (fun p e s m args below meth c ls FX hr hlk hK hP hl => ?_)
  have hl : lv_has ls 3 [(0, .ref x), (1, .int n1), (2, .int n2)] := hl
  refine lv_iload_n FX.1 FX.2.1 dX0_place_0 rfl (lv_at hl 2 rfl) ?_
  refine lv_if_lt (tgt := 11) FX.1 FX.2.1 dX0_place_1 (by decide) (fun c_1 => ?_) (fun c_1 => ?_)
  · exact absurd h (by rw [e_X0_place, if_pos c_1]; decide)
  · refine lv_iload_n FX.1 FX.2.1 dX0_place_4 rfl (lv_at hl 2 rfl) ?_
    refine lv_sipush (v := 999) FX.1 FX.2.1 dX0_place_5 (by decide) ?_
    refine lv_icmp_le (tgt := 21) FX.1 FX.2.1 dX0_place_8 (by decide) (fun c_2 => ?_) (fun c_2 => ?_)
    · refine lv_iload_n FX.1 FX.2.1 dX0_place_21 rfl (lv_at hl 1 rfl) ?_
      refine lv_if_lt (tgt := 30) FX.1 FX.2.1 dX0_place_22 (by decide) (fun c_3 => ?_) (fun c_3 => ?_)
      · exact absurd h (by rw [e_X0_place, if_neg c_1, if_pos c_2, if_pos c_3]; decide)
      · refine lv_iload_n FX.1 FX.2.1 dX0_place_25 rfl (lv_at hl 1 rfl) ?_
        refine lv_iload_n FX.1 FX.2.1 dX0_place_26 rfl (lv_at hl 2 rfl) ?_
        refine lv_icmp_lt (tgt := 40) FX.1 FX.2.1 dX0_place_27 (by decide) (fun c_4 => ?_) (fun c_4 => ?_)
        · refine lv_iload_n FX.1 FX.2.1 dX0_place_40 rfl (lv_at hl 1 rfl) ?_
          exact retRD FX hr hlk dX0_place_41 rfl (by rw [v_X0_place])
        · exact absurd h (by rw [e_X0_place, if_neg c_1, if_pos c_2, if_neg c_3, if_neg c_4]; decide)
    · exact absurd h (by rw [e_X0_place, if_neg c_1, if_neg c_2]; decide)
set_option maxRecDepth 100000 in
set_option maxHeartbeats 4000000 in
theorem x_X0_place (l : Launch) (hl0 : l.stackTraces = false) (D : va_G) (cI cB : ClassId) (x bx px tx : Nat) (f g : Nat → Int32) (ak su gt lf rf kn : Int32) (n1 : Int32) (n2 : Int32) (h : ¬ e_X0_place n1 n2 = 0) : XT l yX0_place cX0_place 3 (some .int) ({ frames := 6, cells := 1, slots := 6, locals := 90 } : Room) D cI cB [.ref x, .int n1, .int n2] (wX cI x bx px tx f g ak su gt lf rf kn) (e_X0_place n1 n2) := by
  refine bodyXT (by decide) (Nat.le_of_ble_eq_true rfl) (fun p e s m args below meth c ls Z => ?_)
  obtain ⟨FX, hr, hlk, hK, hP, hz, htab, hl⟩ := Z
  have hl : lv_has ls 3 [(0, .ref x), (1, .int n1), (2, .int n2)] := hl
  refine lv_iload_n FX.1 FX.2.1 dX0_place_0 rfl (lv_at hl 2 rfl) ?_
  refine lv_if_lt (tgt := 11) FX.1 FX.2.1 dX0_place_1 (by decide) (fun c_1 => ?_) (fun c_1 => ?_)
  · exact thr_new (is := 100) (text := "the length is not 0 to 999") FX htab hlk hl0 (by decide +kernel) cl_RX0_98 tw2_i (by decide) tw2_1 tw2_2 (by decide) tw2_3 hz hl.1 dX0_place_11 dX0_place_14 dX0_place_15 dX0_place_17 dX0_place_20 (by decide) (by decide) (by decide) (by decide) (by rw [e_X0_place, if_pos c_1]; rfl)
  · refine lv_iload_n FX.1 FX.2.1 dX0_place_4 rfl (lv_at hl 2 rfl) ?_
    refine lv_sipush (v := 999) FX.1 FX.2.1 dX0_place_5 (by decide) ?_
    refine lv_icmp_le (tgt := 21) FX.1 FX.2.1 dX0_place_8 (by decide) (fun c_2 => ?_) (fun c_2 => ?_)
    · refine lv_iload_n FX.1 FX.2.1 dX0_place_21 rfl (lv_at hl 1 rfl) ?_
      refine lv_if_lt (tgt := 30) FX.1 FX.2.1 dX0_place_22 (by decide) (fun c_3 => ?_) (fun c_3 => ?_)
      · exact thr_new (is := 105) (text := "the place is not 0 to length - 1") FX htab hlk hl0 (by decide +kernel) cl_RX0_103 tw1_i (by decide) tw1_1 tw1_2 (by decide) tw1_3 hz hl.1 dX0_place_30 dX0_place_33 dX0_place_34 dX0_place_36 dX0_place_39 (by decide) (by decide) (by decide) (by decide) (by rw [e_X0_place, if_neg c_1, if_pos c_2, if_pos c_3]; rfl)
      · refine lv_iload_n FX.1 FX.2.1 dX0_place_25 rfl (lv_at hl 1 rfl) ?_
        refine lv_iload_n FX.1 FX.2.1 dX0_place_26 rfl (lv_at hl 2 rfl) ?_
        refine lv_icmp_lt (tgt := 40) FX.1 FX.2.1 dX0_place_27 (by decide) (fun c_4 => ?_) (fun c_4 => ?_)
        · exact absurd (by rw [e_X0_place, if_neg c_1, if_pos c_2, if_neg c_3, if_pos c_4]) h
        · exact thr_new (is := 105) (text := "the place is not 0 to length - 1") FX htab hlk hl0 (by decide +kernel) cl_RX0_103 tw1_i (by decide) tw1_1 tw1_2 (by decide) tw1_3 hz hl.1 dX0_place_30 dX0_place_33 dX0_place_34 dX0_place_36 dX0_place_39 (by decide) (by decide) (by decide) (by decide) (by rw [e_X0_place, if_neg c_1, if_pos c_2, if_neg c_3, if_neg c_4]; rfl)
    · exact thr_new (is := 100) (text := "the length is not 0 to 999") FX htab hlk hl0 (by decide +kernel) cl_RX0_98 tw2_i (by decide) tw2_1 tw2_2 (by decide) tw2_3 hz hl.1 dX0_place_11 dX0_place_14 dX0_place_15 dX0_place_17 dX0_place_20 (by decide) (by decide) (by decide) (by decide) (by rw [e_X0_place, if_neg c_1, if_neg c_2]; rfl)
def v_X0_knock (kn : Int32) : Int32 := kn + 1
def wkn_X0_knock (kn : Int32) : Int32 := kn + 1
set_option maxRecDepth 100000 in
set_option maxHeartbeats 4000000 in
theorem k_X0_knock (l : Launch) (D : va_G) (cI cB : ClassId) (x bx px tx : Nat) (f g : Nat → Int32) (ak su gt lf rf kn : Int32) : WR l yX0_knock cX0_knock 1 (some .int) ({ frames := 0, cells := 0, slots := 0, locals := 0 } : Room) D cI cB [.ref x] (wX cI x bx px tx f g ak su gt lf rf kn) (v_X0_knock kn) (wX cI x bx px tx f g ak su gt lf rf (wkn_X0_knock kn)) 0 0 := by
  refine bodyWR (by decide +kernel) (Nat.le_of_ble_eq_true rfl) (fun p e s m args below meth c ls A Z => ?_)
  obtain ⟨FX, hr, hlk, hK, hP, hD, hS, hA, hl⟩ := Z
  have hl : lv_has ls 1 [(0, .ref x)] := hl
  refine lv_aload_n FX.1 FX.2.1 dX0_knock_0 rfl (lv_at hl 0 rfl) ?_
  refine lv_dup FX.1 FX.2.1 dX0_knock_1 rfl ?_
  refine va_get (D := D) (ci := 2) (v := .int kn) (C := RX0) (T := TX0) (N := 9) FX.1 FX.2.1 FX.2.2.2.2 inX0 FX.2.2.2.1 hK hP 0 rfl rfl 8 (by decide) (FX.2.2.2.2 _ fl_RX0_108) (fun _ h9 => h9) rfl dX0_knock_2 ?_
  refine lv_iconst (v := 1) FX.1 FX.2.1 dX0_knock_5 (by decide) ?_
  refine lv_iadd FX.1 FX.2.1 dX0_knock_6 ?_
  refine p_put (wsN := (wX cI x bx px tx f g ak su gt lf rf (kn + 1))) (ci := 2) (v := .int (kn + 1)) (ty := .int) FX inX0 tyX0_ok nmX0 hK hP hD hS 0 rfl rfl 8 (by decide) (FX.2.2.2.2 _ fl_RX0_108) rfl (by decide +kernel) rfl rfl (Nat.le_of_ble_eq_true rfl) dX0_knock_7 rfl (fun H locs hP hD hS => ?_)
  refine lv_aload_n FX.1 FX.2.1 dX0_knock_10 rfl (lv_at hl 0 rfl) ?_
  refine va_get (D := D) (ci := 2) (v := .int (kn + 1)) (C := RX0) (T := TX0) (N := 9) FX.1 FX.2.1 FX.2.2.2.2 inX0 FX.2.2.2.1 hK hP 0 rfl rfl 8 (by decide) (FX.2.2.2.2 _ fl_RX0_108) (fun _ h9 => h9) rfl dX0_knock_11 ?_
  exact retWR FX hr hlk dX0_knock_14 rfl hP hK hD hS (by decide) (by decide) (by rw [v_X0_knock]) (by rw [wkn_X0_knock])

set_option maxRecDepth 20000 in
theorem cl_RX0_103 : Cond.classLink RX0 103 "java/lang/IndexOutOfBoundsException" ∈ bigW := bt1 184 rfl rfl
set_option maxRecDepth 20000 in
theorem tw1_i : Cond.initialized "java/lang/IndexOutOfBoundsException" ∈ bigW := bt1 11 rfl rfl
set_option maxRecDepth 20000 in
theorem tw1_1 : ∀ w ∈ (vx_atS RX0 107 "java/lang/IndexOutOfBoundsException" ["java/lang/RuntimeException", "java/lang/Exception"]).filter goodWord, w ∈ bigW := fun w h => List.mem_filter.mpr ⟨List.mem_append_right _ ((show ∀ w ∈ (vx_atS RX0 107 "java/lang/IndexOutOfBoundsException" ["java/lang/RuntimeException", "java/lang/Exception"]).filter goodWord, w ∈ lw_tbl by decide +kernel) w h), (List.mem_filter.mp h).2⟩
set_option maxRecDepth 20000 in
theorem tw1_2 : ∀ w ∈ (vx_atS RX0 107 "java/lang/IndexOutOfBoundsException" ["java/lang/RuntimeException", "java/lang/Exception"]).filter (fun w => !goodWord w), w ∈ Cond.castable "java/lang/IndexOutOfBoundsException" "java/lang/IndexOutOfBoundsException" :: dcl3.map Cond.declares := by decide +kernel
set_option maxRecDepth 20000 in
theorem tw1_3 : ∀ w ∈ Cond.classLink RX0 103 "java/lang/IndexOutOfBoundsException" :: Cond.initialized "java/lang/IndexOutOfBoundsException" :: vx_atS RX0 107 "java/lang/IndexOutOfBoundsException" ["java/lang/RuntimeException", "java/lang/Exception"], vx_ot w = true := by decide +kernel
set_option maxRecDepth 20000 in
theorem ml_RX0_167 : Cond.methodLink RX0 167 yX0_isNumber ∈ bigW := bt1 149 rfl rfl
set_option maxRecDepth 20000 in
theorem mi_X0_isNumber : MIs yX0_isNumber cX0_isNumber 1 (some .boolean) 1 := ⟨⟨bt1 151 rfl rfl, bt1 1 rfl rfl, by decide, by decide, by decide +kernel⟩, bt1 150 rfl rfl⟩
set_option maxRecDepth 20000 in
theorem cl_RX0_98 : Cond.classLink RX0 98 "java/lang/IllegalArgumentException" ∈ bigW := bt2 24 rfl rfl
set_option maxRecDepth 20000 in
theorem tw2_i : Cond.initialized "java/lang/IllegalArgumentException" ∈ bigW := bt1 12 rfl rfl
set_option maxRecDepth 20000 in
theorem tw2_1 : ∀ w ∈ (vx_atS RX0 102 "java/lang/IllegalArgumentException" ["java/lang/RuntimeException", "java/lang/Exception"]).filter goodWord, w ∈ bigW := fun w h => List.mem_filter.mpr ⟨List.mem_append_right _ ((show ∀ w ∈ (vx_atS RX0 102 "java/lang/IllegalArgumentException" ["java/lang/RuntimeException", "java/lang/Exception"]).filter goodWord, w ∈ lw_tbl by decide +kernel) w h), (List.mem_filter.mp h).2⟩
set_option maxRecDepth 20000 in
theorem tw2_2 : ∀ w ∈ (vx_atS RX0 102 "java/lang/IllegalArgumentException" ["java/lang/RuntimeException", "java/lang/Exception"]).filter (fun w => !goodWord w), w ∈ Cond.castable "java/lang/IllegalArgumentException" "java/lang/IllegalArgumentException" :: dcl3.map Cond.declares := by decide +kernel
set_option maxRecDepth 20000 in
theorem tw2_3 : ∀ w ∈ Cond.classLink RX0 98 "java/lang/IllegalArgumentException" :: Cond.initialized "java/lang/IllegalArgumentException" :: vx_atS RX0 102 "java/lang/IllegalArgumentException" ["java/lang/RuntimeException", "java/lang/Exception"], vx_ot w = true := by decide +kernel
set_option maxRecDepth 20000 in
theorem ml_RX0_179 : Cond.methodLink RX0 179 yX0_numberOrNothing ∈ bigW := bt1 146 rfl rfl
set_option maxRecDepth 20000 in
theorem mi_X0_numberOrNothing : MIs yX0_numberOrNothing cX0_numberOrNothing 1 (some .int) 1 := ⟨⟨bt1 148 rfl rfl, bt1 1 rfl rfl, by decide, by decide, by decide +kernel⟩, bt1 147 rfl rfl⟩
set_option maxRecDepth 20000 in
theorem ml_RX0_188 : Cond.methodLink RX0 188 yX0_ruleMakes ∈ bigW := bt1 143 rfl rfl
set_option maxRecDepth 20000 in
theorem mi_X0_ruleMakes : MIs yX0_ruleMakes cX0_ruleMakes 3 (some .int) 3 := ⟨⟨bt1 145 rfl rfl, bt1 1 rfl rfl, by decide, by decide, by decide +kernel⟩, bt1 144 rfl rfl⟩
set_option maxRecDepth 20000 in
theorem ml_RX0_194 : Cond.methodLink RX0 194 yX0_testLets ∈ bigW := bt1 161 rfl rfl
set_option maxRecDepth 20000 in
theorem mi_X0_testLets : MIs yX0_testLets cX0_testLets 3 (some .boolean) 3 := ⟨⟨bt1 163 rfl rfl, bt1 1 rfl rfl, by decide, by decide, by decide +kernel⟩, bt1 162 rfl rfl⟩
set_option maxRecDepth 20000 in
theorem ml_RX0_52 : Cond.methodLink RX0 52 yX0_firstFull ∈ bigW := bt1 167 rfl rfl
set_option maxRecDepth 20000 in
theorem mi_X0_firstFull : MIs yX0_firstFull cX0_firstFull 2 (some .int) 2 := ⟨⟨bt1 169 rfl rfl, bt1 1 rfl rfl, by decide, by decide, by decide +kernel⟩, bt1 168 rfl rfl⟩
set_option maxRecDepth 20000 in
theorem ml_RX0_78 : Cond.methodLink RX0 78 yX0_alike ∈ bigW := bt1 97 rfl rfl
set_option maxRecDepth 20000 in
theorem mi_X0_alike : MIs yX0_alike cX0_alike 2 (some .boolean) 2 := ⟨⟨bt1 99 rfl rfl, bt1 1 rfl rfl, by decide, by decide, by decide +kernel⟩, bt1 98 rfl rfl⟩
set_option maxRecDepth 20000 in
theorem cL_RX0_225 : Cond.constantLong RX0 225 (31) ∈ bigW := bt2 67 rfl rfl
set_option maxRecDepth 20000 in
theorem abs_st : Cond.static Lib.Math.abs.name ∈ bigW := bt2 44 rfl rfl
set_option maxRecDepth 20000 in
theorem abs_in : Cond.initialized "java/lang/Math" ∈ bigW := bt1 13 rfl rfl
set_option maxRecDepth 20000 in
theorem abs_cd : Cond.code Lib.Math.abs.name Lib.Math.abs.code 1 (some .int) ∈ bigW := bt2 45 rfl rfl
set_option maxRecDepth 20000 in
theorem ml_RX0_174 : Cond.methodLink RX0 174 Lib.Math.abs.name ∈ bigW := bt2 43 rfl rfl
set_option maxRecDepth 20000 in
theorem ml_RX2_21 : Cond.methodLink RX2 21 yX2_isIn ∈ bigW := bt4 235 rfl rfl
set_option maxRecDepth 20000 in
theorem mi_X2_isIn : MIs yX2_isIn cX2_isIn 3 (some .boolean) 3 := ⟨⟨bt4 237 rfl rfl, bt1 6 rfl rfl, by decide, by decide, by decide +kernel⟩, bt4 236 rfl rfl⟩
set_option maxRecDepth 20000 in
theorem ml_RX2_25 : Cond.methodLink RX2 25 yX2_isNoNumber ∈ bigW := bt4 238 rfl rfl
set_option maxRecDepth 20000 in
theorem mi_X2_isNoNumber : MIs yX2_isNoNumber cX2_isNoNumber 1 (some .boolean) 1 := ⟨⟨bt5 0 rfl rfl, bt1 6 rfl rfl, by decide, by decide, by decide +kernel⟩, bt4 239 rfl rfl⟩
set_option maxRecDepth 20000 in
theorem co_RX2_9 : Cond.constant RX2 9 (-100000) ∈ bigW := bt4 195 rfl rfl
set_option maxRecDepth 20000 in
theorem ml_RX2_36 : Cond.methodLink RX2 36 yX2_bounded ∈ bigW := bt5 35 rfl rfl
set_option maxRecDepth 20000 in
theorem mi_X2_bounded : MIs yX2_bounded cX2_bounded 1 (some .int) 1 := ⟨⟨bt5 37 rfl rfl, bt1 6 rfl rfl, by decide, by decide, by decide +kernel⟩, bt5 36 rfl rfl⟩
set_option maxRecDepth 20000 in
theorem cL_RX2_156 : Cond.constantLong RX2 156 (31) ∈ bigW := bt6 8 rfl rfl
set_option maxRecDepth 20000 in
theorem ml_RX2_32 : Cond.methodLink RX2 32 yX2_one ∈ bigW := bt5 5 rfl rfl
set_option maxRecDepth 20000 in
theorem mi_X2_one : MIs yX2_one cX2_one 1 (some .int) 1 := ⟨⟨bt5 7 rfl rfl, bt1 6 rfl rfl, by decide, by decide, by decide +kernel⟩, bt5 6 rfl rfl⟩
set_option maxRecDepth 20000 in
theorem ml_RX2_98 : Cond.methodLink RX2 98 Lib.Math.abs.name ∈ bigW := bt5 168 rfl rfl
theorem dJ9_floorMod_7cf53_0 : decode cJ9_floorMod_7cf53 0 = .ok (.iload_n 0, 1) := by decide +kernel
theorem dJ9_floorMod_7cf53_1 : decode cJ9_floorMod_7cf53 1 = .ok (.iload_n 1, 1) := by decide +kernel
theorem dJ9_floorMod_7cf53_2 : decode cJ9_floorMod_7cf53 2 = .ok (.irem, 1) := by decide +kernel
theorem dJ9_floorMod_7cf53_3 : decode cJ9_floorMod_7cf53 3 = .ok (.istore_n 2, 1) := by decide +kernel
theorem dJ9_floorMod_7cf53_4 : decode cJ9_floorMod_7cf53 4 = .ok (.iload_n 0, 1) := by decide +kernel
theorem dJ9_floorMod_7cf53_5 : decode cJ9_floorMod_7cf53 5 = .ok (.iload_n 1, 1) := by decide +kernel
theorem dJ9_floorMod_7cf53_6 : decode cJ9_floorMod_7cf53 6 = .ok (.ixor, 1) := by decide +kernel
theorem dJ9_floorMod_7cf53_7 : decode cJ9_floorMod_7cf53 7 = .ok (.ifCond .ge 11, 3) := by decide +kernel
theorem dJ9_floorMod_7cf53_10 : decode cJ9_floorMod_7cf53 10 = .ok (.iload_n 2, 1) := by decide +kernel
theorem dJ9_floorMod_7cf53_11 : decode cJ9_floorMod_7cf53 11 = .ok (.ifCond .eq 7, 3) := by decide +kernel
theorem dJ9_floorMod_7cf53_14 : decode cJ9_floorMod_7cf53 14 = .ok (.iload_n 2, 1) := by decide +kernel
theorem dJ9_floorMod_7cf53_15 : decode cJ9_floorMod_7cf53 15 = .ok (.iload_n 1, 1) := by decide +kernel
theorem dJ9_floorMod_7cf53_16 : decode cJ9_floorMod_7cf53 16 = .ok (.iadd, 1) := by decide +kernel
theorem dJ9_floorMod_7cf53_17 : decode cJ9_floorMod_7cf53 17 = .ok (.ireturn, 1) := by decide +kernel
theorem dJ9_floorMod_7cf53_18 : decode cJ9_floorMod_7cf53 18 = .ok (.iload_n 2, 1) := by decide +kernel
theorem dJ9_floorMod_7cf53_19 : decode cJ9_floorMod_7cf53 19 = .ok (.ireturn, 1) := by decide +kernel
theorem dX0_alike_0 : decode cX0_alike 0 = .ok (.iload_n 0, 1) := by decide +kernel
theorem dX0_alike_1 : decode cX0_alike 1 = .ok (.iload_n 1, 1) := by decide +kernel
theorem dX0_alike_2 : decode cX0_alike 2 = .ok (.if_icmp .ne 7, 3) := by decide +kernel
theorem dX0_alike_5 : decode cX0_alike 5 = .ok (.iconst 1, 1) := by decide +kernel
theorem dX0_alike_6 : decode cX0_alike 6 = .ok (.goto 4, 3) := by decide +kernel
theorem dX0_alike_9 : decode cX0_alike 9 = .ok (.iconst 0, 1) := by decide +kernel
theorem dX0_alike_10 : decode cX0_alike 10 = .ok (.ireturn, 1) := by decide +kernel
theorem dX0_filtered_0 : decode cX0_filtered 0 = .ok (.iload_n 0, 1) := by decide +kernel
theorem dX0_filtered_1 : decode cX0_filtered 1 = .ok (.sipush (-10000), 3) := by decide +kernel
theorem dX0_filtered_4 : decode cX0_filtered 4 = .ok (.if_icmp .eq 16, 3) := by decide +kernel
theorem dX0_filtered_7 : decode cX0_filtered 7 = .ok (.iload_n 1, 1) := by decide +kernel
theorem dX0_filtered_8 : decode cX0_filtered 8 = .ok (.iload_n 0, 1) := by decide +kernel
theorem dX0_filtered_9 : decode cX0_filtered 9 = .ok (.iload_n 2, 1) := by decide +kernel
theorem dX0_filtered_10 : decode cX0_filtered 10 = .ok (.invokestatic 194, 3) := by decide +kernel
theorem dX0_filtered_13 : decode cX0_filtered 13 = .ok (.ifCond .eq 7, 3) := by decide +kernel
theorem dX0_filtered_16 : decode cX0_filtered 16 = .ok (.iload_n 0, 1) := by decide +kernel
theorem dX0_filtered_17 : decode cX0_filtered 17 = .ok (.goto 6, 3) := by decide +kernel
theorem dX0_filtered_20 : decode cX0_filtered 20 = .ok (.sipush (-10000), 3) := by decide +kernel
theorem dX0_filtered_23 : decode cX0_filtered 23 = .ok (.ireturn, 1) := by decide +kernel
theorem dX0_firstFull_0 : decode cX0_firstFull 0 = .ok (.iload_n 0, 1) := by decide +kernel
theorem dX0_firstFull_1 : decode cX0_firstFull 1 = .ok (.sipush (-10000), 3) := by decide +kernel
theorem dX0_firstFull_4 : decode cX0_firstFull 4 = .ok (.if_icmp .ne 7, 3) := by decide +kernel
theorem dX0_firstFull_7 : decode cX0_firstFull 7 = .ok (.iload_n 1, 1) := by decide +kernel
theorem dX0_firstFull_8 : decode cX0_firstFull 8 = .ok (.goto 4, 3) := by decide +kernel
theorem dX0_firstFull_11 : decode cX0_firstFull 11 = .ok (.iload_n 0, 1) := by decide +kernel
theorem dX0_firstFull_12 : decode cX0_firstFull 12 = .ok (.ireturn, 1) := by decide +kernel
theorem dX0_fullness_0 : decode cX0_fullness 0 = .ok (.iload_n 0, 1) := by decide +kernel
theorem dX0_fullness_1 : decode cX0_fullness 1 = .ok (.sipush (-10000), 3) := by decide +kernel
theorem dX0_fullness_4 : decode cX0_fullness 4 = .ok (.if_icmp .ne 7, 3) := by decide +kernel
theorem dX0_fullness_7 : decode cX0_fullness 7 = .ok (.iconst 0, 1) := by decide +kernel
theorem dX0_fullness_8 : decode cX0_fullness 8 = .ok (.goto 4, 3) := by decide +kernel
theorem dX0_fullness_11 : decode cX0_fullness 11 = .ok (.iconst 1, 1) := by decide +kernel
theorem dX0_fullness_12 : decode cX0_fullness 12 = .ok (.ireturn, 1) := by decide +kernel
theorem dX0_isNumber_0 : decode cX0_isNumber 0 = .ok (.iload_n 0, 1) := by decide +kernel
theorem dX0_isNumber_1 : decode cX0_isNumber 1 = .ok (.sipush (-999), 3) := by decide +kernel
theorem dX0_isNumber_4 : decode cX0_isNumber 4 = .ok (.if_icmp .lt 14, 3) := by decide +kernel
theorem dX0_isNumber_7 : decode cX0_isNumber 7 = .ok (.iload_n 0, 1) := by decide +kernel
theorem dX0_isNumber_8 : decode cX0_isNumber 8 = .ok (.sipush 999, 3) := by decide +kernel
theorem dX0_isNumber_11 : decode cX0_isNumber 11 = .ok (.if_icmp .gt 7, 3) := by decide +kernel
theorem dX0_isNumber_14 : decode cX0_isNumber 14 = .ok (.iconst 1, 1) := by decide +kernel
theorem dX0_isNumber_15 : decode cX0_isNumber 15 = .ok (.goto 4, 3) := by decide +kernel
theorem dX0_isNumber_18 : decode cX0_isNumber 18 = .ok (.iconst 0, 1) := by decide +kernel
theorem dX0_isNumber_19 : decode cX0_isNumber 19 = .ok (.ireturn, 1) := by decide +kernel
theorem dX0_isOrSound_0 : decode cX0_isOrSound 0 = .ok (.iload_n 0, 1) := by decide +kernel
theorem dX0_isOrSound_1 : decode cX0_isOrSound 1 = .ok (.sipush (-10000), 3) := by decide +kernel
theorem dX0_isOrSound_4 : decode cX0_isOrSound 4 = .ok (.invokestatic 52, 3) := by decide +kernel
theorem dX0_isOrSound_7 : decode cX0_isOrSound 7 = .ok (.iload_n 0, 1) := by decide +kernel
theorem dX0_isOrSound_8 : decode cX0_isOrSound 8 = .ok (.invokestatic 78, 3) := by decide +kernel
theorem dX0_isOrSound_11 : decode cX0_isOrSound 11 = .ok (.ifCond .eq 21, 3) := by decide +kernel
theorem dX0_isOrSound_14 : decode cX0_isOrSound 14 = .ok (.sipush (-10000), 3) := by decide +kernel
theorem dX0_isOrSound_17 : decode cX0_isOrSound 17 = .ok (.iload_n 0, 1) := by decide +kernel
theorem dX0_isOrSound_18 : decode cX0_isOrSound 18 = .ok (.invokestatic 52, 3) := by decide +kernel
theorem dX0_isOrSound_21 : decode cX0_isOrSound 21 = .ok (.iload_n 0, 1) := by decide +kernel
theorem dX0_isOrSound_22 : decode cX0_isOrSound 22 = .ok (.invokestatic 78, 3) := by decide +kernel
theorem dX0_isOrSound_25 : decode cX0_isOrSound 25 = .ok (.ifCond .eq 7, 3) := by decide +kernel
theorem dX0_isOrSound_28 : decode cX0_isOrSound 28 = .ok (.iconst 1, 1) := by decide +kernel
theorem dX0_isOrSound_29 : decode cX0_isOrSound 29 = .ok (.goto 4, 3) := by decide +kernel
theorem dX0_isOrSound_32 : decode cX0_isOrSound 32 = .ok (.iconst 0, 1) := by decide +kernel
theorem dX0_isOrSound_33 : decode cX0_isOrSound 33 = .ok (.ireturn, 1) := by decide +kernel
theorem dX0_mapped_0 : decode cX0_mapped 0 = .ok (.iload_n 0, 1) := by decide +kernel
theorem dX0_mapped_1 : decode cX0_mapped 1 = .ok (.sipush (-10000), 3) := by decide +kernel
theorem dX0_mapped_4 : decode cX0_mapped 4 = .ok (.if_icmp .ne 9, 3) := by decide +kernel
theorem dX0_mapped_7 : decode cX0_mapped 7 = .ok (.sipush (-10000), 3) := by decide +kernel
theorem dX0_mapped_10 : decode cX0_mapped 10 = .ok (.goto 9, 3) := by decide +kernel
theorem dX0_mapped_13 : decode cX0_mapped 13 = .ok (.iload_n 1, 1) := by decide +kernel
theorem dX0_mapped_14 : decode cX0_mapped 14 = .ok (.iload_n 0, 1) := by decide +kernel
theorem dX0_mapped_15 : decode cX0_mapped 15 = .ok (.iload_n 2, 1) := by decide +kernel
theorem dX0_mapped_16 : decode cX0_mapped 16 = .ok (.invokestatic 188, 3) := by decide +kernel
theorem dX0_mapped_19 : decode cX0_mapped 19 = .ok (.ireturn, 1) := by decide +kernel
theorem dX0_mixed_0 : decode cX0_mixed 0 = .ok (.lload_n 0, 1) := by decide +kernel
theorem dX0_mixed_1 : decode cX0_mixed 1 = .ok (.ldc2_w 225, 3) := by decide +kernel
theorem dX0_mixed_4 : decode cX0_mixed 4 = .ok (.lmul, 1) := by decide +kernel
theorem dX0_mixed_5 : decode cX0_mixed 5 = .ok (.lload_n 2, 1) := by decide +kernel
theorem dX0_mixed_6 : decode cX0_mixed 6 = .ok (.ladd, 1) := by decide +kernel
theorem dX0_mixed_7 : decode cX0_mixed 7 = .ok (.lreturn, 1) := by decide +kernel
theorem dX0_naturalOrNothing_0 : decode cX0_naturalOrNothing 0 = .ok (.iload_n 0, 1) := by decide +kernel
theorem dX0_naturalOrNothing_1 : decode cX0_naturalOrNothing 1 = .ok (.ifCond .lt 14, 3) := by decide +kernel
theorem dX0_naturalOrNothing_4 : decode cX0_naturalOrNothing 4 = .ok (.iload_n 0, 1) := by decide +kernel
theorem dX0_naturalOrNothing_5 : decode cX0_naturalOrNothing 5 = .ok (.sipush 999, 3) := by decide +kernel
theorem dX0_naturalOrNothing_8 : decode cX0_naturalOrNothing 8 = .ok (.if_icmp .gt 7, 3) := by decide +kernel
theorem dX0_naturalOrNothing_11 : decode cX0_naturalOrNothing 11 = .ok (.iload_n 0, 1) := by decide +kernel
theorem dX0_naturalOrNothing_12 : decode cX0_naturalOrNothing 12 = .ok (.goto 6, 3) := by decide +kernel
theorem dX0_naturalOrNothing_15 : decode cX0_naturalOrNothing 15 = .ok (.sipush (-10000), 3) := by decide +kernel
theorem dX0_naturalOrNothing_18 : decode cX0_naturalOrNothing 18 = .ok (.ireturn, 1) := by decide +kernel
theorem dX0_needBox_0 : decode cX0_needBox 0 = .ok (.iload_n 0, 1) := by decide +kernel
theorem dX0_needBox_1 : decode cX0_needBox 1 = .ok (.ifCond .lt 9, 3) := by decide +kernel
theorem dX0_needBox_4 : decode cX0_needBox 4 = .ok (.iload_n 0, 1) := by decide +kernel
theorem dX0_needBox_5 : decode cX0_needBox 5 = .ok (.bipush 6, 2) := by decide +kernel
theorem dX0_needBox_7 : decode cX0_needBox 7 = .ok (.if_icmp .lt 13, 3) := by decide +kernel
theorem dX0_needBox_10 : decode cX0_needBox 10 = .ok (.new 103, 3) := by decide +kernel
theorem dX0_needBox_13 : decode cX0_needBox 13 = .ok (.dup, 1) := by decide +kernel
theorem dX0_needBox_14 : decode cX0_needBox 14 = .ok (.ldc 163, 2) := by decide +kernel
theorem dX0_needBox_16 : decode cX0_needBox 16 = .ok (.invokespecial 107, 3) := by decide +kernel
theorem dX0_needBox_19 : decode cX0_needBox 19 = .ok (.athrow, 1) := by decide +kernel
theorem dX0_needBox_20 : decode cX0_needBox 20 = .ok (.return_, 1) := by decide +kernel
theorem dX0_needKind_0 : decode cX0_needKind 0 = .ok (.iload_n 0, 1) := by decide +kernel
theorem dX0_needKind_1 : decode cX0_needKind 1 = .ok (.ifCond .lt 8, 3) := by decide +kernel
theorem dX0_needKind_4 : decode cX0_needKind 4 = .ok (.iload_n 0, 1) := by decide +kernel
theorem dX0_needKind_5 : decode cX0_needKind 5 = .ok (.iload_n 1, 1) := by decide +kernel
theorem dX0_needKind_6 : decode cX0_needKind 6 = .ok (.if_icmp .lt 13, 3) := by decide +kernel
theorem dX0_needKind_9 : decode cX0_needKind 9 = .ok (.new 98, 3) := by decide +kernel
theorem dX0_needKind_12 : decode cX0_needKind 12 = .ok (.dup, 1) := by decide +kernel
theorem dX0_needKind_13 : decode cX0_needKind 13 = .ok (.ldc 172, 2) := by decide +kernel
theorem dX0_needKind_15 : decode cX0_needKind 15 = .ok (.invokespecial 102, 3) := by decide +kernel
theorem dX0_needKind_18 : decode cX0_needKind 18 = .ok (.athrow, 1) := by decide +kernel
theorem dX0_needKind_19 : decode cX0_needKind 19 = .ok (.return_, 1) := by decide +kernel
theorem dX0_needNumber_0 : decode cX0_needNumber 0 = .ok (.iload_n 0, 1) := by decide +kernel
theorem dX0_needNumber_1 : decode cX0_needNumber 1 = .ok (.invokestatic 167, 3) := by decide +kernel
theorem dX0_needNumber_4 : decode cX0_needNumber 4 = .ok (.ifCond .ne 13, 3) := by decide +kernel
theorem dX0_needNumber_7 : decode cX0_needNumber 7 = .ok (.new 98, 3) := by decide +kernel
theorem dX0_needNumber_10 : decode cX0_needNumber 10 = .ok (.dup, 1) := by decide +kernel
theorem dX0_needNumber_11 : decode cX0_needNumber 11 = .ok (.ldc 170, 2) := by decide +kernel
theorem dX0_needNumber_13 : decode cX0_needNumber 13 = .ok (.invokespecial 102, 3) := by decide +kernel
theorem dX0_needNumber_16 : decode cX0_needNumber 16 = .ok (.athrow, 1) := by decide +kernel
theorem dX0_needNumber_17 : decode cX0_needNumber 17 = .ok (.return_, 1) := by decide +kernel
theorem dX0_needPlain_0 : decode cX0_needPlain 0 = .ok (.iload_n 0, 1) := by decide +kernel
theorem dX0_needPlain_1 : decode cX0_needPlain 1 = .ok (.ifCond .lt 8, 3) := by decide +kernel
theorem dX0_needPlain_4 : decode cX0_needPlain 4 = .ok (.iload_n 0, 1) := by decide +kernel
theorem dX0_needPlain_5 : decode cX0_needPlain 5 = .ok (.iconst 2, 1) := by decide +kernel
theorem dX0_needPlain_6 : decode cX0_needPlain 6 = .ok (.if_icmp .lt 13, 3) := by decide +kernel
theorem dX0_needPlain_9 : decode cX0_needPlain 9 = .ok (.new 103, 3) := by decide +kernel
theorem dX0_needPlain_12 : decode cX0_needPlain 12 = .ok (.dup, 1) := by decide +kernel
theorem dX0_needPlain_13 : decode cX0_needPlain 13 = .ok (.ldc 165, 2) := by decide +kernel
theorem dX0_needPlain_15 : decode cX0_needPlain 15 = .ok (.invokespecial 107, 3) := by decide +kernel
theorem dX0_needPlain_18 : decode cX0_needPlain 18 = .ok (.athrow, 1) := by decide +kernel
theorem dX0_needPlain_19 : decode cX0_needPlain 19 = .ok (.return_, 1) := by decide +kernel
theorem dX0_numberOrNothing_0 : decode cX0_numberOrNothing 0 = .ok (.iload_n 0, 1) := by decide +kernel
theorem dX0_numberOrNothing_1 : decode cX0_numberOrNothing 1 = .ok (.invokestatic 167, 3) := by decide +kernel
theorem dX0_numberOrNothing_4 : decode cX0_numberOrNothing 4 = .ok (.ifCond .eq 7, 3) := by decide +kernel
theorem dX0_numberOrNothing_7 : decode cX0_numberOrNothing 7 = .ok (.iload_n 0, 1) := by decide +kernel
theorem dX0_numberOrNothing_8 : decode cX0_numberOrNothing 8 = .ok (.goto 6, 3) := by decide +kernel
theorem dX0_numberOrNothing_11 : decode cX0_numberOrNothing 11 = .ok (.sipush (-10000), 3) := by decide +kernel
theorem dX0_numberOrNothing_14 : decode cX0_numberOrNothing 14 = .ok (.ireturn, 1) := by decide +kernel
theorem dX0_numberOrZero_0 : decode cX0_numberOrZero 0 = .ok (.iload_n 0, 1) := by decide +kernel
theorem dX0_numberOrZero_1 : decode cX0_numberOrZero 1 = .ok (.sipush (-10000), 3) := by decide +kernel
theorem dX0_numberOrZero_4 : decode cX0_numberOrZero 4 = .ok (.if_icmp .ne 7, 3) := by decide +kernel
theorem dX0_numberOrZero_7 : decode cX0_numberOrZero 7 = .ok (.iconst 0, 1) := by decide +kernel
theorem dX0_numberOrZero_8 : decode cX0_numberOrZero 8 = .ok (.goto 4, 3) := by decide +kernel
theorem dX0_numberOrZero_11 : decode cX0_numberOrZero 11 = .ok (.iload_n 0, 1) := by decide +kernel
theorem dX0_numberOrZero_12 : decode cX0_numberOrZero 12 = .ok (.ireturn, 1) := by decide +kernel
theorem dX0_rewrapped_0 : decode cX0_rewrapped 0 = .ok (.iload_n 0, 1) := by decide +kernel
theorem dX0_rewrapped_1 : decode cX0_rewrapped 1 = .ok (.ireturn, 1) := by decide +kernel
theorem dX0_ruleMakes_0 : decode cX0_ruleMakes 0 = .ok (.iload_n 0, 1) := by decide +kernel
theorem dX0_ruleMakes_1 : decode cX0_ruleMakes 1 = .ok (.tableswitch 71 0 4 #[35, 42, 49, 56, 69], 35) := by decide +kernel
theorem dX0_ruleMakes_36 : decode cX0_ruleMakes 36 = .ok (.iload_n 1, 1) := by decide +kernel
theorem dX0_ruleMakes_37 : decode cX0_ruleMakes 37 = .ok (.iload_n 2, 1) := by decide +kernel
theorem dX0_ruleMakes_38 : decode cX0_ruleMakes 38 = .ok (.iadd, 1) := by decide +kernel
theorem dX0_ruleMakes_39 : decode cX0_ruleMakes 39 = .ok (.invokestatic 179, 3) := by decide +kernel
theorem dX0_ruleMakes_42 : decode cX0_ruleMakes 42 = .ok (.ireturn, 1) := by decide +kernel
theorem dX0_ruleMakes_43 : decode cX0_ruleMakes 43 = .ok (.iload_n 1, 1) := by decide +kernel
theorem dX0_ruleMakes_44 : decode cX0_ruleMakes 44 = .ok (.iload_n 2, 1) := by decide +kernel
theorem dX0_ruleMakes_45 : decode cX0_ruleMakes 45 = .ok (.imul, 1) := by decide +kernel
theorem dX0_ruleMakes_46 : decode cX0_ruleMakes 46 = .ok (.invokestatic 179, 3) := by decide +kernel
theorem dX0_ruleMakes_49 : decode cX0_ruleMakes 49 = .ok (.ireturn, 1) := by decide +kernel
theorem dX0_ruleMakes_50 : decode cX0_ruleMakes 50 = .ok (.iload_n 2, 1) := by decide +kernel
theorem dX0_ruleMakes_51 : decode cX0_ruleMakes 51 = .ok (.iload_n 1, 1) := by decide +kernel
theorem dX0_ruleMakes_52 : decode cX0_ruleMakes 52 = .ok (.isub, 1) := by decide +kernel
theorem dX0_ruleMakes_53 : decode cX0_ruleMakes 53 = .ok (.invokestatic 179, 3) := by decide +kernel
theorem dX0_ruleMakes_56 : decode cX0_ruleMakes 56 = .ok (.ireturn, 1) := by decide +kernel
theorem dX0_ruleMakes_57 : decode cX0_ruleMakes 57 = .ok (.iload_n 1, 1) := by decide +kernel
theorem dX0_ruleMakes_58 : decode cX0_ruleMakes 58 = .ok (.iload_n 2, 1) := by decide +kernel
theorem dX0_ruleMakes_59 : decode cX0_ruleMakes 59 = .ok (.if_icmp .lt 7, 3) := by decide +kernel
theorem dX0_ruleMakes_62 : decode cX0_ruleMakes 62 = .ok (.iload_n 1, 1) := by decide +kernel
theorem dX0_ruleMakes_63 : decode cX0_ruleMakes 63 = .ok (.goto 6, 3) := by decide +kernel
theorem dX0_ruleMakes_66 : decode cX0_ruleMakes 66 = .ok (.sipush (-10000), 3) := by decide +kernel
theorem dX0_ruleMakes_69 : decode cX0_ruleMakes 69 = .ok (.ireturn, 1) := by decide +kernel
theorem dX0_ruleMakes_70 : decode cX0_ruleMakes 70 = .ok (.iload_n 1, 1) := by decide +kernel
theorem dX0_ruleMakes_71 : decode cX0_ruleMakes 71 = .ok (.ireturn, 1) := by decide +kernel
theorem dX0_ruleMakes_72 : decode cX0_ruleMakes 72 = .ok (.sipush (-10000), 3) := by decide +kernel
theorem dX0_ruleMakes_75 : decode cX0_ruleMakes 75 = .ok (.ireturn, 1) := by decide +kernel
theorem dX0_standing_0 : decode cX0_standing 0 = .ok (.iload_n 1, 1) := by decide +kernel
theorem dX0_standing_1 : decode cX0_standing 1 = .ok (.iconst 2, 1) := by decide +kernel
theorem dX0_standing_2 : decode cX0_standing 2 = .ok (.if_icmp .ne 19, 3) := by decide +kernel
theorem dX0_standing_5 : decode cX0_standing 5 = .ok (.iload_n 0, 1) := by decide +kernel
theorem dX0_standing_6 : decode cX0_standing 6 = .ok (.sipush (-10000), 3) := by decide +kernel
theorem dX0_standing_9 : decode cX0_standing 9 = .ok (.if_icmp .ne 7, 3) := by decide +kernel
theorem dX0_standing_12 : decode cX0_standing 12 = .ok (.iconst (-1), 1) := by decide +kernel
theorem dX0_standing_13 : decode cX0_standing 13 = .ok (.goto 7, 3) := by decide +kernel
theorem dX0_standing_16 : decode cX0_standing 16 = .ok (.iload_n 0, 1) := by decide +kernel
theorem dX0_standing_17 : decode cX0_standing 17 = .ok (.invokestatic 174, 3) := by decide +kernel
theorem dX0_standing_20 : decode cX0_standing 20 = .ok (.ireturn, 1) := by decide +kernel
theorem dX0_standing_21 : decode cX0_standing 21 = .ok (.iload_n 0, 1) := by decide +kernel
theorem dX0_standing_22 : decode cX0_standing 22 = .ok (.sipush (-10000), 3) := by decide +kernel
theorem dX0_standing_25 : decode cX0_standing 25 = .ok (.if_icmp .ne 9, 3) := by decide +kernel
theorem dX0_standing_28 : decode cX0_standing 28 = .ok (.sipush (-1000), 3) := by decide +kernel
theorem dX0_standing_31 : decode cX0_standing 31 = .ok (.goto 4, 3) := by decide +kernel
theorem dX0_standing_34 : decode cX0_standing 34 = .ok (.iload_n 0, 1) := by decide +kernel
theorem dX0_standing_35 : decode cX0_standing 35 = .ok (.istore_n 2, 1) := by decide +kernel
theorem dX0_standing_36 : decode cX0_standing 36 = .ok (.iload_n 1, 1) := by decide +kernel
theorem dX0_standing_37 : decode cX0_standing 37 = .ok (.iconst 1, 1) := by decide +kernel
theorem dX0_standing_38 : decode cX0_standing 38 = .ok (.if_icmp .ne 8, 3) := by decide +kernel
theorem dX0_standing_41 : decode cX0_standing 41 = .ok (.iload_n 2, 1) := by decide +kernel
theorem dX0_standing_42 : decode cX0_standing 42 = .ok (.ineg, 1) := by decide +kernel
theorem dX0_standing_43 : decode cX0_standing 43 = .ok (.goto 4, 3) := by decide +kernel
theorem dX0_standing_46 : decode cX0_standing 46 = .ok (.iload_n 2, 1) := by decide +kernel
theorem dX0_standing_47 : decode cX0_standing 47 = .ok (.ireturn, 1) := by decide +kernel
theorem dX0_testLets_0 : decode cX0_testLets 0 = .ok (.iload_n 0, 1) := by decide +kernel
theorem dX0_testLets_1 : decode cX0_testLets 1 = .ok (.tableswitch 69 0 3 #[31, 42, 53, 67], 31) := by decide +kernel
theorem dX0_testLets_32 : decode cX0_testLets 32 = .ok (.iload_n 1, 1) := by decide +kernel
theorem dX0_testLets_33 : decode cX0_testLets 33 = .ok (.iload_n 2, 1) := by decide +kernel
theorem dX0_testLets_34 : decode cX0_testLets 34 = .ok (.if_icmp .le 7, 3) := by decide +kernel
theorem dX0_testLets_37 : decode cX0_testLets 37 = .ok (.iconst 1, 1) := by decide +kernel
theorem dX0_testLets_38 : decode cX0_testLets 38 = .ok (.goto 4, 3) := by decide +kernel
theorem dX0_testLets_41 : decode cX0_testLets 41 = .ok (.iconst 0, 1) := by decide +kernel
theorem dX0_testLets_42 : decode cX0_testLets 42 = .ok (.ireturn, 1) := by decide +kernel
theorem dX0_testLets_43 : decode cX0_testLets 43 = .ok (.iload_n 1, 1) := by decide +kernel
theorem dX0_testLets_44 : decode cX0_testLets 44 = .ok (.iload_n 2, 1) := by decide +kernel
theorem dX0_testLets_45 : decode cX0_testLets 45 = .ok (.if_icmp .ge 7, 3) := by decide +kernel
theorem dX0_testLets_48 : decode cX0_testLets 48 = .ok (.iconst 1, 1) := by decide +kernel
theorem dX0_testLets_49 : decode cX0_testLets 49 = .ok (.goto 4, 3) := by decide +kernel
theorem dX0_testLets_52 : decode cX0_testLets 52 = .ok (.iconst 0, 1) := by decide +kernel
theorem dX0_testLets_53 : decode cX0_testLets 53 = .ok (.ireturn, 1) := by decide +kernel
theorem dX0_testLets_54 : decode cX0_testLets 54 = .ok (.iload_n 1, 1) := by decide +kernel
theorem dX0_testLets_55 : decode cX0_testLets 55 = .ok (.iload_n 2, 1) := by decide +kernel
theorem dX0_testLets_56 : decode cX0_testLets 56 = .ok (.isub, 1) := by decide +kernel
theorem dX0_testLets_57 : decode cX0_testLets 57 = .ok (.iconst 2, 1) := by decide +kernel
theorem dX0_testLets_58 : decode cX0_testLets 58 = .ok (.irem, 1) := by decide +kernel
theorem dX0_testLets_59 : decode cX0_testLets 59 = .ok (.ifCond .ne 7, 3) := by decide +kernel
theorem dX0_testLets_62 : decode cX0_testLets 62 = .ok (.iconst 1, 1) := by decide +kernel
theorem dX0_testLets_63 : decode cX0_testLets 63 = .ok (.goto 4, 3) := by decide +kernel
theorem dX0_testLets_66 : decode cX0_testLets 66 = .ok (.iconst 0, 1) := by decide +kernel
theorem dX0_testLets_67 : decode cX0_testLets 67 = .ok (.ireturn, 1) := by decide +kernel
theorem dX0_testLets_68 : decode cX0_testLets 68 = .ok (.iconst 1, 1) := by decide +kernel
theorem dX0_testLets_69 : decode cX0_testLets 69 = .ok (.ireturn, 1) := by decide +kernel
theorem dX0_testLets_70 : decode cX0_testLets 70 = .ok (.iconst 0, 1) := by decide +kernel
theorem dX0_testLets_71 : decode cX0_testLets 71 = .ok (.ireturn, 1) := by decide +kernel
theorem dX0_turnedByRule_0 : decode cX0_turnedByRule 0 = .ok (.iload_n 0, 1) := by decide +kernel
theorem dX0_turnedByRule_1 : decode cX0_turnedByRule 1 = .ok (.sipush (-10000), 3) := by decide +kernel
theorem dX0_turnedByRule_4 : decode cX0_turnedByRule 4 = .ok (.if_icmp .ne 7, 3) := by decide +kernel
theorem dX0_turnedByRule_7 : decode cX0_turnedByRule 7 = .ok (.sipush (-10000), 3) := by decide +kernel
theorem dX0_turnedByRule_10 : decode cX0_turnedByRule 10 = .ok (.ireturn, 1) := by decide +kernel
theorem dX0_turnedByRule_11 : decode cX0_turnedByRule 11 = .ok (.iload_n 1, 1) := by decide +kernel
theorem dX0_turnedByRule_12 : decode cX0_turnedByRule 12 = .ok (.iload_n 0, 1) := by decide +kernel
theorem dX0_turnedByRule_13 : decode cX0_turnedByRule 13 = .ok (.iconst 3, 1) := by decide +kernel
theorem dX0_turnedByRule_14 : decode cX0_turnedByRule 14 = .ok (.invokestatic 188, 3) := by decide +kernel
theorem dX0_turnedByRule_17 : decode cX0_turnedByRule 17 = .ok (.invokestatic 179, 3) := by decide +kernel
theorem dX0_turnedByRule_20 : decode cX0_turnedByRule 20 = .ok (.ireturn, 1) := by decide +kernel
theorem dX2_add_0 : decode cX2_add 0 = .ok (.lload_n 0, 1) := by decide +kernel
theorem dX2_add_1 : decode cX2_add 1 = .ok (.ldc2_w 156, 3) := by decide +kernel
theorem dX2_add_4 : decode cX2_add 4 = .ok (.lmul, 1) := by decide +kernel
theorem dX2_add_5 : decode cX2_add 5 = .ok (.lload_n 2, 1) := by decide +kernel
theorem dX2_add_6 : decode cX2_add 6 = .ok (.ladd, 1) := by decide +kernel
theorem dX2_add_7 : decode cX2_add 7 = .ok (.lreturn, 1) := by decide +kernel
theorem dX2_bounded_0 : decode cX2_bounded 0 = .ok (.iload_n 0, 1) := by decide +kernel
theorem dX2_bounded_1 : decode cX2_bounded 1 = .ok (.invokestatic 25, 3) := by decide +kernel
theorem dX2_bounded_4 : decode cX2_bounded 4 = .ok (.ifCond .eq 8, 3) := by decide +kernel
theorem dX2_bounded_7 : decode cX2_bounded 7 = .ok (.ldc 9, 2) := by decide +kernel
theorem dX2_bounded_9 : decode cX2_bounded 9 = .ok (.goto 4, 3) := by decide +kernel
theorem dX2_bounded_12 : decode cX2_bounded 12 = .ok (.iload_n 0, 1) := by decide +kernel
theorem dX2_bounded_13 : decode cX2_bounded 13 = .ok (.ireturn, 1) := by decide +kernel
theorem dX2_codeTold_0 : decode cX2_codeTold 0 = .ok (.iload_n 0, 1) := by decide +kernel
theorem dX2_codeTold_1 : decode cX2_codeTold 1 = .ok (.ldc 9, 2) := by decide +kernel
theorem dX2_codeTold_3 : decode cX2_codeTold 3 = .ok (.if_icmp .ne 7, 3) := by decide +kernel
theorem dX2_codeTold_6 : decode cX2_codeTold 6 = .ok (.iconst 0, 1) := by decide +kernel
theorem dX2_codeTold_7 : decode cX2_codeTold 7 = .ok (.goto 4, 3) := by decide +kernel
theorem dX2_codeTold_10 : decode cX2_codeTold 10 = .ok (.iload_n 0, 1) := by decide +kernel
theorem dX2_codeTold_11 : decode cX2_codeTold 11 = .ok (.ireturn, 1) := by decide +kernel
theorem dX2_compared_0 : decode cX2_compared 0 = .ok (.iload_n 0, 1) := by decide +kernel
theorem dX2_compared_1 : decode cX2_compared 1 = .ok (.ldc 9, 2) := by decide +kernel
theorem dX2_compared_3 : decode cX2_compared 3 = .ok (.if_icmp .eq 9, 3) := by decide +kernel
theorem dX2_compared_6 : decode cX2_compared 6 = .ok (.iload_n 1, 1) := by decide +kernel
theorem dX2_compared_7 : decode cX2_compared 7 = .ok (.ldc 9, 2) := by decide +kernel
theorem dX2_compared_9 : decode cX2_compared 9 = .ok (.if_icmp .ne 45, 3) := by decide +kernel
theorem dX2_compared_12 : decode cX2_compared 12 = .ok (.iload_n 1, 1) := by decide +kernel
theorem dX2_compared_13 : decode cX2_compared 13 = .ok (.ldc 9, 2) := by decide +kernel
theorem dX2_compared_15 : decode cX2_compared 15 = .ok (.if_icmp .ne 7, 3) := by decide +kernel
theorem dX2_compared_18 : decode cX2_compared 18 = .ok (.iconst 1, 1) := by decide +kernel
theorem dX2_compared_19 : decode cX2_compared 19 = .ok (.goto 4, 3) := by decide +kernel
theorem dX2_compared_22 : decode cX2_compared 22 = .ok (.iconst 0, 1) := by decide +kernel
theorem dX2_compared_23 : decode cX2_compared 23 = .ok (.invokestatic 32, 3) := by decide +kernel
theorem dX2_compared_26 : decode cX2_compared 26 = .ok (.iload_n 0, 1) := by decide +kernel
theorem dX2_compared_27 : decode cX2_compared 27 = .ok (.ldc 9, 2) := by decide +kernel
theorem dX2_compared_29 : decode cX2_compared 29 = .ok (.if_icmp .ne 7, 3) := by decide +kernel
theorem dX2_compared_32 : decode cX2_compared 32 = .ok (.iconst 1, 1) := by decide +kernel
theorem dX2_compared_33 : decode cX2_compared 33 = .ok (.goto 4, 3) := by decide +kernel
theorem dX2_compared_36 : decode cX2_compared 36 = .ok (.iconst 0, 1) := by decide +kernel
theorem dX2_compared_37 : decode cX2_compared 37 = .ok (.invokestatic 32, 3) := by decide +kernel
theorem dX2_compared_40 : decode cX2_compared 40 = .ok (.isub, 1) := by decide +kernel
theorem dX2_compared_41 : decode cX2_compared 41 = .ok (.istore_n 3, 1) := by decide +kernel
theorem dX2_compared_42 : decode cX2_compared 42 = .ok (.iload_n 2, 1) := by decide +kernel
theorem dX2_compared_43 : decode cX2_compared 43 = .ok (.iconst 1, 1) := by decide +kernel
theorem dX2_compared_44 : decode cX2_compared 44 = .ok (.if_icmp .ne 8, 3) := by decide +kernel
theorem dX2_compared_47 : decode cX2_compared 47 = .ok (.iload_n 3, 1) := by decide +kernel
theorem dX2_compared_48 : decode cX2_compared 48 = .ok (.ineg, 1) := by decide +kernel
theorem dX2_compared_49 : decode cX2_compared 49 = .ok (.goto 4, 3) := by decide +kernel
theorem dX2_compared_52 : decode cX2_compared 52 = .ok (.iload_n 3, 1) := by decide +kernel
theorem dX2_compared_53 : decode cX2_compared 53 = .ok (.ireturn, 1) := by decide +kernel
theorem dX2_compared_54 : decode cX2_compared 54 = .ok (.iload_n 2, 1) := by decide +kernel
theorem dX2_compared_55 : decode cX2_compared 55 = .ok (.iconst 2, 1) := by decide +kernel
theorem dX2_compared_56 : decode cX2_compared 56 = .ok (.if_icmp .ne 10, 3) := by decide +kernel
theorem dX2_compared_59 : decode cX2_compared 59 = .ok (.iload_n 0, 1) := by decide +kernel
theorem dX2_compared_60 : decode cX2_compared 60 = .ok (.invokestatic 98, 3) := by decide +kernel
theorem dX2_compared_63 : decode cX2_compared 63 = .ok (.goto 4, 3) := by decide +kernel
theorem dX2_compared_66 : decode cX2_compared 66 = .ok (.iload_n 0, 1) := by decide +kernel
theorem dX2_compared_67 : decode cX2_compared 67 = .ok (.istore_n 3, 1) := by decide +kernel
theorem dX2_compared_68 : decode cX2_compared 68 = .ok (.iload_n 2, 1) := by decide +kernel
theorem dX2_compared_69 : decode cX2_compared 69 = .ok (.iconst 2, 1) := by decide +kernel
theorem dX2_compared_70 : decode cX2_compared 70 = .ok (.if_icmp .ne 10, 3) := by decide +kernel
theorem dX2_compared_73 : decode cX2_compared 73 = .ok (.iload_n 1, 1) := by decide +kernel
theorem dX2_compared_74 : decode cX2_compared 74 = .ok (.invokestatic 98, 3) := by decide +kernel
theorem dX2_compared_77 : decode cX2_compared 77 = .ok (.goto 4, 3) := by decide +kernel
theorem dX2_compared_80 : decode cX2_compared 80 = .ok (.iload_n 1, 1) := by decide +kernel
theorem dX2_compared_81 : decode cX2_compared 81 = .ok (.istore 4, 2) := by decide +kernel
theorem dX2_compared_83 : decode cX2_compared 83 = .ok (.iload_n 3, 1) := by decide +kernel
theorem dX2_compared_84 : decode cX2_compared 84 = .ok (.iload 4, 2) := by decide +kernel
theorem dX2_compared_86 : decode cX2_compared 86 = .ok (.if_icmp .le 7, 3) := by decide +kernel
theorem dX2_compared_89 : decode cX2_compared 89 = .ok (.iconst 1, 1) := by decide +kernel
theorem dX2_compared_90 : decode cX2_compared 90 = .ok (.goto 4, 3) := by decide +kernel
theorem dX2_compared_93 : decode cX2_compared 93 = .ok (.iconst 0, 1) := by decide +kernel
theorem dX2_compared_94 : decode cX2_compared 94 = .ok (.invokestatic 32, 3) := by decide +kernel
theorem dX2_compared_97 : decode cX2_compared 97 = .ok (.iload_n 3, 1) := by decide +kernel
theorem dX2_compared_98 : decode cX2_compared 98 = .ok (.iload 4, 2) := by decide +kernel
theorem dX2_compared_100 : decode cX2_compared 100 = .ok (.if_icmp .ge 7, 3) := by decide +kernel
theorem dX2_compared_103 : decode cX2_compared 103 = .ok (.iconst 1, 1) := by decide +kernel
theorem dX2_compared_104 : decode cX2_compared 104 = .ok (.goto 4, 3) := by decide +kernel
theorem dX2_compared_107 : decode cX2_compared 107 = .ok (.iconst 0, 1) := by decide +kernel
theorem dX2_compared_108 : decode cX2_compared 108 = .ok (.invokestatic 32, 3) := by decide +kernel
theorem dX2_compared_111 : decode cX2_compared 111 = .ok (.isub, 1) := by decide +kernel
theorem dX2_compared_112 : decode cX2_compared 112 = .ok (.istore 5, 2) := by decide +kernel
theorem dX2_compared_114 : decode cX2_compared 114 = .ok (.iload_n 2, 1) := by decide +kernel
theorem dX2_compared_115 : decode cX2_compared 115 = .ok (.iconst 1, 1) := by decide +kernel
theorem dX2_compared_116 : decode cX2_compared 116 = .ok (.if_icmp .ne 9, 3) := by decide +kernel
theorem dX2_compared_119 : decode cX2_compared 119 = .ok (.iload 5, 2) := by decide +kernel
theorem dX2_compared_121 : decode cX2_compared 121 = .ok (.ineg, 1) := by decide +kernel
theorem dX2_compared_122 : decode cX2_compared 122 = .ok (.goto 5, 3) := by decide +kernel
theorem dX2_compared_125 : decode cX2_compared 125 = .ok (.iload 5, 2) := by decide +kernel
theorem dX2_compared_127 : decode cX2_compared 127 = .ok (.ireturn, 1) := by decide +kernel
theorem dX2_isIn_0 : decode cX2_isIn 0 = .ok (.iload_n 0, 1) := by decide +kernel
theorem dX2_isIn_1 : decode cX2_isIn 1 = .ok (.iload_n 1, 1) := by decide +kernel
theorem dX2_isIn_2 : decode cX2_isIn 2 = .ok (.if_icmp .lt 12, 3) := by decide +kernel
theorem dX2_isIn_5 : decode cX2_isIn 5 = .ok (.iload_n 0, 1) := by decide +kernel
theorem dX2_isIn_6 : decode cX2_isIn 6 = .ok (.iload_n 2, 1) := by decide +kernel
theorem dX2_isIn_7 : decode cX2_isIn 7 = .ok (.if_icmp .gt 7, 3) := by decide +kernel
theorem dX2_isIn_10 : decode cX2_isIn 10 = .ok (.iconst 1, 1) := by decide +kernel
theorem dX2_isIn_11 : decode cX2_isIn 11 = .ok (.goto 4, 3) := by decide +kernel
theorem dX2_isIn_14 : decode cX2_isIn 14 = .ok (.iconst 0, 1) := by decide +kernel
theorem dX2_isIn_15 : decode cX2_isIn 15 = .ok (.ireturn, 1) := by decide +kernel
theorem dX2_isLet_0 : decode cX2_isLet 0 = .ok (.iload_n 0, 1) := by decide +kernel
theorem dX2_isLet_1 : decode cX2_isLet 1 = .ok (.tableswitch 63 0 2 #[27, 38, 49], 27) := by decide +kernel
theorem dX2_isLet_28 : decode cX2_isLet 28 = .ok (.iload_n 1, 1) := by decide +kernel
theorem dX2_isLet_29 : decode cX2_isLet 29 = .ok (.iload_n 2, 1) := by decide +kernel
theorem dX2_isLet_30 : decode cX2_isLet 30 = .ok (.if_icmp .le 7, 3) := by decide +kernel
theorem dX2_isLet_33 : decode cX2_isLet 33 = .ok (.iconst 1, 1) := by decide +kernel
theorem dX2_isLet_34 : decode cX2_isLet 34 = .ok (.goto 4, 3) := by decide +kernel
theorem dX2_isLet_37 : decode cX2_isLet 37 = .ok (.iconst 0, 1) := by decide +kernel
theorem dX2_isLet_38 : decode cX2_isLet 38 = .ok (.ireturn, 1) := by decide +kernel
theorem dX2_isLet_39 : decode cX2_isLet 39 = .ok (.iload_n 1, 1) := by decide +kernel
theorem dX2_isLet_40 : decode cX2_isLet 40 = .ok (.iload_n 2, 1) := by decide +kernel
theorem dX2_isLet_41 : decode cX2_isLet 41 = .ok (.if_icmp .ge 7, 3) := by decide +kernel
theorem dX2_isLet_44 : decode cX2_isLet 44 = .ok (.iconst 1, 1) := by decide +kernel
theorem dX2_isLet_45 : decode cX2_isLet 45 = .ok (.goto 4, 3) := by decide +kernel
theorem dX2_isLet_48 : decode cX2_isLet 48 = .ok (.iconst 0, 1) := by decide +kernel
theorem dX2_isLet_49 : decode cX2_isLet 49 = .ok (.ireturn, 1) := by decide +kernel
theorem dX2_isLet_50 : decode cX2_isLet 50 = .ok (.iload_n 1, 1) := by decide +kernel
theorem dX2_isLet_51 : decode cX2_isLet 51 = .ok (.iload_n 2, 1) := by decide +kernel
theorem dX2_isLet_52 : decode cX2_isLet 52 = .ok (.isub, 1) := by decide +kernel
theorem dX2_isLet_53 : decode cX2_isLet 53 = .ok (.iconst 2, 1) := by decide +kernel
theorem dX2_isLet_54 : decode cX2_isLet 54 = .ok (.irem, 1) := by decide +kernel
theorem dX2_isLet_55 : decode cX2_isLet 55 = .ok (.ifCond .ne 7, 3) := by decide +kernel
theorem dX2_isLet_58 : decode cX2_isLet 58 = .ok (.iconst 1, 1) := by decide +kernel
theorem dX2_isLet_59 : decode cX2_isLet 59 = .ok (.goto 4, 3) := by decide +kernel
theorem dX2_isLet_62 : decode cX2_isLet 62 = .ok (.iconst 0, 1) := by decide +kernel
theorem dX2_isLet_63 : decode cX2_isLet 63 = .ok (.ireturn, 1) := by decide +kernel
theorem dX2_isLet_64 : decode cX2_isLet 64 = .ok (.iload_n 0, 1) := by decide +kernel
theorem dX2_isLet_65 : decode cX2_isLet 65 = .ok (.iconst 3, 1) := by decide +kernel
theorem dX2_isLet_66 : decode cX2_isLet 66 = .ok (.if_icmp .ne 7, 3) := by decide +kernel
theorem dX2_isLet_69 : decode cX2_isLet 69 = .ok (.iconst 1, 1) := by decide +kernel
theorem dX2_isLet_70 : decode cX2_isLet 70 = .ok (.goto 4, 3) := by decide +kernel
theorem dX2_isLet_73 : decode cX2_isLet 73 = .ok (.iconst 0, 1) := by decide +kernel
theorem dX2_isLet_74 : decode cX2_isLet 74 = .ok (.ireturn, 1) := by decide +kernel
theorem dX2_isNoNumber_0 : decode cX2_isNoNumber 0 = .ok (.iload_n 0, 1) := by decide +kernel
theorem dX2_isNoNumber_1 : decode cX2_isNoNumber 1 = .ok (.sipush (-999), 3) := by decide +kernel
theorem dX2_isNoNumber_4 : decode cX2_isNoNumber 4 = .ok (.sipush 999, 3) := by decide +kernel
theorem dX2_isNoNumber_7 : decode cX2_isNoNumber 7 = .ok (.invokestatic 21, 3) := by decide +kernel
theorem dX2_isNoNumber_10 : decode cX2_isNoNumber 10 = .ok (.ifCond .ne 7, 3) := by decide +kernel
theorem dX2_isNoNumber_13 : decode cX2_isNoNumber 13 = .ok (.iconst 1, 1) := by decide +kernel
theorem dX2_isNoNumber_14 : decode cX2_isNoNumber 14 = .ok (.goto 4, 3) := by decide +kernel
theorem dX2_isNoNumber_17 : decode cX2_isNoNumber 17 = .ok (.iconst 0, 1) := by decide +kernel
theorem dX2_isNoNumber_18 : decode cX2_isNoNumber 18 = .ok (.ireturn, 1) := by decide +kernel
theorem dX2_isNoPlain_0 : decode cX2_isNoPlain 0 = .ok (.iload_n 0, 1) := by decide +kernel
theorem dX2_isNoPlain_1 : decode cX2_isNoPlain 1 = .ok (.iconst 0, 1) := by decide +kernel
theorem dX2_isNoPlain_2 : decode cX2_isNoPlain 2 = .ok (.iconst 1, 1) := by decide +kernel
theorem dX2_isNoPlain_3 : decode cX2_isNoPlain 3 = .ok (.invokestatic 21, 3) := by decide +kernel
theorem dX2_isNoPlain_6 : decode cX2_isNoPlain 6 = .ok (.ifCond .ne 7, 3) := by decide +kernel
theorem dX2_isNoPlain_9 : decode cX2_isNoPlain 9 = .ok (.iconst 1, 1) := by decide +kernel
theorem dX2_isNoPlain_10 : decode cX2_isNoPlain 10 = .ok (.goto 4, 3) := by decide +kernel
theorem dX2_isNoPlain_13 : decode cX2_isNoPlain 13 = .ok (.iconst 0, 1) := by decide +kernel
theorem dX2_isNoPlain_14 : decode cX2_isNoPlain 14 = .ok (.ireturn, 1) := by decide +kernel
theorem dX2_isNone_0 : decode cX2_isNone 0 = .ok (.iload_n 0, 1) := by decide +kernel
theorem dX2_isNone_1 : decode cX2_isNone 1 = .ok (.iconst 0, 1) := by decide +kernel
theorem dX2_isNone_2 : decode cX2_isNone 2 = .ok (.iconst 5, 1) := by decide +kernel
theorem dX2_isNone_3 : decode cX2_isNone 3 = .ok (.invokestatic 21, 3) := by decide +kernel
theorem dX2_isNone_6 : decode cX2_isNone 6 = .ok (.ifCond .ne 7, 3) := by decide +kernel
theorem dX2_isNone_9 : decode cX2_isNone 9 = .ok (.iconst 1, 1) := by decide +kernel
theorem dX2_isNone_10 : decode cX2_isNone 10 = .ok (.goto 4, 3) := by decide +kernel
theorem dX2_isNone_13 : decode cX2_isNone 13 = .ok (.iconst 0, 1) := by decide +kernel
theorem dX2_isNone_14 : decode cX2_isNone 14 = .ok (.ireturn, 1) := by decide +kernel
theorem dX2_one_0 : decode cX2_one 0 = .ok (.iload_n 0, 1) := by decide +kernel
theorem dX2_one_1 : decode cX2_one 1 = .ok (.ifCond .eq 7, 3) := by decide +kernel
theorem dX2_one_4 : decode cX2_one 4 = .ok (.iconst 1, 1) := by decide +kernel
theorem dX2_one_5 : decode cX2_one 5 = .ok (.goto 4, 3) := by decide +kernel
theorem dX2_one_8 : decode cX2_one 8 = .ok (.iconst 0, 1) := by decide +kernel
theorem dX2_one_9 : decode cX2_one 9 = .ok (.ireturn, 1) := by decide +kernel
theorem dX2_rule_0 : decode cX2_rule 0 = .ok (.iload_n 0, 1) := by decide +kernel
theorem dX2_rule_1 : decode cX2_rule 1 = .ok (.tableswitch 70 0 4 #[35, 42, 49, 56, 68], 35) := by decide +kernel
theorem dX2_rule_36 : decode cX2_rule 36 = .ok (.iload_n 1, 1) := by decide +kernel
theorem dX2_rule_37 : decode cX2_rule 37 = .ok (.iload_n 2, 1) := by decide +kernel
theorem dX2_rule_38 : decode cX2_rule 38 = .ok (.iadd, 1) := by decide +kernel
theorem dX2_rule_39 : decode cX2_rule 39 = .ok (.invokestatic 36, 3) := by decide +kernel
theorem dX2_rule_42 : decode cX2_rule 42 = .ok (.ireturn, 1) := by decide +kernel
theorem dX2_rule_43 : decode cX2_rule 43 = .ok (.iload_n 1, 1) := by decide +kernel
theorem dX2_rule_44 : decode cX2_rule 44 = .ok (.iload_n 2, 1) := by decide +kernel
theorem dX2_rule_45 : decode cX2_rule 45 = .ok (.imul, 1) := by decide +kernel
theorem dX2_rule_46 : decode cX2_rule 46 = .ok (.invokestatic 36, 3) := by decide +kernel
theorem dX2_rule_49 : decode cX2_rule 49 = .ok (.ireturn, 1) := by decide +kernel
theorem dX2_rule_50 : decode cX2_rule 50 = .ok (.iload_n 2, 1) := by decide +kernel
theorem dX2_rule_51 : decode cX2_rule 51 = .ok (.iload_n 1, 1) := by decide +kernel
theorem dX2_rule_52 : decode cX2_rule 52 = .ok (.isub, 1) := by decide +kernel
theorem dX2_rule_53 : decode cX2_rule 53 = .ok (.invokestatic 36, 3) := by decide +kernel
theorem dX2_rule_56 : decode cX2_rule 56 = .ok (.ireturn, 1) := by decide +kernel
theorem dX2_rule_57 : decode cX2_rule 57 = .ok (.iload_n 1, 1) := by decide +kernel
theorem dX2_rule_58 : decode cX2_rule 58 = .ok (.iload_n 2, 1) := by decide +kernel
theorem dX2_rule_59 : decode cX2_rule 59 = .ok (.if_icmp .lt 7, 3) := by decide +kernel
theorem dX2_rule_62 : decode cX2_rule 62 = .ok (.iload_n 1, 1) := by decide +kernel
theorem dX2_rule_63 : decode cX2_rule 63 = .ok (.goto 5, 3) := by decide +kernel
theorem dX2_rule_66 : decode cX2_rule 66 = .ok (.ldc 9, 2) := by decide +kernel
theorem dX2_rule_68 : decode cX2_rule 68 = .ok (.ireturn, 1) := by decide +kernel
theorem dX2_rule_69 : decode cX2_rule 69 = .ok (.iload_n 1, 1) := by decide +kernel
theorem dX2_rule_70 : decode cX2_rule 70 = .ok (.ireturn, 1) := by decide +kernel
theorem dX2_rule_71 : decode cX2_rule 71 = .ok (.ldc 9, 2) := by decide +kernel
theorem dX2_rule_73 : decode cX2_rule 73 = .ok (.ireturn, 1) := by decide +kernel
def v_X0_isNumber (v1 : Int32) : Int32 := if v1 < (-999) then 0 else (if 999 < v1 then 0 else 1)
set_option maxRecDepth 100000 in
set_option maxHeartbeats 4000000 in
theorem r_X0_isNumber (l : Launch) (D : va_G) (cI cB : ClassId) (v1 : Int32) : RD l yX0_isNumber cX0_isNumber 1 (some .boolean) ({ frames := 0, cells := 0, slots := 0, locals := 0 } : Room) D cI cB [.int v1] [] (v_X0_isNumber v1) := by
  refine bodyRD (by decide +kernel) (Nat.le_of_ble_eq_true rfl) (fun p e s m args below meth c ls FX hr hlk hK hP hl => ?_)
  have hl : lv_has ls 1 [(0, .int v1)] := hl
  refine lv_iload_n FX.1 FX.2.1 dX0_isNumber_0 rfl (lv_at hl 0 rfl) ?_
  refine lv_sipush (v := (-999)) FX.1 FX.2.1 dX0_isNumber_1 (by decide) ?_
  refine lv_icmp_lt (tgt := 18) FX.1 FX.2.1 dX0_isNumber_4 (by decide) (fun c_1 => ?_) (fun c_1 => ?_)
  · refine lv_iconst (v := 0) FX.1 FX.2.1 dX0_isNumber_18 (by decide) ?_
    exact retRD FX hr hlk dX0_isNumber_19 rfl (by rw [v_X0_isNumber, if_pos c_1])
  · refine lv_iload_n FX.1 FX.2.1 dX0_isNumber_7 rfl (lv_at hl 0 rfl) ?_
    refine lv_sipush (v := 999) FX.1 FX.2.1 dX0_isNumber_8 (by decide) ?_
    refine lv_icmp_gt (tgt := 18) FX.1 FX.2.1 dX0_isNumber_11 (by decide) (fun c_2 => ?_) (fun c_2 => ?_)
    · refine lv_iconst (v := 0) FX.1 FX.2.1 dX0_isNumber_18 (by decide) ?_
      exact retRD FX hr hlk dX0_isNumber_19 rfl (by rw [v_X0_isNumber, if_neg c_1, if_pos c_2])
    · refine lv_iconst (v := 1) FX.1 FX.2.1 dX0_isNumber_14 (by decide) ?_
      refine lv_goto (tgt := 19) FX.1 FX.2.1 dX0_isNumber_15 (by decide) ?_
      exact retRD FX hr hlk dX0_isNumber_19 rfl (by rw [v_X0_isNumber, if_neg c_1, if_neg c_2])
theorem b01_v_X0_isNumber (v1 : Int32) : is01 (v_X0_isNumber v1) := by
  unfold v_X0_isNumber
  repeat' split
  all_goals first | exact Or.inl rfl | exact Or.inr rfl
def e_X0_needBox (b1 : Int32) : Nat := if b1 < 0 then 1 else (if b1 < 6 then 0 else 1)
set_option maxRecDepth 100000 in
set_option maxHeartbeats 4000000 in
theorem r_X0_needBox (l : Launch) (D : va_G) (cI cB : ClassId) (b1 : Int32) (h : e_X0_needBox b1 = 0) : RDv l yX0_needBox cX0_needBox 1 none ({ frames := 0, cells := 0, slots := 0, locals := 0 } : Room) D cI cB [.int b1] [] := by
  refine bodyRDv (by decide +kernel) (Nat.le_of_ble_eq_true rfl) (fun p e s m args below meth c ls FX hr hlk hK hP hl => ?_)
  have hl : lv_has ls 1 [(0, .int b1)] := hl
  refine lv_iload_n FX.1 FX.2.1 dX0_needBox_0 rfl (lv_at hl 0 rfl) ?_
  refine lv_if_lt (tgt := 10) FX.1 FX.2.1 dX0_needBox_1 (by decide) (fun c_1 => ?_) (fun c_1 => ?_)
  · exact absurd h (by rw [e_X0_needBox, if_pos c_1]; decide)
  · refine lv_iload_n FX.1 FX.2.1 dX0_needBox_4 rfl (lv_at hl 0 rfl) ?_
    refine lv_bipush (v := 6) FX.1 FX.2.1 dX0_needBox_5 (by decide) ?_
    refine lv_icmp_lt (tgt := 20) FX.1 FX.2.1 dX0_needBox_7 (by decide) (fun c_2 => ?_) (fun c_2 => ?_)
    · exact retRDv FX hr hlk dX0_needBox_20
    · exact absurd h (by rw [e_X0_needBox, if_neg c_1, if_neg c_2]; decide)
set_option maxRecDepth 100000 in
set_option maxHeartbeats 4000000 in
theorem x_X0_needBox (l : Launch) (hl0 : l.stackTraces = false) (D : va_G) (cI cB : ClassId) (b1 : Int32) (h : ¬ e_X0_needBox b1 = 0) : XT l yX0_needBox cX0_needBox 1 none ({ frames := 6, cells := 1, slots := 6, locals := 90 } : Room) D cI cB [.int b1] [] (e_X0_needBox b1) := by
  refine bodyXT (by decide) (Nat.le_of_ble_eq_true rfl) (fun p e s m args below meth c ls Z => ?_)
  obtain ⟨FX, hr, hlk, hK, hP, hz, htab, hl⟩ := Z
  have hl : lv_has ls 1 [(0, .int b1)] := hl
  refine lv_iload_n FX.1 FX.2.1 dX0_needBox_0 rfl (lv_at hl 0 rfl) ?_
  refine lv_if_lt (tgt := 10) FX.1 FX.2.1 dX0_needBox_1 (by decide) (fun c_1 => ?_) (fun c_1 => ?_)
  · exact thr_new (is := 163) (text := "there is no such box") FX htab hlk hl0 (by decide +kernel) cl_RX0_103 tw1_i (by decide) tw1_1 tw1_2 (by decide) tw1_3 hz hl.1 dX0_needBox_10 dX0_needBox_13 dX0_needBox_14 dX0_needBox_16 dX0_needBox_19 (by decide) (by decide) (by decide) (by decide) (by rw [e_X0_needBox, if_pos c_1]; rfl)
  · refine lv_iload_n FX.1 FX.2.1 dX0_needBox_4 rfl (lv_at hl 0 rfl) ?_
    refine lv_bipush (v := 6) FX.1 FX.2.1 dX0_needBox_5 (by decide) ?_
    refine lv_icmp_lt (tgt := 20) FX.1 FX.2.1 dX0_needBox_7 (by decide) (fun c_2 => ?_) (fun c_2 => ?_)
    · exact absurd (by rw [e_X0_needBox, if_neg c_1, if_pos c_2]) h
    · exact thr_new (is := 163) (text := "there is no such box") FX htab hlk hl0 (by decide +kernel) cl_RX0_103 tw1_i (by decide) tw1_1 tw1_2 (by decide) tw1_3 hz hl.1 dX0_needBox_10 dX0_needBox_13 dX0_needBox_14 dX0_needBox_16 dX0_needBox_19 (by decide) (by decide) (by decide) (by decide) (by rw [e_X0_needBox, if_neg c_1, if_neg c_2]; rfl)
def e_X0_needPlain (p1 : Int32) : Nat := if p1 < 0 then 1 else (if p1 < 2 then 0 else 1)
set_option maxRecDepth 100000 in
set_option maxHeartbeats 4000000 in
theorem r_X0_needPlain (l : Launch) (D : va_G) (cI cB : ClassId) (p1 : Int32) (h : e_X0_needPlain p1 = 0) : RDv l yX0_needPlain cX0_needPlain 1 none ({ frames := 0, cells := 0, slots := 0, locals := 0 } : Room) D cI cB [.int p1] [] := by
  refine bodyRDv (by decide +kernel) (Nat.le_of_ble_eq_true rfl) (fun p e s m args below meth c ls FX hr hlk hK hP hl => ?_)
  have hl : lv_has ls 1 [(0, .int p1)] := hl
  refine lv_iload_n FX.1 FX.2.1 dX0_needPlain_0 rfl (lv_at hl 0 rfl) ?_
  refine lv_if_lt (tgt := 9) FX.1 FX.2.1 dX0_needPlain_1 (by decide) (fun c_1 => ?_) (fun c_1 => ?_)
  · exact absurd h (by rw [e_X0_needPlain, if_pos c_1]; decide)
  · refine lv_iload_n FX.1 FX.2.1 dX0_needPlain_4 rfl (lv_at hl 0 rfl) ?_
    refine lv_iconst (v := 2) FX.1 FX.2.1 dX0_needPlain_5 (by decide) ?_
    refine lv_icmp_lt (tgt := 19) FX.1 FX.2.1 dX0_needPlain_6 (by decide) (fun c_2 => ?_) (fun c_2 => ?_)
    · exact retRDv FX hr hlk dX0_needPlain_19
    · exact absurd h (by rw [e_X0_needPlain, if_neg c_1, if_neg c_2]; decide)
set_option maxRecDepth 100000 in
set_option maxHeartbeats 4000000 in
theorem x_X0_needPlain (l : Launch) (hl0 : l.stackTraces = false) (D : va_G) (cI cB : ClassId) (p1 : Int32) (h : ¬ e_X0_needPlain p1 = 0) : XT l yX0_needPlain cX0_needPlain 1 none ({ frames := 6, cells := 1, slots := 6, locals := 90 } : Room) D cI cB [.int p1] [] (e_X0_needPlain p1) := by
  refine bodyXT (by decide) (Nat.le_of_ble_eq_true rfl) (fun p e s m args below meth c ls Z => ?_)
  obtain ⟨FX, hr, hlk, hK, hP, hz, htab, hl⟩ := Z
  have hl : lv_has ls 1 [(0, .int p1)] := hl
  refine lv_iload_n FX.1 FX.2.1 dX0_needPlain_0 rfl (lv_at hl 0 rfl) ?_
  refine lv_if_lt (tgt := 9) FX.1 FX.2.1 dX0_needPlain_1 (by decide) (fun c_1 => ?_) (fun c_1 => ?_)
  · exact thr_new (is := 165) (text := "there is no such plain box") FX htab hlk hl0 (by decide +kernel) cl_RX0_103 tw1_i (by decide) tw1_1 tw1_2 (by decide) tw1_3 hz hl.1 dX0_needPlain_9 dX0_needPlain_12 dX0_needPlain_13 dX0_needPlain_15 dX0_needPlain_18 (by decide) (by decide) (by decide) (by decide) (by rw [e_X0_needPlain, if_pos c_1]; rfl)
  · refine lv_iload_n FX.1 FX.2.1 dX0_needPlain_4 rfl (lv_at hl 0 rfl) ?_
    refine lv_iconst (v := 2) FX.1 FX.2.1 dX0_needPlain_5 (by decide) ?_
    refine lv_icmp_lt (tgt := 19) FX.1 FX.2.1 dX0_needPlain_6 (by decide) (fun c_2 => ?_) (fun c_2 => ?_)
    · exact absurd (by rw [e_X0_needPlain, if_neg c_1, if_pos c_2]) h
    · exact thr_new (is := 165) (text := "there is no such plain box") FX htab hlk hl0 (by decide +kernel) cl_RX0_103 tw1_i (by decide) tw1_1 tw1_2 (by decide) tw1_3 hz hl.1 dX0_needPlain_9 dX0_needPlain_12 dX0_needPlain_13 dX0_needPlain_15 dX0_needPlain_18 (by decide) (by decide) (by decide) (by decide) (by rw [e_X0_needPlain, if_neg c_1, if_neg c_2]; rfl)
def e_X0_needNumber (n1 : Int32) : Nat := if (v_X0_isNumber n1) = 0 then 2 else 0
set_option maxRecDepth 100000 in
set_option maxHeartbeats 4000000 in
theorem r_X0_needNumber (l : Launch) (D : va_G) (cI cB : ClassId) (n1 : Int32) (h : e_X0_needNumber n1 = 0) : RDv l yX0_needNumber cX0_needNumber 1 none ({ frames := 1, cells := 0, slots := 0, locals := 20 } : Room) D cI cB [.int n1] [] := by
  refine bodyRDv (by decide +kernel) (Nat.le_of_ble_eq_true rfl) (fun p e s m args below meth c ls FX hr hlk hK hP hl => ?_)
  have hl : lv_has ls 1 [(0, .int n1)] := hl
  refine lv_iload_n FX.1 FX.2.1 dX0_needNumber_0 rfl (lv_at hl 0 rfl) ?_
  refine c_RDs FX (r_X0_isNumber l D cI cB n1) mi_X0_isNumber rfl ml_RX0_167 (RMok.mk) hl.1 rfl (Nat.le_of_ble_eq_true rfl) dX0_needNumber_1 (by decide) hK hP [] rfl ?_
  refine lv_if_ne (tgt := 17) FX.1 FX.2.1 dX0_needNumber_4 (by decide) (fun c_1 => ?_) (fun c_1 => ?_)
  · exact retRDv FX hr hlk dX0_needNumber_17
  · exact absurd h (by rw [e_X0_needNumber, if_pos c_1]; decide)
set_option maxRecDepth 100000 in
set_option maxHeartbeats 4000000 in
theorem x_X0_needNumber (l : Launch) (hl0 : l.stackTraces = false) (D : va_G) (cI cB : ClassId) (n1 : Int32) (h : ¬ e_X0_needNumber n1 = 0) : XT l yX0_needNumber cX0_needNumber 1 none ({ frames := 6, cells := 1, slots := 6, locals := 90 } : Room) D cI cB [.int n1] [] (e_X0_needNumber n1) := by
  refine bodyXT (by decide) (Nat.le_of_ble_eq_true rfl) (fun p e s m args below meth c ls Z => ?_)
  obtain ⟨FX, hr, hlk, hK, hP, hz, htab, hl⟩ := Z
  have hl : lv_has ls 1 [(0, .int n1)] := hl
  refine lv_iload_n FX.1 FX.2.1 dX0_needNumber_0 rfl (lv_at hl 0 rfl) ?_
  refine c_RDs FX (r_X0_isNumber l D cI cB n1) mi_X0_isNumber rfl ml_RX0_167 (RMok.mk) hl.1 rfl (Nat.le_of_ble_eq_true rfl) dX0_needNumber_1 (by decide) hK hP [] rfl ?_
  refine lv_if_ne (tgt := 17) FX.1 FX.2.1 dX0_needNumber_4 (by decide) (fun c_1 => ?_) (fun c_1 => ?_)
  · exact absurd (by rw [e_X0_needNumber, if_neg c_1]) h
  · exact thr_new (is := 170) (text := "the number is not -999 to 999") FX htab hlk hl0 (by decide +kernel) cl_RX0_98 tw2_i (by decide) tw2_1 tw2_2 (by decide) tw2_3 hz hl.1 dX0_needNumber_7 dX0_needNumber_10 dX0_needNumber_11 dX0_needNumber_13 dX0_needNumber_16 (by decide) (by decide) (by decide) (by decide) (by rw [e_X0_needNumber, if_pos c_1]; rfl)
def e_X0_needKind (k1 : Int32) (k2 : Int32) : Nat := if k1 < 0 then 2 else (if k1 < k2 then 0 else 2)
set_option maxRecDepth 100000 in
set_option maxHeartbeats 4000000 in
theorem r_X0_needKind (l : Launch) (D : va_G) (cI cB : ClassId) (k1 : Int32) (k2 : Int32) (h : e_X0_needKind k1 k2 = 0) : RDv l yX0_needKind cX0_needKind 2 none ({ frames := 0, cells := 0, slots := 0, locals := 0 } : Room) D cI cB [.int k1, .int k2] [] := by
  refine bodyRDv (by decide +kernel) (Nat.le_of_ble_eq_true rfl) (fun p e s m args below meth c ls FX hr hlk hK hP hl => ?_)
  have hl : lv_has ls 2 [(0, .int k1), (1, .int k2)] := hl
  refine lv_iload_n FX.1 FX.2.1 dX0_needKind_0 rfl (lv_at hl 0 rfl) ?_
  refine lv_if_lt (tgt := 9) FX.1 FX.2.1 dX0_needKind_1 (by decide) (fun c_1 => ?_) (fun c_1 => ?_)
  · exact absurd h (by rw [e_X0_needKind, if_pos c_1]; decide)
  · refine lv_iload_n FX.1 FX.2.1 dX0_needKind_4 rfl (lv_at hl 0 rfl) ?_
    refine lv_iload_n FX.1 FX.2.1 dX0_needKind_5 rfl (lv_at hl 1 rfl) ?_
    refine lv_icmp_lt (tgt := 19) FX.1 FX.2.1 dX0_needKind_6 (by decide) (fun c_2 => ?_) (fun c_2 => ?_)
    · exact retRDv FX hr hlk dX0_needKind_19
    · exact absurd h (by rw [e_X0_needKind, if_neg c_1, if_neg c_2]; decide)
set_option maxRecDepth 100000 in
set_option maxHeartbeats 4000000 in
theorem x_X0_needKind (l : Launch) (hl0 : l.stackTraces = false) (D : va_G) (cI cB : ClassId) (k1 : Int32) (k2 : Int32) (h : ¬ e_X0_needKind k1 k2 = 0) : XT l yX0_needKind cX0_needKind 2 none ({ frames := 6, cells := 1, slots := 6, locals := 90 } : Room) D cI cB [.int k1, .int k2] [] (e_X0_needKind k1 k2) := by
  refine bodyXT (by decide) (Nat.le_of_ble_eq_true rfl) (fun p e s m args below meth c ls Z => ?_)
  obtain ⟨FX, hr, hlk, hK, hP, hz, htab, hl⟩ := Z
  have hl : lv_has ls 2 [(0, .int k1), (1, .int k2)] := hl
  refine lv_iload_n FX.1 FX.2.1 dX0_needKind_0 rfl (lv_at hl 0 rfl) ?_
  refine lv_if_lt (tgt := 9) FX.1 FX.2.1 dX0_needKind_1 (by decide) (fun c_1 => ?_) (fun c_1 => ?_)
  · exact thr_new (is := 172) (text := "there is no such kind") FX htab hlk hl0 (by decide +kernel) cl_RX0_98 tw2_i (by decide) tw2_1 tw2_2 (by decide) tw2_3 hz hl.1 dX0_needKind_9 dX0_needKind_12 dX0_needKind_13 dX0_needKind_15 dX0_needKind_18 (by decide) (by decide) (by decide) (by decide) (by rw [e_X0_needKind, if_pos c_1]; rfl)
  · refine lv_iload_n FX.1 FX.2.1 dX0_needKind_4 rfl (lv_at hl 0 rfl) ?_
    refine lv_iload_n FX.1 FX.2.1 dX0_needKind_5 rfl (lv_at hl 1 rfl) ?_
    refine lv_icmp_lt (tgt := 19) FX.1 FX.2.1 dX0_needKind_6 (by decide) (fun c_2 => ?_) (fun c_2 => ?_)
    · exact absurd (by rw [e_X0_needKind, if_neg c_1, if_pos c_2]) h
    · exact thr_new (is := 172) (text := "there is no such kind") FX htab hlk hl0 (by decide +kernel) cl_RX0_98 tw2_i (by decide) tw2_1 tw2_2 (by decide) tw2_3 hz hl.1 dX0_needKind_9 dX0_needKind_12 dX0_needKind_13 dX0_needKind_15 dX0_needKind_18 (by decide) (by decide) (by decide) (by decide) (by rw [e_X0_needKind, if_neg c_1, if_neg c_2]; rfl)
def v_X0_fullness (v1 : Int32) : Int32 := if v1 = (-10000) then 0 else 1
set_option maxRecDepth 100000 in
set_option maxHeartbeats 4000000 in
theorem r_X0_fullness (l : Launch) (D : va_G) (cI cB : ClassId) (v1 : Int32) : RD l yX0_fullness cX0_fullness 1 (some .int) ({ frames := 0, cells := 0, slots := 0, locals := 0 } : Room) D cI cB [.int v1] [] (v_X0_fullness v1) := by
  refine bodyRD (by decide +kernel) (Nat.le_of_ble_eq_true rfl) (fun p e s m args below meth c ls FX hr hlk hK hP hl => ?_)
  have hl : lv_has ls 1 [(0, .int v1)] := hl
  refine lv_iload_n FX.1 FX.2.1 dX0_fullness_0 rfl (lv_at hl 0 rfl) ?_
  refine lv_sipush (v := (-10000)) FX.1 FX.2.1 dX0_fullness_1 (by decide) ?_
  refine lv_icmp_ne (tgt := 11) FX.1 FX.2.1 dX0_fullness_4 (by decide) (fun c_1 => ?_) (fun c_1 => ?_)
  · refine lv_iconst (v := 1) FX.1 FX.2.1 dX0_fullness_11 (by decide) ?_
    exact retRD FX hr hlk dX0_fullness_12 rfl (by rw [v_X0_fullness, if_neg c_1])
  · refine lv_iconst (v := 0) FX.1 FX.2.1 dX0_fullness_7 (by decide) ?_
    refine lv_goto (tgt := 12) FX.1 FX.2.1 dX0_fullness_8 (by decide) ?_
    exact retRD FX hr hlk dX0_fullness_12 rfl (by rw [v_X0_fullness, if_pos c_1])
def v_X0_numberOrZero (v1 : Int32) : Int32 := if v1 = (-10000) then 0 else v1
set_option maxRecDepth 100000 in
set_option maxHeartbeats 4000000 in
theorem r_X0_numberOrZero (l : Launch) (D : va_G) (cI cB : ClassId) (v1 : Int32) : RD l yX0_numberOrZero cX0_numberOrZero 1 (some .int) ({ frames := 0, cells := 0, slots := 0, locals := 0 } : Room) D cI cB [.int v1] [] (v_X0_numberOrZero v1) := by
  refine bodyRD (by decide +kernel) (Nat.le_of_ble_eq_true rfl) (fun p e s m args below meth c ls FX hr hlk hK hP hl => ?_)
  have hl : lv_has ls 1 [(0, .int v1)] := hl
  refine lv_iload_n FX.1 FX.2.1 dX0_numberOrZero_0 rfl (lv_at hl 0 rfl) ?_
  refine lv_sipush (v := (-10000)) FX.1 FX.2.1 dX0_numberOrZero_1 (by decide) ?_
  refine lv_icmp_ne (tgt := 11) FX.1 FX.2.1 dX0_numberOrZero_4 (by decide) (fun c_1 => ?_) (fun c_1 => ?_)
  · refine lv_iload_n FX.1 FX.2.1 dX0_numberOrZero_11 rfl (lv_at hl 0 rfl) ?_
    exact retRD FX hr hlk dX0_numberOrZero_12 rfl (by rw [v_X0_numberOrZero, if_neg c_1])
  · refine lv_iconst (v := 0) FX.1 FX.2.1 dX0_numberOrZero_7 (by decide) ?_
    refine lv_goto (tgt := 12) FX.1 FX.2.1 dX0_numberOrZero_8 (by decide) ?_
    exact retRD FX hr hlk dX0_numberOrZero_12 rfl (by rw [v_X0_numberOrZero, if_pos c_1])
def v_X0_numberOrNothing (v1 : Int32) : Int32 := if (v_X0_isNumber v1) = 0 then (-10000) else v1
set_option maxRecDepth 100000 in
set_option maxHeartbeats 4000000 in
theorem r_X0_numberOrNothing (l : Launch) (D : va_G) (cI cB : ClassId) (v1 : Int32) : RD l yX0_numberOrNothing cX0_numberOrNothing 1 (some .int) ({ frames := 1, cells := 0, slots := 0, locals := 20 } : Room) D cI cB [.int v1] [] (v_X0_numberOrNothing v1) := by
  refine bodyRD (by decide +kernel) (Nat.le_of_ble_eq_true rfl) (fun p e s m args below meth c ls FX hr hlk hK hP hl => ?_)
  have hl : lv_has ls 1 [(0, .int v1)] := hl
  refine lv_iload_n FX.1 FX.2.1 dX0_numberOrNothing_0 rfl (lv_at hl 0 rfl) ?_
  refine c_RDs FX (r_X0_isNumber l D cI cB v1) mi_X0_isNumber rfl ml_RX0_167 (RMok.mk) hl.1 rfl (Nat.le_of_ble_eq_true rfl) dX0_numberOrNothing_1 (by decide) hK hP [] rfl ?_
  refine lv_if_eq (tgt := 11) FX.1 FX.2.1 dX0_numberOrNothing_4 (by decide) (fun c_1 => ?_) (fun c_1 => ?_)
  · refine lv_sipush (v := (-10000)) FX.1 FX.2.1 dX0_numberOrNothing_11 (by decide) ?_
    exact retRD FX hr hlk dX0_numberOrNothing_14 rfl (by rw [v_X0_numberOrNothing, if_pos c_1])
  · refine lv_iload_n FX.1 FX.2.1 dX0_numberOrNothing_7 rfl (lv_at hl 0 rfl) ?_
    refine lv_goto (tgt := 14) FX.1 FX.2.1 dX0_numberOrNothing_8 (by decide) ?_
    exact retRD FX hr hlk dX0_numberOrNothing_14 rfl (by rw [v_X0_numberOrNothing, if_neg c_1])
def v_X0_naturalOrNothing (v1 : Int32) : Int32 := if v1 < 0 then (-10000) else (if 999 < v1 then (-10000) else v1)
set_option maxRecDepth 100000 in
set_option maxHeartbeats 4000000 in
theorem r_X0_naturalOrNothing (l : Launch) (D : va_G) (cI cB : ClassId) (v1 : Int32) : RD l yX0_naturalOrNothing cX0_naturalOrNothing 1 (some .int) ({ frames := 0, cells := 0, slots := 0, locals := 0 } : Room) D cI cB [.int v1] [] (v_X0_naturalOrNothing v1) := by
  refine bodyRD (by decide +kernel) (Nat.le_of_ble_eq_true rfl) (fun p e s m args below meth c ls FX hr hlk hK hP hl => ?_)
  have hl : lv_has ls 1 [(0, .int v1)] := hl
  refine lv_iload_n FX.1 FX.2.1 dX0_naturalOrNothing_0 rfl (lv_at hl 0 rfl) ?_
  refine lv_if_lt (tgt := 15) FX.1 FX.2.1 dX0_naturalOrNothing_1 (by decide) (fun c_1 => ?_) (fun c_1 => ?_)
  · refine lv_sipush (v := (-10000)) FX.1 FX.2.1 dX0_naturalOrNothing_15 (by decide) ?_
    exact retRD FX hr hlk dX0_naturalOrNothing_18 rfl (by rw [v_X0_naturalOrNothing, if_pos c_1])
  · refine lv_iload_n FX.1 FX.2.1 dX0_naturalOrNothing_4 rfl (lv_at hl 0 rfl) ?_
    refine lv_sipush (v := 999) FX.1 FX.2.1 dX0_naturalOrNothing_5 (by decide) ?_
    refine lv_icmp_gt (tgt := 15) FX.1 FX.2.1 dX0_naturalOrNothing_8 (by decide) (fun c_2 => ?_) (fun c_2 => ?_)
    · refine lv_sipush (v := (-10000)) FX.1 FX.2.1 dX0_naturalOrNothing_15 (by decide) ?_
      exact retRD FX hr hlk dX0_naturalOrNothing_18 rfl (by rw [v_X0_naturalOrNothing, if_neg c_1, if_pos c_2])
    · refine lv_iload_n FX.1 FX.2.1 dX0_naturalOrNothing_11 rfl (lv_at hl 0 rfl) ?_
      refine lv_goto (tgt := 18) FX.1 FX.2.1 dX0_naturalOrNothing_12 (by decide) ?_
      exact retRD FX hr hlk dX0_naturalOrNothing_18 rfl (by rw [v_X0_naturalOrNothing, if_neg c_1, if_neg c_2])
def v_X0_alike (v1 : Int32) (v2 : Int32) : Int32 := if v1 = v2 then 1 else 0
set_option maxRecDepth 100000 in
set_option maxHeartbeats 4000000 in
theorem r_X0_alike (l : Launch) (D : va_G) (cI cB : ClassId) (v1 : Int32) (v2 : Int32) : RD l yX0_alike cX0_alike 2 (some .boolean) ({ frames := 0, cells := 0, slots := 0, locals := 0 } : Room) D cI cB [.int v1, .int v2] [] (v_X0_alike v1 v2) := by
  refine bodyRD (by decide +kernel) (Nat.le_of_ble_eq_true rfl) (fun p e s m args below meth c ls FX hr hlk hK hP hl => ?_)
  have hl : lv_has ls 2 [(0, .int v1), (1, .int v2)] := hl
  refine lv_iload_n FX.1 FX.2.1 dX0_alike_0 rfl (lv_at hl 0 rfl) ?_
  refine lv_iload_n FX.1 FX.2.1 dX0_alike_1 rfl (lv_at hl 1 rfl) ?_
  refine lv_icmp_ne (tgt := 9) FX.1 FX.2.1 dX0_alike_2 (by decide) (fun c_1 => ?_) (fun c_1 => ?_)
  · refine lv_iconst (v := 0) FX.1 FX.2.1 dX0_alike_9 (by decide) ?_
    exact retRD FX hr hlk dX0_alike_10 rfl (by rw [v_X0_alike, if_neg c_1])
  · refine lv_iconst (v := 1) FX.1 FX.2.1 dX0_alike_5 (by decide) ?_
    refine lv_goto (tgt := 10) FX.1 FX.2.1 dX0_alike_6 (by decide) ?_
    exact retRD FX hr hlk dX0_alike_10 rfl (by rw [v_X0_alike, if_pos c_1])
theorem b01_v_X0_alike (v1 : Int32) (v2 : Int32) : is01 (v_X0_alike v1 v2) := by
  unfold v_X0_alike
  repeat' split
  all_goals first | exact Or.inl rfl | exact Or.inr rfl
def v_X0_firstFull (v1 : Int32) (v2 : Int32) : Int32 := if v1 = (-10000) then v2 else v1
set_option maxRecDepth 100000 in
set_option maxHeartbeats 4000000 in
theorem r_X0_firstFull (l : Launch) (D : va_G) (cI cB : ClassId) (v1 : Int32) (v2 : Int32) : RD l yX0_firstFull cX0_firstFull 2 (some .int) ({ frames := 0, cells := 0, slots := 0, locals := 0 } : Room) D cI cB [.int v1, .int v2] [] (v_X0_firstFull v1 v2) := by
  refine bodyRD (by decide +kernel) (Nat.le_of_ble_eq_true rfl) (fun p e s m args below meth c ls FX hr hlk hK hP hl => ?_)
  have hl : lv_has ls 2 [(0, .int v1), (1, .int v2)] := hl
  refine lv_iload_n FX.1 FX.2.1 dX0_firstFull_0 rfl (lv_at hl 0 rfl) ?_
  refine lv_sipush (v := (-10000)) FX.1 FX.2.1 dX0_firstFull_1 (by decide) ?_
  refine lv_icmp_ne (tgt := 11) FX.1 FX.2.1 dX0_firstFull_4 (by decide) (fun c_1 => ?_) (fun c_1 => ?_)
  · refine lv_iload_n FX.1 FX.2.1 dX0_firstFull_11 rfl (lv_at hl 0 rfl) ?_
    exact retRD FX hr hlk dX0_firstFull_12 rfl (by rw [v_X0_firstFull, if_neg c_1])
  · refine lv_iload_n FX.1 FX.2.1 dX0_firstFull_7 rfl (lv_at hl 1 rfl) ?_
    refine lv_goto (tgt := 12) FX.1 FX.2.1 dX0_firstFull_8 (by decide) ?_
    exact retRD FX hr hlk dX0_firstFull_12 rfl (by rw [v_X0_firstFull, if_pos c_1])
def v_X0_rewrapped (v1 : Int32) : Int32 := v1
set_option maxRecDepth 100000 in
set_option maxHeartbeats 4000000 in
theorem r_X0_rewrapped (l : Launch) (D : va_G) (cI cB : ClassId) (v1 : Int32) : RD l yX0_rewrapped cX0_rewrapped 1 (some .int) ({ frames := 0, cells := 0, slots := 0, locals := 0 } : Room) D cI cB [.int v1] [] (v_X0_rewrapped v1) := by
  refine bodyRD (by decide +kernel) (Nat.le_of_ble_eq_true rfl) (fun p e s m args below meth c ls FX hr hlk hK hP hl => ?_)
  have hl : lv_has ls 1 [(0, .int v1)] := hl
  refine lv_iload_n FX.1 FX.2.1 dX0_rewrapped_0 rfl (lv_at hl 0 rfl) ?_
  exact retRD FX hr hlk dX0_rewrapped_1 rfl (by rw [v_X0_rewrapped])
def v_X0_ruleMakes (k1 : Int32) (n1 : Int32) (y1 : Int32) : Int32 := if k1 = 0 then v_X0_numberOrNothing (n1 + y1) else (if k1 = 1 then v_X0_numberOrNothing (n1 * y1) else (if k1 = 2 then v_X0_numberOrNothing (y1 - n1) else (if k1 = 3 then (if n1 < y1 then (-10000) else n1) else (if k1 = 4 then n1 else (-10000)))))
set_option maxRecDepth 100000 in
set_option maxHeartbeats 4000000 in
theorem r_X0_ruleMakes (l : Launch) (D : va_G) (cI cB : ClassId) (k1 : Int32) (n1 : Int32) (y1 : Int32) : RD l yX0_ruleMakes cX0_ruleMakes 3 (some .int) ({ frames := 2, cells := 0, slots := 0, locals := 40 } : Room) D cI cB [.int k1, .int n1, .int y1] [] (v_X0_ruleMakes k1 n1 y1) := by
  refine bodyRD (by decide +kernel) (Nat.le_of_ble_eq_true rfl) (fun p e s m args below meth c ls FX hr hlk hK hP hl => ?_)
  have hl : lv_has ls 3 [(0, .int k1), (1, .int n1), (2, .int y1)] := hl
  refine lv_iload_n FX.1 FX.2.1 dX0_ruleMakes_0 rfl (lv_at hl 0 rfl) ?_
  by_cases c_1 : k1 = 0
  · refine lv_tableIn (off := 35) (tgt := 36) FX.1 FX.2.1 dX0_ruleMakes_1 (by rw [c_1]; decide) (by rw [c_1]; decide) (by rw [c_1]; rfl) (by decide) ?_
    refine lv_iload_n FX.1 FX.2.1 dX0_ruleMakes_36 rfl (lv_at hl 1 rfl) ?_
    refine lv_iload_n FX.1 FX.2.1 dX0_ruleMakes_37 rfl (lv_at hl 2 rfl) ?_
    refine lv_iadd FX.1 FX.2.1 dX0_ruleMakes_38 ?_
    refine c_RDs FX (r_X0_numberOrNothing l D cI cB (n1 + y1)) mi_X0_numberOrNothing rfl ml_RX0_179 (RMok.mk) hl.1 rfl (Nat.le_of_ble_eq_true rfl) dX0_ruleMakes_39 (by decide) hK hP [] rfl ?_
    exact retRD FX hr hlk dX0_ruleMakes_42 rfl (by rw [v_X0_ruleMakes, if_pos c_1])
  · by_cases c_2 : k1 = 1
    · refine lv_tableIn (off := 42) (tgt := 43) FX.1 FX.2.1 dX0_ruleMakes_1 (by rw [c_2]; decide) (by rw [c_2]; decide) (by rw [c_2]; rfl) (by decide) ?_
      refine lv_iload_n FX.1 FX.2.1 dX0_ruleMakes_43 rfl (lv_at hl 1 rfl) ?_
      refine lv_iload_n FX.1 FX.2.1 dX0_ruleMakes_44 rfl (lv_at hl 2 rfl) ?_
      refine lv_imul FX.1 FX.2.1 dX0_ruleMakes_45 ?_
      refine c_RDs FX (r_X0_numberOrNothing l D cI cB (n1 * y1)) mi_X0_numberOrNothing rfl ml_RX0_179 (RMok.mk) hl.1 rfl (Nat.le_of_ble_eq_true rfl) dX0_ruleMakes_46 (by decide) hK hP [] rfl ?_
      exact retRD FX hr hlk dX0_ruleMakes_49 rfl (by rw [v_X0_ruleMakes, if_neg c_1, if_pos c_2])
    · by_cases c_3 : k1 = 2
      · refine lv_tableIn (off := 49) (tgt := 50) FX.1 FX.2.1 dX0_ruleMakes_1 (by rw [c_3]; decide) (by rw [c_3]; decide) (by rw [c_3]; rfl) (by decide) ?_
        refine lv_iload_n FX.1 FX.2.1 dX0_ruleMakes_50 rfl (lv_at hl 2 rfl) ?_
        refine lv_iload_n FX.1 FX.2.1 dX0_ruleMakes_51 rfl (lv_at hl 1 rfl) ?_
        refine lv_isub FX.1 FX.2.1 dX0_ruleMakes_52 ?_
        refine c_RDs FX (r_X0_numberOrNothing l D cI cB (y1 - n1)) mi_X0_numberOrNothing rfl ml_RX0_179 (RMok.mk) hl.1 rfl (Nat.le_of_ble_eq_true rfl) dX0_ruleMakes_53 (by decide) hK hP [] rfl ?_
        exact retRD FX hr hlk dX0_ruleMakes_56 rfl (by rw [v_X0_ruleMakes, if_neg c_1, if_neg c_2, if_pos c_3])
      · by_cases c_4 : k1 = 3
        · refine lv_tableIn (off := 56) (tgt := 57) FX.1 FX.2.1 dX0_ruleMakes_1 (by rw [c_4]; decide) (by rw [c_4]; decide) (by rw [c_4]; rfl) (by decide) ?_
          refine lv_iload_n FX.1 FX.2.1 dX0_ruleMakes_57 rfl (lv_at hl 1 rfl) ?_
          refine lv_iload_n FX.1 FX.2.1 dX0_ruleMakes_58 rfl (lv_at hl 2 rfl) ?_
          refine lv_icmp_lt (tgt := 66) FX.1 FX.2.1 dX0_ruleMakes_59 (by decide) (fun c_5 => ?_) (fun c_5 => ?_)
          · refine lv_sipush (v := (-10000)) FX.1 FX.2.1 dX0_ruleMakes_66 (by decide) ?_
            exact retRD FX hr hlk dX0_ruleMakes_69 rfl (by rw [v_X0_ruleMakes, if_neg c_1, if_neg c_2, if_neg c_3, if_pos c_4, if_pos c_5])
          · refine lv_iload_n FX.1 FX.2.1 dX0_ruleMakes_62 rfl (lv_at hl 1 rfl) ?_
            refine lv_goto (tgt := 69) FX.1 FX.2.1 dX0_ruleMakes_63 (by decide) ?_
            exact retRD FX hr hlk dX0_ruleMakes_69 rfl (by rw [v_X0_ruleMakes, if_neg c_1, if_neg c_2, if_neg c_3, if_pos c_4, if_neg c_5])
        · by_cases c_6 : k1 = 4
          · refine lv_tableIn (off := 69) (tgt := 70) FX.1 FX.2.1 dX0_ruleMakes_1 (by rw [c_6]; decide) (by rw [c_6]; decide) (by rw [c_6]; rfl) (by decide) ?_
            refine lv_iload_n FX.1 FX.2.1 dX0_ruleMakes_70 rfl (lv_at hl 1 rfl) ?_
            exact retRD FX hr hlk dX0_ruleMakes_71 rfl (by rw [v_X0_ruleMakes, if_neg c_1, if_neg c_2, if_neg c_3, if_neg c_4, if_pos c_6])
          · refine lv_tableOut (tgt := 72) FX.1 FX.2.1 dX0_ruleMakes_1 (tabOut5 c_1 c_2 c_3 c_4 c_6) (by decide) ?_
            refine lv_sipush (v := (-10000)) FX.1 FX.2.1 dX0_ruleMakes_72 (by decide) ?_
            exact retRD FX hr hlk dX0_ruleMakes_75 rfl (by rw [v_X0_ruleMakes, if_neg c_1, if_neg c_2, if_neg c_3, if_neg c_4, if_neg c_6])
def v_X0_testLets (k1 : Int32) (n1 : Int32) (y1 : Int32) : Int32 := if k1 = 0 then (if n1 ≤ y1 then 0 else 1) else (if k1 = 1 then (if y1 ≤ n1 then 0 else 1) else (if k1 = 2 then (if ((n1 - y1) - (((n1 - y1) / 2) * 2)) = 0 then 1 else 0) else (if k1 = 3 then 1 else 0)))
set_option maxRecDepth 100000 in
set_option maxHeartbeats 4000000 in
theorem r_X0_testLets (l : Launch) (D : va_G) (cI cB : ClassId) (k1 : Int32) (n1 : Int32) (y1 : Int32) : RD l yX0_testLets cX0_testLets 3 (some .boolean) ({ frames := 0, cells := 0, slots := 0, locals := 0 } : Room) D cI cB [.int k1, .int n1, .int y1] [] (v_X0_testLets k1 n1 y1) := by
  refine bodyRD (by decide +kernel) (Nat.le_of_ble_eq_true rfl) (fun p e s m args below meth c ls FX hr hlk hK hP hl => ?_)
  have hl : lv_has ls 3 [(0, .int k1), (1, .int n1), (2, .int y1)] := hl
  refine lv_iload_n FX.1 FX.2.1 dX0_testLets_0 rfl (lv_at hl 0 rfl) ?_
  by_cases c_1 : k1 = 0
  · refine lv_tableIn (off := 31) (tgt := 32) FX.1 FX.2.1 dX0_testLets_1 (by rw [c_1]; decide) (by rw [c_1]; decide) (by rw [c_1]; rfl) (by decide) ?_
    refine lv_iload_n FX.1 FX.2.1 dX0_testLets_32 rfl (lv_at hl 1 rfl) ?_
    refine lv_iload_n FX.1 FX.2.1 dX0_testLets_33 rfl (lv_at hl 2 rfl) ?_
    refine lv_icmp_le (tgt := 41) FX.1 FX.2.1 dX0_testLets_34 (by decide) (fun c_2 => ?_) (fun c_2 => ?_)
    · refine lv_iconst (v := 0) FX.1 FX.2.1 dX0_testLets_41 (by decide) ?_
      exact retRD FX hr hlk dX0_testLets_42 rfl (by rw [v_X0_testLets, if_pos c_1, if_pos c_2])
    · refine lv_iconst (v := 1) FX.1 FX.2.1 dX0_testLets_37 (by decide) ?_
      refine lv_goto (tgt := 42) FX.1 FX.2.1 dX0_testLets_38 (by decide) ?_
      exact retRD FX hr hlk dX0_testLets_42 rfl (by rw [v_X0_testLets, if_pos c_1, if_neg c_2])
  · by_cases c_3 : k1 = 1
    · refine lv_tableIn (off := 42) (tgt := 43) FX.1 FX.2.1 dX0_testLets_1 (by rw [c_3]; decide) (by rw [c_3]; decide) (by rw [c_3]; rfl) (by decide) ?_
      refine lv_iload_n FX.1 FX.2.1 dX0_testLets_43 rfl (lv_at hl 1 rfl) ?_
      refine lv_iload_n FX.1 FX.2.1 dX0_testLets_44 rfl (lv_at hl 2 rfl) ?_
      refine lv_icmp_ge (tgt := 52) FX.1 FX.2.1 dX0_testLets_45 (by decide) (fun c_4 => ?_) (fun c_4 => ?_)
      · refine lv_iconst (v := 0) FX.1 FX.2.1 dX0_testLets_52 (by decide) ?_
        exact retRD FX hr hlk dX0_testLets_53 rfl (by rw [v_X0_testLets, if_neg c_1, if_pos c_3, if_pos c_4])
      · refine lv_iconst (v := 1) FX.1 FX.2.1 dX0_testLets_48 (by decide) ?_
        refine lv_goto (tgt := 53) FX.1 FX.2.1 dX0_testLets_49 (by decide) ?_
        exact retRD FX hr hlk dX0_testLets_53 rfl (by rw [v_X0_testLets, if_neg c_1, if_pos c_3, if_neg c_4])
    · by_cases c_5 : k1 = 2
      · refine lv_tableIn (off := 53) (tgt := 54) FX.1 FX.2.1 dX0_testLets_1 (by rw [c_5]; decide) (by rw [c_5]; decide) (by rw [c_5]; rfl) (by decide) ?_
        refine lv_iload_n FX.1 FX.2.1 dX0_testLets_54 rfl (lv_at hl 1 rfl) ?_
        refine lv_iload_n FX.1 FX.2.1 dX0_testLets_55 rfl (lv_at hl 2 rfl) ?_
        refine lv_isub FX.1 FX.2.1 dX0_testLets_56 ?_
        refine lv_iconst (v := 2) FX.1 FX.2.1 dX0_testLets_57 (by decide) ?_
        refine lv_irem FX.1 FX.2.1 dX0_testLets_58 (by decide) ?_
        refine lv_if_ne (tgt := 66) FX.1 FX.2.1 dX0_testLets_59 (by decide) (fun c_6 => ?_) (fun c_6 => ?_)
        · refine lv_iconst (v := 0) FX.1 FX.2.1 dX0_testLets_66 (by decide) ?_
          exact retRD FX hr hlk dX0_testLets_67 rfl (by rw [v_X0_testLets, if_neg c_1, if_neg c_3, if_pos c_5, if_neg c_6])
        · refine lv_iconst (v := 1) FX.1 FX.2.1 dX0_testLets_62 (by decide) ?_
          refine lv_goto (tgt := 67) FX.1 FX.2.1 dX0_testLets_63 (by decide) ?_
          exact retRD FX hr hlk dX0_testLets_67 rfl (by rw [v_X0_testLets, if_neg c_1, if_neg c_3, if_pos c_5, if_pos c_6])
      · by_cases c_7 : k1 = 3
        · refine lv_tableIn (off := 67) (tgt := 68) FX.1 FX.2.1 dX0_testLets_1 (by rw [c_7]; decide) (by rw [c_7]; decide) (by rw [c_7]; rfl) (by decide) ?_
          refine lv_iconst (v := 1) FX.1 FX.2.1 dX0_testLets_68 (by decide) ?_
          exact retRD FX hr hlk dX0_testLets_69 rfl (by rw [v_X0_testLets, if_neg c_1, if_neg c_3, if_neg c_5, if_pos c_7])
        · refine lv_tableOut (tgt := 70) FX.1 FX.2.1 dX0_testLets_1 (tabOut4 c_1 c_3 c_5 c_7) (by decide) ?_
          refine lv_iconst (v := 0) FX.1 FX.2.1 dX0_testLets_70 (by decide) ?_
          exact retRD FX hr hlk dX0_testLets_71 rfl (by rw [v_X0_testLets, if_neg c_1, if_neg c_3, if_neg c_5, if_neg c_7])
theorem b01_v_X0_testLets (k1 : Int32) (n1 : Int32) (y1 : Int32) : is01 (v_X0_testLets k1 n1 y1) := by
  unfold v_X0_testLets
  repeat' split
  all_goals first | exact Or.inl rfl | exact Or.inr rfl
def v_X0_mapped (v1 : Int32) (k1 : Int32) (y1 : Int32) : Int32 := if v1 = (-10000) then (-10000) else v_X0_ruleMakes k1 v1 y1
set_option maxRecDepth 100000 in
set_option maxHeartbeats 4000000 in
theorem r_X0_mapped (l : Launch) (D : va_G) (cI cB : ClassId) (v1 : Int32) (k1 : Int32) (y1 : Int32) : RD l yX0_mapped cX0_mapped 3 (some .int) ({ frames := 3, cells := 0, slots := 0, locals := 62 } : Room) D cI cB [.int v1, .int k1, .int y1] [] (v_X0_mapped v1 k1 y1) := by
  refine bodyRD (by decide +kernel) (Nat.le_of_ble_eq_true rfl) (fun p e s m args below meth c ls FX hr hlk hK hP hl => ?_)
  have hl : lv_has ls 3 [(0, .int v1), (1, .int k1), (2, .int y1)] := hl
  refine lv_iload_n FX.1 FX.2.1 dX0_mapped_0 rfl (lv_at hl 0 rfl) ?_
  refine lv_sipush (v := (-10000)) FX.1 FX.2.1 dX0_mapped_1 (by decide) ?_
  refine lv_icmp_ne (tgt := 13) FX.1 FX.2.1 dX0_mapped_4 (by decide) (fun c_1 => ?_) (fun c_1 => ?_)
  · refine lv_iload_n FX.1 FX.2.1 dX0_mapped_13 rfl (lv_at hl 1 rfl) ?_
    refine lv_iload_n FX.1 FX.2.1 dX0_mapped_14 rfl (lv_at hl 0 rfl) ?_
    refine lv_iload_n FX.1 FX.2.1 dX0_mapped_15 rfl (lv_at hl 2 rfl) ?_
    refine c_RDs FX (r_X0_ruleMakes l D cI cB k1 v1 y1) mi_X0_ruleMakes rfl ml_RX0_188 (RMok.mk) hl.1 rfl (Nat.le_of_ble_eq_true rfl) dX0_mapped_16 (by decide) hK hP [] rfl ?_
    exact retRD FX hr hlk dX0_mapped_19 rfl (by rw [v_X0_mapped, if_neg c_1])
  · refine lv_sipush (v := (-10000)) FX.1 FX.2.1 dX0_mapped_7 (by decide) ?_
    refine lv_goto (tgt := 19) FX.1 FX.2.1 dX0_mapped_10 (by decide) ?_
    exact retRD FX hr hlk dX0_mapped_19 rfl (by rw [v_X0_mapped, if_pos c_1])
def v_X0_filtered (v1 : Int32) (k1 : Int32) (y1 : Int32) : Int32 := if v1 = (-10000) then (-10000) else (if (v_X0_testLets k1 v1 y1) = 0 then (-10000) else v1)
set_option maxRecDepth 100000 in
set_option maxHeartbeats 4000000 in
theorem r_X0_filtered (l : Launch) (D : va_G) (cI cB : ClassId) (v1 : Int32) (k1 : Int32) (y1 : Int32) : RD l yX0_filtered cX0_filtered 3 (some .int) ({ frames := 1, cells := 0, slots := 0, locals := 22 } : Room) D cI cB [.int v1, .int k1, .int y1] [] (v_X0_filtered v1 k1 y1) := by
  refine bodyRD (by decide +kernel) (Nat.le_of_ble_eq_true rfl) (fun p e s m args below meth c ls FX hr hlk hK hP hl => ?_)
  have hl : lv_has ls 3 [(0, .int v1), (1, .int k1), (2, .int y1)] := hl
  refine lv_iload_n FX.1 FX.2.1 dX0_filtered_0 rfl (lv_at hl 0 rfl) ?_
  refine lv_sipush (v := (-10000)) FX.1 FX.2.1 dX0_filtered_1 (by decide) ?_
  refine lv_icmp_eq (tgt := 20) FX.1 FX.2.1 dX0_filtered_4 (by decide) (fun c_1 => ?_) (fun c_1 => ?_)
  · refine lv_sipush (v := (-10000)) FX.1 FX.2.1 dX0_filtered_20 (by decide) ?_
    exact retRD FX hr hlk dX0_filtered_23 rfl (by rw [v_X0_filtered, if_pos c_1])
  · refine lv_iload_n FX.1 FX.2.1 dX0_filtered_7 rfl (lv_at hl 1 rfl) ?_
    refine lv_iload_n FX.1 FX.2.1 dX0_filtered_8 rfl (lv_at hl 0 rfl) ?_
    refine lv_iload_n FX.1 FX.2.1 dX0_filtered_9 rfl (lv_at hl 2 rfl) ?_
    refine c_RDs FX (r_X0_testLets l D cI cB k1 v1 y1) mi_X0_testLets rfl ml_RX0_194 (RMok.mk) hl.1 rfl (Nat.le_of_ble_eq_true rfl) dX0_filtered_10 (by decide) hK hP [] rfl ?_
    refine lv_if_eq (tgt := 20) FX.1 FX.2.1 dX0_filtered_13 (by decide) (fun c_2 => ?_) (fun c_2 => ?_)
    · refine lv_sipush (v := (-10000)) FX.1 FX.2.1 dX0_filtered_20 (by decide) ?_
      exact retRD FX hr hlk dX0_filtered_23 rfl (by rw [v_X0_filtered, if_neg c_1, if_pos c_2])
    · refine lv_iload_n FX.1 FX.2.1 dX0_filtered_16 rfl (lv_at hl 0 rfl) ?_
      refine lv_goto (tgt := 23) FX.1 FX.2.1 dX0_filtered_17 (by decide) ?_
      exact retRD FX hr hlk dX0_filtered_23 rfl (by rw [v_X0_filtered, if_neg c_1, if_neg c_2])
def v_X0_turnedByRule (v1 : Int32) (k1 : Int32) : Int32 := if v1 = (-10000) then (-10000) else v_X0_numberOrNothing (v_X0_ruleMakes k1 v1 3)
set_option maxRecDepth 100000 in
set_option maxHeartbeats 4000000 in
theorem r_X0_turnedByRule (l : Launch) (D : va_G) (cI cB : ClassId) (v1 : Int32) (k1 : Int32) : RD l yX0_turnedByRule cX0_turnedByRule 2 (some .int) ({ frames := 3, cells := 0, slots := 0, locals := 62 } : Room) D cI cB [.int v1, .int k1] [] (v_X0_turnedByRule v1 k1) := by
  refine bodyRD (by decide +kernel) (Nat.le_of_ble_eq_true rfl) (fun p e s m args below meth c ls FX hr hlk hK hP hl => ?_)
  have hl : lv_has ls 2 [(0, .int v1), (1, .int k1)] := hl
  refine lv_iload_n FX.1 FX.2.1 dX0_turnedByRule_0 rfl (lv_at hl 0 rfl) ?_
  refine lv_sipush (v := (-10000)) FX.1 FX.2.1 dX0_turnedByRule_1 (by decide) ?_
  refine lv_icmp_ne (tgt := 11) FX.1 FX.2.1 dX0_turnedByRule_4 (by decide) (fun c_1 => ?_) (fun c_1 => ?_)
  · refine lv_iload_n FX.1 FX.2.1 dX0_turnedByRule_11 rfl (lv_at hl 1 rfl) ?_
    refine lv_iload_n FX.1 FX.2.1 dX0_turnedByRule_12 rfl (lv_at hl 0 rfl) ?_
    refine lv_iconst (v := 3) FX.1 FX.2.1 dX0_turnedByRule_13 (by decide) ?_
    refine c_RDs FX (r_X0_ruleMakes l D cI cB k1 v1 3) mi_X0_ruleMakes rfl ml_RX0_188 (RMok.mk) hl.1 rfl (Nat.le_of_ble_eq_true rfl) dX0_turnedByRule_14 (by decide) hK hP [] rfl ?_
    refine c_RDs FX (r_X0_numberOrNothing l D cI cB (v_X0_ruleMakes k1 v1 3)) mi_X0_numberOrNothing rfl ml_RX0_179 (RMok.mk) hl.1 rfl (Nat.le_of_ble_eq_true rfl) dX0_turnedByRule_17 (by decide) hK hP [] rfl ?_
    exact retRD FX hr hlk dX0_turnedByRule_20 rfl (by rw [v_X0_turnedByRule, if_neg c_1])
  · refine lv_sipush (v := (-10000)) FX.1 FX.2.1 dX0_turnedByRule_7 (by decide) ?_
    exact retRD FX hr hlk dX0_turnedByRule_10 rfl (by rw [v_X0_turnedByRule, if_pos c_1])
def v_X0_isOrSound (v1 : Int32) : Int32 := if (v_X0_alike (v_X0_firstFull v1 (-10000)) v1) = 0 then 0 else (if (v_X0_alike (v_X0_firstFull (-10000) v1) v1) = 0 then 0 else 1)
set_option maxRecDepth 100000 in
set_option maxHeartbeats 4000000 in
theorem r_X0_isOrSound (l : Launch) (D : va_G) (cI cB : ClassId) (v1 : Int32) : RD l yX0_isOrSound cX0_isOrSound 1 (some .boolean) ({ frames := 1, cells := 0, slots := 0, locals := 21 } : Room) D cI cB [.int v1] [] (v_X0_isOrSound v1) := by
  refine bodyRD (by decide +kernel) (Nat.le_of_ble_eq_true rfl) (fun p e s m args below meth c ls FX hr hlk hK hP hl => ?_)
  have hl : lv_has ls 1 [(0, .int v1)] := hl
  refine lv_iload_n FX.1 FX.2.1 dX0_isOrSound_0 rfl (lv_at hl 0 rfl) ?_
  refine lv_sipush (v := (-10000)) FX.1 FX.2.1 dX0_isOrSound_1 (by decide) ?_
  refine c_RDs FX (r_X0_firstFull l D cI cB v1 (-10000)) mi_X0_firstFull rfl ml_RX0_52 (RMok.mk) hl.1 rfl (Nat.le_of_ble_eq_true rfl) dX0_isOrSound_4 (by decide) hK hP [] rfl ?_
  refine lv_iload_n FX.1 FX.2.1 dX0_isOrSound_7 rfl (lv_at hl 0 rfl) ?_
  refine c_RDs FX (r_X0_alike l D cI cB (v_X0_firstFull v1 (-10000)) v1) mi_X0_alike rfl ml_RX0_78 (RMok.mk) hl.1 rfl (Nat.le_of_ble_eq_true rfl) dX0_isOrSound_8 (by decide) hK hP [] rfl ?_
  refine lv_if_eq (tgt := 32) FX.1 FX.2.1 dX0_isOrSound_11 (by decide) (fun c_1 => ?_) (fun c_1 => ?_)
  · refine lv_iconst (v := 0) FX.1 FX.2.1 dX0_isOrSound_32 (by decide) ?_
    exact retRD FX hr hlk dX0_isOrSound_33 rfl (by rw [v_X0_isOrSound, if_pos c_1])
  · refine lv_sipush (v := (-10000)) FX.1 FX.2.1 dX0_isOrSound_14 (by decide) ?_
    refine lv_iload_n FX.1 FX.2.1 dX0_isOrSound_17 rfl (lv_at hl 0 rfl) ?_
    refine c_RDs FX (r_X0_firstFull l D cI cB (-10000) v1) mi_X0_firstFull rfl ml_RX0_52 (RMok.mk) hl.1 rfl (Nat.le_of_ble_eq_true rfl) dX0_isOrSound_18 (by decide) hK hP [] rfl ?_
    refine lv_iload_n FX.1 FX.2.1 dX0_isOrSound_21 rfl (lv_at hl 0 rfl) ?_
    refine c_RDs FX (r_X0_alike l D cI cB (v_X0_firstFull (-10000) v1) v1) mi_X0_alike rfl ml_RX0_78 (RMok.mk) hl.1 rfl (Nat.le_of_ble_eq_true rfl) dX0_isOrSound_22 (by decide) hK hP [] rfl ?_
    refine lv_if_eq (tgt := 32) FX.1 FX.2.1 dX0_isOrSound_25 (by decide) (fun c_2 => ?_) (fun c_2 => ?_)
    · refine lv_iconst (v := 0) FX.1 FX.2.1 dX0_isOrSound_32 (by decide) ?_
      exact retRD FX hr hlk dX0_isOrSound_33 rfl (by rw [v_X0_isOrSound, if_neg c_1, if_pos c_2])
    · refine lv_iconst (v := 1) FX.1 FX.2.1 dX0_isOrSound_28 (by decide) ?_
      refine lv_goto (tgt := 33) FX.1 FX.2.1 dX0_isOrSound_29 (by decide) ?_
      exact retRD FX hr hlk dX0_isOrSound_33 rfl (by rw [v_X0_isOrSound, if_neg c_1, if_neg c_2])
theorem b01_v_X0_isOrSound (v1 : Int32) : is01 (v_X0_isOrSound v1) := by
  unfold v_X0_isOrSound
  repeat' split
  all_goals first | exact Or.inl rfl | exact Or.inr rfl
def v_X0_mixed (d1 : Int64) (d2 : Int64) : Int64 := (d1 * 31) + d2
set_option maxRecDepth 100000 in
set_option maxHeartbeats 4000000 in
theorem r_X0_mixed (l : Launch) (D : va_G) (cI cB : ClassId) (d1 : Int64) (d2 : Int64) : RDl l yX0_mixed cX0_mixed 4 (some .long) ({ frames := 0, cells := 0, slots := 0, locals := 0 } : Room) D cI cB [.long d1, .long d2] [] (v_X0_mixed d1 d2) := by
  refine bodyRDl (by decide +kernel) (Nat.le_of_ble_eq_true rfl) (fun p e s m args below meth c ls FX hr hlk hK hP hl => ?_)
  have hl : lv_has ls 4 [(0, .long d1), (2, .long d2)] := hl
  refine lv_lload_n FX.1 FX.2.1 dX0_mixed_0 rfl (lv_at hl 0 rfl) ?_
  refine lv_ldc2 (v := 31) FX.1 FX.2.1 FX.2.2.2.1 (FX.2.2.2.2 _ cL_RX0_225) dX0_mixed_1 ?_
  refine lv_lmul FX.1 FX.2.1 dX0_mixed_4 ?_
  refine lv_lload_n FX.1 FX.2.1 dX0_mixed_5 rfl (lv_at hl 1 rfl) ?_
  refine lv_ladd FX.1 FX.2.1 dX0_mixed_6 ?_
  exact retRDl FX hr hlk dX0_mixed_7 (by rw [v_X0_mixed])
def v_X0_standing (v1 : Int32) (k1 : Int32) : Int32 := if k1 = 2 then (if v1 = (-10000) then (-1) else iabs v1) else (if v1 = (-10000) then (if k1 = 1 then -(-1000) else (-1000)) else (if k1 = 1 then -v1 else v1))
set_option maxRecDepth 100000 in
set_option maxHeartbeats 4000000 in
theorem r_X0_standing (l : Launch) (D : va_G) (cI cB : ClassId) (v1 : Int32) (k1 : Int32) : RD l yX0_standing cX0_standing 3 (some .int) ({ frames := 1, cells := 0, slots := 0, locals := 24 } : Room) D cI cB [.int v1, .int k1] [] (v_X0_standing v1 k1) := by
  refine bodyRD (by decide +kernel) (Nat.le_of_ble_eq_true rfl) (fun p e s m args below meth c ls FX hr hlk hK hP hl => ?_)
  have hl : lv_has ls 3 [(0, .int v1), (1, .int k1)] := hl
  refine lv_iload_n FX.1 FX.2.1 dX0_standing_0 rfl (lv_at hl 1 rfl) ?_
  refine lv_iconst (v := 2) FX.1 FX.2.1 dX0_standing_1 (by decide) ?_
  refine lv_icmp_ne (tgt := 21) FX.1 FX.2.1 dX0_standing_2 (by decide) (fun c_1 => ?_) (fun c_1 => ?_)
  · refine lv_iload_n FX.1 FX.2.1 dX0_standing_21 rfl (lv_at hl 0 rfl) ?_
    refine lv_sipush (v := (-10000)) FX.1 FX.2.1 dX0_standing_22 (by decide) ?_
    refine lv_icmp_ne (tgt := 34) FX.1 FX.2.1 dX0_standing_25 (by decide) (fun c_2 => ?_) (fun c_2 => ?_)
    · refine lv_iload_n FX.1 FX.2.1 dX0_standing_34 rfl (lv_at hl 0 rfl) ?_
      refine lv_istore_n (lv' := [(2, .int v1), (0, .int v1), (1, .int k1)]) FX.1 FX.2.1 dX0_standing_35 rfl hl (by decide) rfl (fun ls hl => ?_)
      refine lv_iload_n FX.1 FX.2.1 dX0_standing_36 rfl (lv_at hl 2 rfl) ?_
      refine lv_iconst (v := 1) FX.1 FX.2.1 dX0_standing_37 (by decide) ?_
      refine lv_icmp_ne (tgt := 46) FX.1 FX.2.1 dX0_standing_38 (by decide) (fun c_3 => ?_) (fun c_3 => ?_)
      · refine lv_iload_n FX.1 FX.2.1 dX0_standing_46 rfl (lv_at hl 0 rfl) ?_
        exact retRD FX hr hlk dX0_standing_47 rfl (by rw [v_X0_standing, if_neg c_1, if_neg c_2, if_neg c_3])
      · refine lv_iload_n FX.1 FX.2.1 dX0_standing_41 rfl (lv_at hl 0 rfl) ?_
        refine lv_ineg FX.1 FX.2.1 dX0_standing_42 ?_
        refine lv_goto (tgt := 47) FX.1 FX.2.1 dX0_standing_43 (by decide) ?_
        exact retRD FX hr hlk dX0_standing_47 rfl (by rw [v_X0_standing, if_neg c_1, if_neg c_2, if_pos c_3])
    · refine lv_sipush (v := (-1000)) FX.1 FX.2.1 dX0_standing_28 (by decide) ?_
      refine lv_goto (tgt := 35) FX.1 FX.2.1 dX0_standing_31 (by decide) ?_
      refine lv_istore_n (lv' := [(2, .int (-1000)), (0, .int v1), (1, .int k1)]) FX.1 FX.2.1 dX0_standing_35 rfl hl (by decide) rfl (fun ls hl => ?_)
      refine lv_iload_n FX.1 FX.2.1 dX0_standing_36 rfl (lv_at hl 2 rfl) ?_
      refine lv_iconst (v := 1) FX.1 FX.2.1 dX0_standing_37 (by decide) ?_
      refine lv_icmp_ne (tgt := 46) FX.1 FX.2.1 dX0_standing_38 (by decide) (fun c_4 => ?_) (fun c_4 => ?_)
      · refine lv_iload_n FX.1 FX.2.1 dX0_standing_46 rfl (lv_at hl 0 rfl) ?_
        exact retRD FX hr hlk dX0_standing_47 rfl (by rw [v_X0_standing, if_neg c_1, if_pos c_2, if_neg c_4])
      · refine lv_iload_n FX.1 FX.2.1 dX0_standing_41 rfl (lv_at hl 0 rfl) ?_
        refine lv_ineg FX.1 FX.2.1 dX0_standing_42 ?_
        refine lv_goto (tgt := 47) FX.1 FX.2.1 dX0_standing_43 (by decide) ?_
        exact retRD FX hr hlk dX0_standing_47 rfl (by rw [v_X0_standing, if_neg c_1, if_pos c_2, if_pos c_4])
  · refine lv_iload_n FX.1 FX.2.1 dX0_standing_5 rfl (lv_at hl 0 rfl) ?_
    refine lv_sipush (v := (-10000)) FX.1 FX.2.1 dX0_standing_6 (by decide) ?_
    refine lv_icmp_ne (tgt := 16) FX.1 FX.2.1 dX0_standing_9 (by decide) (fun c_5 => ?_) (fun c_5 => ?_)
    · refine lv_iload_n FX.1 FX.2.1 dX0_standing_16 rfl (lv_at hl 0 rfl) ?_
      refine p_abs FX hl.1 ml_RX0_174 abs_st abs_in abs_cd (by decide) (by decide) (by decide) (by decide) dX0_standing_17 ?_
      exact retRD FX hr hlk dX0_standing_20 rfl (by rw [v_X0_standing, if_pos c_1, if_neg c_5])
    · refine lv_iconst (v := (-1)) FX.1 FX.2.1 dX0_standing_12 (by decide) ?_
      refine lv_goto (tgt := 20) FX.1 FX.2.1 dX0_standing_13 (by decide) ?_
      exact retRD FX hr hlk dX0_standing_20 rfl (by rw [v_X0_standing, if_pos c_1, if_pos c_5])
def v_J9_floorMod_7cf53 (n1 : Int32) : Int32 := if 0 ≤ (n1 ^^^ 6) then n1 - ((n1 / 6) * 6) else (if (n1 - ((n1 / 6) * 6)) = 0 then n1 - ((n1 / 6) * 6) else (n1 - ((n1 / 6) * 6)) + 6)
set_option maxRecDepth 100000 in
set_option maxHeartbeats 4000000 in
theorem r_J9_floorMod_7cf53 (l : Launch) (D : va_G) (cI cB : ClassId) (n1 : Int32) : RD l yJ9_floorMod_7cf53 cJ9_floorMod_7cf53 3 (some .int) ({ frames := 0, cells := 0, slots := 0, locals := 0 } : Room) D cI cB [.int n1, .int 6] [] (v_J9_floorMod_7cf53 n1) := by
  refine bodyRD (by decide +kernel) (Nat.le_of_ble_eq_true rfl) (fun p e s m args below meth c ls FX hr hlk hK hP hl => ?_)
  have hl : lv_has ls 3 [(0, .int n1), (1, .int 6)] := hl
  refine lv_iload_n FX.1 FX.2.1 dJ9_floorMod_7cf53_0 rfl (lv_at hl 0 rfl) ?_
  refine lv_iload_n FX.1 FX.2.1 dJ9_floorMod_7cf53_1 rfl (lv_at hl 1 rfl) ?_
  refine lv_irem FX.1 FX.2.1 dJ9_floorMod_7cf53_2 (by decide) ?_
  refine lv_istore_n (lv' := [(2, .int (n1 - ((n1 / 6) * 6))), (0, .int n1), (1, .int 6)]) FX.1 FX.2.1 dJ9_floorMod_7cf53_3 rfl hl (by decide) rfl (fun ls hl => ?_)
  refine lv_iload_n FX.1 FX.2.1 dJ9_floorMod_7cf53_4 rfl (lv_at hl 1 rfl) ?_
  refine lv_iload_n FX.1 FX.2.1 dJ9_floorMod_7cf53_5 rfl (lv_at hl 2 rfl) ?_
  refine lv_ixor FX.1 FX.2.1 dJ9_floorMod_7cf53_6 ?_
  refine lv_if_ge (tgt := 18) FX.1 FX.2.1 dJ9_floorMod_7cf53_7 (by decide) (fun c_1 => ?_) (fun c_1 => ?_)
  · refine lv_iload_n FX.1 FX.2.1 dJ9_floorMod_7cf53_18 rfl (lv_at hl 0 rfl) ?_
    exact retRD FX hr hlk dJ9_floorMod_7cf53_19 rfl (by rw [v_J9_floorMod_7cf53, if_pos c_1])
  · refine lv_iload_n FX.1 FX.2.1 dJ9_floorMod_7cf53_10 rfl (lv_at hl 0 rfl) ?_
    refine lv_if_eq (tgt := 18) FX.1 FX.2.1 dJ9_floorMod_7cf53_11 (by decide) (fun c_2 => ?_) (fun c_2 => ?_)
    · refine lv_iload_n FX.1 FX.2.1 dJ9_floorMod_7cf53_18 rfl (lv_at hl 0 rfl) ?_
      exact retRD FX hr hlk dJ9_floorMod_7cf53_19 rfl (by rw [v_J9_floorMod_7cf53, if_neg c_1, if_pos c_2])
    · refine lv_iload_n FX.1 FX.2.1 dJ9_floorMod_7cf53_14 rfl (lv_at hl 0 rfl) ?_
      refine lv_iload_n FX.1 FX.2.1 dJ9_floorMod_7cf53_15 rfl (lv_at hl 2 rfl) ?_
      refine lv_iadd FX.1 FX.2.1 dJ9_floorMod_7cf53_16 ?_
      exact retRD FX hr hlk dJ9_floorMod_7cf53_17 rfl (by rw [v_J9_floorMod_7cf53, if_neg c_1, if_neg c_2])
def v_X2_isIn (v1 : Int32) (v2 : Int32) (v3 : Int32) : Int32 := if v1 < v2 then 0 else (if v3 < v1 then 0 else 1)
set_option maxRecDepth 100000 in
set_option maxHeartbeats 4000000 in
theorem r_X2_isIn (l : Launch) (D : va_G) (cI cB : ClassId) (v1 : Int32) (v2 : Int32) (v3 : Int32) : RD l yX2_isIn cX2_isIn 3 (some .boolean) ({ frames := 0, cells := 0, slots := 0, locals := 0 } : Room) D cI cB [.int v1, .int v2, .int v3] [] (v_X2_isIn v1 v2 v3) := by
  refine bodyRD (by decide +kernel) (Nat.le_of_ble_eq_true rfl) (fun p e s m args below meth c ls FX hr hlk hK hP hl => ?_)
  have hl : lv_has ls 3 [(0, .int v1), (1, .int v2), (2, .int v3)] := hl
  refine lv_iload_n FX.1 FX.2.1 dX2_isIn_0 rfl (lv_at hl 0 rfl) ?_
  refine lv_iload_n FX.1 FX.2.1 dX2_isIn_1 rfl (lv_at hl 1 rfl) ?_
  refine lv_icmp_lt (tgt := 14) FX.1 FX.2.1 dX2_isIn_2 (by decide) (fun c_1 => ?_) (fun c_1 => ?_)
  · refine lv_iconst (v := 0) FX.1 FX.2.1 dX2_isIn_14 (by decide) ?_
    exact retRD FX hr hlk dX2_isIn_15 rfl (by rw [v_X2_isIn, if_pos c_1])
  · refine lv_iload_n FX.1 FX.2.1 dX2_isIn_5 rfl (lv_at hl 0 rfl) ?_
    refine lv_iload_n FX.1 FX.2.1 dX2_isIn_6 rfl (lv_at hl 2 rfl) ?_
    refine lv_icmp_gt (tgt := 14) FX.1 FX.2.1 dX2_isIn_7 (by decide) (fun c_2 => ?_) (fun c_2 => ?_)
    · refine lv_iconst (v := 0) FX.1 FX.2.1 dX2_isIn_14 (by decide) ?_
      exact retRD FX hr hlk dX2_isIn_15 rfl (by rw [v_X2_isIn, if_neg c_1, if_pos c_2])
    · refine lv_iconst (v := 1) FX.1 FX.2.1 dX2_isIn_10 (by decide) ?_
      refine lv_goto (tgt := 15) FX.1 FX.2.1 dX2_isIn_11 (by decide) ?_
      exact retRD FX hr hlk dX2_isIn_15 rfl (by rw [v_X2_isIn, if_neg c_1, if_neg c_2])
theorem b01_v_X2_isIn (v1 : Int32) (v2 : Int32) (v3 : Int32) : is01 (v_X2_isIn v1 v2 v3) := by
  unfold v_X2_isIn
  repeat' split
  all_goals first | exact Or.inl rfl | exact Or.inr rfl
def v_X2_one (v1 : Int32) : Int32 := if v1 = 0 then 0 else 1
set_option maxRecDepth 100000 in
set_option maxHeartbeats 4000000 in
theorem r_X2_one (l : Launch) (D : va_G) (cI cB : ClassId) (v1 : Int32) : RD l yX2_one cX2_one 1 (some .int) ({ frames := 0, cells := 0, slots := 0, locals := 0 } : Room) D cI cB [.int v1] [] (v_X2_one v1) := by
  refine bodyRD (by decide +kernel) (Nat.le_of_ble_eq_true rfl) (fun p e s m args below meth c ls FX hr hlk hK hP hl => ?_)
  have hl : lv_has ls 1 [(0, .int v1)] := hl
  refine lv_iload_n FX.1 FX.2.1 dX2_one_0 rfl (lv_at hl 0 rfl) ?_
  refine lv_if_eq (tgt := 8) FX.1 FX.2.1 dX2_one_1 (by decide) (fun c_1 => ?_) (fun c_1 => ?_)
  · refine lv_iconst (v := 0) FX.1 FX.2.1 dX2_one_8 (by decide) ?_
    exact retRD FX hr hlk dX2_one_9 rfl (by rw [v_X2_one, if_pos c_1])
  · refine lv_iconst (v := 1) FX.1 FX.2.1 dX2_one_4 (by decide) ?_
    refine lv_goto (tgt := 9) FX.1 FX.2.1 dX2_one_5 (by decide) ?_
    exact retRD FX hr hlk dX2_one_9 rfl (by rw [v_X2_one, if_neg c_1])
def v_X2_isNone (b1 : Int32) : Int32 := if (v_X2_isIn b1 0 5) = 0 then 1 else 0
set_option maxRecDepth 100000 in
set_option maxHeartbeats 4000000 in
theorem r_X2_isNone (l : Launch) (D : va_G) (cI cB : ClassId) (b1 : Int32) : RD l yX2_isNone cX2_isNone 1 (some .boolean) ({ frames := 1, cells := 0, slots := 0, locals := 22 } : Room) D cI cB [.int b1] [] (v_X2_isNone b1) := by
  refine bodyRD (by decide +kernel) (Nat.le_of_ble_eq_true rfl) (fun p e s m args below meth c ls FX hr hlk hK hP hl => ?_)
  have hl : lv_has ls 1 [(0, .int b1)] := hl
  refine lv_iload_n FX.1 FX.2.1 dX2_isNone_0 rfl (lv_at hl 0 rfl) ?_
  refine lv_iconst (v := 0) FX.1 FX.2.1 dX2_isNone_1 (by decide) ?_
  refine lv_iconst (v := 5) FX.1 FX.2.1 dX2_isNone_2 (by decide) ?_
  refine c_RDs FX (r_X2_isIn l D cI cB b1 0 5) mi_X2_isIn rfl ml_RX2_21 (RMok.mk) hl.1 rfl (Nat.le_of_ble_eq_true rfl) dX2_isNone_3 (by decide) hK hP [] rfl ?_
  refine lv_if_ne (tgt := 13) FX.1 FX.2.1 dX2_isNone_6 (by decide) (fun c_1 => ?_) (fun c_1 => ?_)
  · refine lv_iconst (v := 0) FX.1 FX.2.1 dX2_isNone_13 (by decide) ?_
    exact retRD FX hr hlk dX2_isNone_14 rfl (by rw [v_X2_isNone, if_neg c_1])
  · refine lv_iconst (v := 1) FX.1 FX.2.1 dX2_isNone_9 (by decide) ?_
    refine lv_goto (tgt := 14) FX.1 FX.2.1 dX2_isNone_10 (by decide) ?_
    exact retRD FX hr hlk dX2_isNone_14 rfl (by rw [v_X2_isNone, if_pos c_1])
theorem b01_v_X2_isNone (b1 : Int32) : is01 (v_X2_isNone b1) := by
  unfold v_X2_isNone
  repeat' split
  all_goals first | exact Or.inl rfl | exact Or.inr rfl
def v_X2_isNoPlain (p1 : Int32) : Int32 := if (v_X2_isIn p1 0 1) = 0 then 1 else 0
set_option maxRecDepth 100000 in
set_option maxHeartbeats 4000000 in
theorem r_X2_isNoPlain (l : Launch) (D : va_G) (cI cB : ClassId) (p1 : Int32) : RD l yX2_isNoPlain cX2_isNoPlain 1 (some .boolean) ({ frames := 1, cells := 0, slots := 0, locals := 22 } : Room) D cI cB [.int p1] [] (v_X2_isNoPlain p1) := by
  refine bodyRD (by decide +kernel) (Nat.le_of_ble_eq_true rfl) (fun p e s m args below meth c ls FX hr hlk hK hP hl => ?_)
  have hl : lv_has ls 1 [(0, .int p1)] := hl
  refine lv_iload_n FX.1 FX.2.1 dX2_isNoPlain_0 rfl (lv_at hl 0 rfl) ?_
  refine lv_iconst (v := 0) FX.1 FX.2.1 dX2_isNoPlain_1 (by decide) ?_
  refine lv_iconst (v := 1) FX.1 FX.2.1 dX2_isNoPlain_2 (by decide) ?_
  refine c_RDs FX (r_X2_isIn l D cI cB p1 0 1) mi_X2_isIn rfl ml_RX2_21 (RMok.mk) hl.1 rfl (Nat.le_of_ble_eq_true rfl) dX2_isNoPlain_3 (by decide) hK hP [] rfl ?_
  refine lv_if_ne (tgt := 13) FX.1 FX.2.1 dX2_isNoPlain_6 (by decide) (fun c_1 => ?_) (fun c_1 => ?_)
  · refine lv_iconst (v := 0) FX.1 FX.2.1 dX2_isNoPlain_13 (by decide) ?_
    exact retRD FX hr hlk dX2_isNoPlain_14 rfl (by rw [v_X2_isNoPlain, if_neg c_1])
  · refine lv_iconst (v := 1) FX.1 FX.2.1 dX2_isNoPlain_9 (by decide) ?_
    refine lv_goto (tgt := 14) FX.1 FX.2.1 dX2_isNoPlain_10 (by decide) ?_
    exact retRD FX hr hlk dX2_isNoPlain_14 rfl (by rw [v_X2_isNoPlain, if_pos c_1])
theorem b01_v_X2_isNoPlain (p1 : Int32) : is01 (v_X2_isNoPlain p1) := by
  unfold v_X2_isNoPlain
  repeat' split
  all_goals first | exact Or.inl rfl | exact Or.inr rfl
def v_X2_isNoNumber (n1 : Int32) : Int32 := if (v_X2_isIn n1 (-999) 999) = 0 then 1 else 0
set_option maxRecDepth 100000 in
set_option maxHeartbeats 4000000 in
theorem r_X2_isNoNumber (l : Launch) (D : va_G) (cI cB : ClassId) (n1 : Int32) : RD l yX2_isNoNumber cX2_isNoNumber 1 (some .boolean) ({ frames := 1, cells := 0, slots := 0, locals := 22 } : Room) D cI cB [.int n1] [] (v_X2_isNoNumber n1) := by
  refine bodyRD (by decide +kernel) (Nat.le_of_ble_eq_true rfl) (fun p e s m args below meth c ls FX hr hlk hK hP hl => ?_)
  have hl : lv_has ls 1 [(0, .int n1)] := hl
  refine lv_iload_n FX.1 FX.2.1 dX2_isNoNumber_0 rfl (lv_at hl 0 rfl) ?_
  refine lv_sipush (v := (-999)) FX.1 FX.2.1 dX2_isNoNumber_1 (by decide) ?_
  refine lv_sipush (v := 999) FX.1 FX.2.1 dX2_isNoNumber_4 (by decide) ?_
  refine c_RDs FX (r_X2_isIn l D cI cB n1 (-999) 999) mi_X2_isIn rfl ml_RX2_21 (RMok.mk) hl.1 rfl (Nat.le_of_ble_eq_true rfl) dX2_isNoNumber_7 (by decide) hK hP [] rfl ?_
  refine lv_if_ne (tgt := 17) FX.1 FX.2.1 dX2_isNoNumber_10 (by decide) (fun c_1 => ?_) (fun c_1 => ?_)
  · refine lv_iconst (v := 0) FX.1 FX.2.1 dX2_isNoNumber_17 (by decide) ?_
    exact retRD FX hr hlk dX2_isNoNumber_18 rfl (by rw [v_X2_isNoNumber, if_neg c_1])
  · refine lv_iconst (v := 1) FX.1 FX.2.1 dX2_isNoNumber_13 (by decide) ?_
    refine lv_goto (tgt := 18) FX.1 FX.2.1 dX2_isNoNumber_14 (by decide) ?_
    exact retRD FX hr hlk dX2_isNoNumber_18 rfl (by rw [v_X2_isNoNumber, if_pos c_1])
theorem b01_v_X2_isNoNumber (n1 : Int32) : is01 (v_X2_isNoNumber n1) := by
  unfold v_X2_isNoNumber
  repeat' split
  all_goals first | exact Or.inl rfl | exact Or.inr rfl
def v_X2_bounded (v1 : Int32) : Int32 := if (v_X2_isNoNumber v1) = 0 then v1 else (-100000)
set_option maxRecDepth 100000 in
set_option maxHeartbeats 4000000 in
theorem r_X2_bounded (l : Launch) (D : va_G) (cI cB : ClassId) (v1 : Int32) : RD l yX2_bounded cX2_bounded 1 (some .int) ({ frames := 2, cells := 0, slots := 0, locals := 42 } : Room) D cI cB [.int v1] [] (v_X2_bounded v1) := by
  refine bodyRD (by decide +kernel) (Nat.le_of_ble_eq_true rfl) (fun p e s m args below meth c ls FX hr hlk hK hP hl => ?_)
  have hl : lv_has ls 1 [(0, .int v1)] := hl
  refine lv_iload_n FX.1 FX.2.1 dX2_bounded_0 rfl (lv_at hl 0 rfl) ?_
  refine c_RDs FX (r_X2_isNoNumber l D cI cB v1) mi_X2_isNoNumber rfl ml_RX2_25 (RMok.mk) hl.1 rfl (Nat.le_of_ble_eq_true rfl) dX2_bounded_1 (by decide) hK hP [] rfl ?_
  refine lv_if_eq (tgt := 12) FX.1 FX.2.1 dX2_bounded_4 (by decide) (fun c_1 => ?_) (fun c_1 => ?_)
  · refine lv_iload_n FX.1 FX.2.1 dX2_bounded_12 rfl (lv_at hl 0 rfl) ?_
    exact retRD FX hr hlk dX2_bounded_13 rfl (by rw [v_X2_bounded, if_pos c_1])
  · refine lv_ldc (v := (-100000)) FX.1 FX.2.1 FX.2.2.2.1 (FX.2.2.2.2 _ co_RX2_9) dX2_bounded_7 ?_
    refine lv_goto (tgt := 13) FX.1 FX.2.1 dX2_bounded_9 (by decide) ?_
    exact retRD FX hr hlk dX2_bounded_13 rfl (by rw [v_X2_bounded, if_neg c_1])
def v_X2_rule (k1 : Int32) (n1 : Int32) (y1 : Int32) : Int32 := if k1 = 0 then v_X2_bounded (n1 + y1) else (if k1 = 1 then v_X2_bounded (n1 * y1) else (if k1 = 2 then v_X2_bounded (y1 - n1) else (if k1 = 3 then (if n1 < y1 then (-100000) else n1) else (if k1 = 4 then n1 else (-100000)))))
set_option maxRecDepth 100000 in
set_option maxHeartbeats 4000000 in
theorem r_X2_rule (l : Launch) (D : va_G) (cI cB : ClassId) (k1 : Int32) (n1 : Int32) (y1 : Int32) : RD l yX2_rule cX2_rule 3 (some .int) ({ frames := 3, cells := 0, slots := 0, locals := 62 } : Room) D cI cB [.int k1, .int n1, .int y1] [] (v_X2_rule k1 n1 y1) := by
  refine bodyRD (by decide +kernel) (Nat.le_of_ble_eq_true rfl) (fun p e s m args below meth c ls FX hr hlk hK hP hl => ?_)
  have hl : lv_has ls 3 [(0, .int k1), (1, .int n1), (2, .int y1)] := hl
  refine lv_iload_n FX.1 FX.2.1 dX2_rule_0 rfl (lv_at hl 0 rfl) ?_
  by_cases c_1 : k1 = 0
  · refine lv_tableIn (off := 35) (tgt := 36) FX.1 FX.2.1 dX2_rule_1 (by rw [c_1]; decide) (by rw [c_1]; decide) (by rw [c_1]; rfl) (by decide) ?_
    refine lv_iload_n FX.1 FX.2.1 dX2_rule_36 rfl (lv_at hl 1 rfl) ?_
    refine lv_iload_n FX.1 FX.2.1 dX2_rule_37 rfl (lv_at hl 2 rfl) ?_
    refine lv_iadd FX.1 FX.2.1 dX2_rule_38 ?_
    refine c_RDs FX (r_X2_bounded l D cI cB (n1 + y1)) mi_X2_bounded rfl ml_RX2_36 (RMok.mk) hl.1 rfl (Nat.le_of_ble_eq_true rfl) dX2_rule_39 (by decide) hK hP [] rfl ?_
    exact retRD FX hr hlk dX2_rule_42 rfl (by rw [v_X2_rule, if_pos c_1])
  · by_cases c_2 : k1 = 1
    · refine lv_tableIn (off := 42) (tgt := 43) FX.1 FX.2.1 dX2_rule_1 (by rw [c_2]; decide) (by rw [c_2]; decide) (by rw [c_2]; rfl) (by decide) ?_
      refine lv_iload_n FX.1 FX.2.1 dX2_rule_43 rfl (lv_at hl 1 rfl) ?_
      refine lv_iload_n FX.1 FX.2.1 dX2_rule_44 rfl (lv_at hl 2 rfl) ?_
      refine lv_imul FX.1 FX.2.1 dX2_rule_45 ?_
      refine c_RDs FX (r_X2_bounded l D cI cB (n1 * y1)) mi_X2_bounded rfl ml_RX2_36 (RMok.mk) hl.1 rfl (Nat.le_of_ble_eq_true rfl) dX2_rule_46 (by decide) hK hP [] rfl ?_
      exact retRD FX hr hlk dX2_rule_49 rfl (by rw [v_X2_rule, if_neg c_1, if_pos c_2])
    · by_cases c_3 : k1 = 2
      · refine lv_tableIn (off := 49) (tgt := 50) FX.1 FX.2.1 dX2_rule_1 (by rw [c_3]; decide) (by rw [c_3]; decide) (by rw [c_3]; rfl) (by decide) ?_
        refine lv_iload_n FX.1 FX.2.1 dX2_rule_50 rfl (lv_at hl 2 rfl) ?_
        refine lv_iload_n FX.1 FX.2.1 dX2_rule_51 rfl (lv_at hl 1 rfl) ?_
        refine lv_isub FX.1 FX.2.1 dX2_rule_52 ?_
        refine c_RDs FX (r_X2_bounded l D cI cB (y1 - n1)) mi_X2_bounded rfl ml_RX2_36 (RMok.mk) hl.1 rfl (Nat.le_of_ble_eq_true rfl) dX2_rule_53 (by decide) hK hP [] rfl ?_
        exact retRD FX hr hlk dX2_rule_56 rfl (by rw [v_X2_rule, if_neg c_1, if_neg c_2, if_pos c_3])
      · by_cases c_4 : k1 = 3
        · refine lv_tableIn (off := 56) (tgt := 57) FX.1 FX.2.1 dX2_rule_1 (by rw [c_4]; decide) (by rw [c_4]; decide) (by rw [c_4]; rfl) (by decide) ?_
          refine lv_iload_n FX.1 FX.2.1 dX2_rule_57 rfl (lv_at hl 1 rfl) ?_
          refine lv_iload_n FX.1 FX.2.1 dX2_rule_58 rfl (lv_at hl 2 rfl) ?_
          refine lv_icmp_lt (tgt := 66) FX.1 FX.2.1 dX2_rule_59 (by decide) (fun c_5 => ?_) (fun c_5 => ?_)
          · refine lv_ldc (v := (-100000)) FX.1 FX.2.1 FX.2.2.2.1 (FX.2.2.2.2 _ co_RX2_9) dX2_rule_66 ?_
            exact retRD FX hr hlk dX2_rule_68 rfl (by rw [v_X2_rule, if_neg c_1, if_neg c_2, if_neg c_3, if_pos c_4, if_pos c_5])
          · refine lv_iload_n FX.1 FX.2.1 dX2_rule_62 rfl (lv_at hl 1 rfl) ?_
            refine lv_goto (tgt := 68) FX.1 FX.2.1 dX2_rule_63 (by decide) ?_
            exact retRD FX hr hlk dX2_rule_68 rfl (by rw [v_X2_rule, if_neg c_1, if_neg c_2, if_neg c_3, if_pos c_4, if_neg c_5])
        · by_cases c_6 : k1 = 4
          · refine lv_tableIn (off := 68) (tgt := 69) FX.1 FX.2.1 dX2_rule_1 (by rw [c_6]; decide) (by rw [c_6]; decide) (by rw [c_6]; rfl) (by decide) ?_
            refine lv_iload_n FX.1 FX.2.1 dX2_rule_69 rfl (lv_at hl 1 rfl) ?_
            exact retRD FX hr hlk dX2_rule_70 rfl (by rw [v_X2_rule, if_neg c_1, if_neg c_2, if_neg c_3, if_neg c_4, if_pos c_6])
          · refine lv_tableOut (tgt := 71) FX.1 FX.2.1 dX2_rule_1 (tabOut5 c_1 c_2 c_3 c_4 c_6) (by decide) ?_
            refine lv_ldc (v := (-100000)) FX.1 FX.2.1 FX.2.2.2.1 (FX.2.2.2.2 _ co_RX2_9) dX2_rule_71 ?_
            exact retRD FX hr hlk dX2_rule_73 rfl (by rw [v_X2_rule, if_neg c_1, if_neg c_2, if_neg c_3, if_neg c_4, if_neg c_6])
def v_X2_isLet (k1 : Int32) (n1 : Int32) (y1 : Int32) : Int32 := if k1 = 0 then (if n1 ≤ y1 then 0 else 1) else (if k1 = 1 then (if y1 ≤ n1 then 0 else 1) else (if k1 = 2 then (if ((n1 - y1) - (((n1 - y1) / 2) * 2)) = 0 then 1 else 0) else (if k1 = 3 then 1 else 0)))
set_option maxRecDepth 100000 in
set_option maxHeartbeats 4000000 in
theorem r_X2_isLet (l : Launch) (D : va_G) (cI cB : ClassId) (k1 : Int32) (n1 : Int32) (y1 : Int32) : RD l yX2_isLet cX2_isLet 3 (some .boolean) ({ frames := 0, cells := 0, slots := 0, locals := 0 } : Room) D cI cB [.int k1, .int n1, .int y1] [] (v_X2_isLet k1 n1 y1) := by
  refine bodyRD (by decide +kernel) (Nat.le_of_ble_eq_true rfl) (fun p e s m args below meth c ls FX hr hlk hK hP hl => ?_)
  have hl : lv_has ls 3 [(0, .int k1), (1, .int n1), (2, .int y1)] := hl
  refine lv_iload_n FX.1 FX.2.1 dX2_isLet_0 rfl (lv_at hl 0 rfl) ?_
  by_cases c_1 : k1 = 0
  · refine lv_tableIn (off := 27) (tgt := 28) FX.1 FX.2.1 dX2_isLet_1 (by rw [c_1]; decide) (by rw [c_1]; decide) (by rw [c_1]; rfl) (by decide) ?_
    refine lv_iload_n FX.1 FX.2.1 dX2_isLet_28 rfl (lv_at hl 1 rfl) ?_
    refine lv_iload_n FX.1 FX.2.1 dX2_isLet_29 rfl (lv_at hl 2 rfl) ?_
    refine lv_icmp_le (tgt := 37) FX.1 FX.2.1 dX2_isLet_30 (by decide) (fun c_2 => ?_) (fun c_2 => ?_)
    · refine lv_iconst (v := 0) FX.1 FX.2.1 dX2_isLet_37 (by decide) ?_
      exact retRD FX hr hlk dX2_isLet_38 rfl (by rw [v_X2_isLet, if_pos c_1, if_pos c_2])
    · refine lv_iconst (v := 1) FX.1 FX.2.1 dX2_isLet_33 (by decide) ?_
      refine lv_goto (tgt := 38) FX.1 FX.2.1 dX2_isLet_34 (by decide) ?_
      exact retRD FX hr hlk dX2_isLet_38 rfl (by rw [v_X2_isLet, if_pos c_1, if_neg c_2])
  · by_cases c_3 : k1 = 1
    · refine lv_tableIn (off := 38) (tgt := 39) FX.1 FX.2.1 dX2_isLet_1 (by rw [c_3]; decide) (by rw [c_3]; decide) (by rw [c_3]; rfl) (by decide) ?_
      refine lv_iload_n FX.1 FX.2.1 dX2_isLet_39 rfl (lv_at hl 1 rfl) ?_
      refine lv_iload_n FX.1 FX.2.1 dX2_isLet_40 rfl (lv_at hl 2 rfl) ?_
      refine lv_icmp_ge (tgt := 48) FX.1 FX.2.1 dX2_isLet_41 (by decide) (fun c_4 => ?_) (fun c_4 => ?_)
      · refine lv_iconst (v := 0) FX.1 FX.2.1 dX2_isLet_48 (by decide) ?_
        exact retRD FX hr hlk dX2_isLet_49 rfl (by rw [v_X2_isLet, if_neg c_1, if_pos c_3, if_pos c_4])
      · refine lv_iconst (v := 1) FX.1 FX.2.1 dX2_isLet_44 (by decide) ?_
        refine lv_goto (tgt := 49) FX.1 FX.2.1 dX2_isLet_45 (by decide) ?_
        exact retRD FX hr hlk dX2_isLet_49 rfl (by rw [v_X2_isLet, if_neg c_1, if_pos c_3, if_neg c_4])
    · by_cases c_5 : k1 = 2
      · refine lv_tableIn (off := 49) (tgt := 50) FX.1 FX.2.1 dX2_isLet_1 (by rw [c_5]; decide) (by rw [c_5]; decide) (by rw [c_5]; rfl) (by decide) ?_
        refine lv_iload_n FX.1 FX.2.1 dX2_isLet_50 rfl (lv_at hl 1 rfl) ?_
        refine lv_iload_n FX.1 FX.2.1 dX2_isLet_51 rfl (lv_at hl 2 rfl) ?_
        refine lv_isub FX.1 FX.2.1 dX2_isLet_52 ?_
        refine lv_iconst (v := 2) FX.1 FX.2.1 dX2_isLet_53 (by decide) ?_
        refine lv_irem FX.1 FX.2.1 dX2_isLet_54 (by decide) ?_
        refine lv_if_ne (tgt := 62) FX.1 FX.2.1 dX2_isLet_55 (by decide) (fun c_6 => ?_) (fun c_6 => ?_)
        · refine lv_iconst (v := 0) FX.1 FX.2.1 dX2_isLet_62 (by decide) ?_
          exact retRD FX hr hlk dX2_isLet_63 rfl (by rw [v_X2_isLet, if_neg c_1, if_neg c_3, if_pos c_5, if_neg c_6])
        · refine lv_iconst (v := 1) FX.1 FX.2.1 dX2_isLet_58 (by decide) ?_
          refine lv_goto (tgt := 63) FX.1 FX.2.1 dX2_isLet_59 (by decide) ?_
          exact retRD FX hr hlk dX2_isLet_63 rfl (by rw [v_X2_isLet, if_neg c_1, if_neg c_3, if_pos c_5, if_pos c_6])
      · refine lv_tableOut (tgt := 64) FX.1 FX.2.1 dX2_isLet_1 (tabOut3 c_1 c_3 c_5) (by decide) ?_
        refine lv_iload_n FX.1 FX.2.1 dX2_isLet_64 rfl (lv_at hl 0 rfl) ?_
        refine lv_iconst (v := 3) FX.1 FX.2.1 dX2_isLet_65 (by decide) ?_
        refine lv_icmp_ne (tgt := 73) FX.1 FX.2.1 dX2_isLet_66 (by decide) (fun c_7 => ?_) (fun c_7 => ?_)
        · refine lv_iconst (v := 0) FX.1 FX.2.1 dX2_isLet_73 (by decide) ?_
          exact retRD FX hr hlk dX2_isLet_74 rfl (by rw [v_X2_isLet, if_neg c_1, if_neg c_3, if_neg c_5, if_neg c_7])
        · refine lv_iconst (v := 1) FX.1 FX.2.1 dX2_isLet_69 (by decide) ?_
          refine lv_goto (tgt := 74) FX.1 FX.2.1 dX2_isLet_70 (by decide) ?_
          exact retRD FX hr hlk dX2_isLet_74 rfl (by rw [v_X2_isLet, if_neg c_1, if_neg c_3, if_neg c_5, if_pos c_7])
theorem b01_v_X2_isLet (k1 : Int32) (n1 : Int32) (y1 : Int32) : is01 (v_X2_isLet k1 n1 y1) := by
  unfold v_X2_isLet
  repeat' split
  all_goals first | exact Or.inl rfl | exact Or.inr rfl
def v_X2_codeTold (v1 : Int32) : Int32 := if v1 = (-100000) then 0 else v1
set_option maxRecDepth 100000 in
set_option maxHeartbeats 4000000 in
theorem r_X2_codeTold (l : Launch) (D : va_G) (cI cB : ClassId) (v1 : Int32) : RD l yX2_codeTold cX2_codeTold 1 (some .int) ({ frames := 0, cells := 0, slots := 0, locals := 0 } : Room) D cI cB [.int v1] [] (v_X2_codeTold v1) := by
  refine bodyRD (by decide +kernel) (Nat.le_of_ble_eq_true rfl) (fun p e s m args below meth c ls FX hr hlk hK hP hl => ?_)
  have hl : lv_has ls 1 [(0, .int v1)] := hl
  refine lv_iload_n FX.1 FX.2.1 dX2_codeTold_0 rfl (lv_at hl 0 rfl) ?_
  refine lv_ldc (v := (-100000)) FX.1 FX.2.1 FX.2.2.2.1 (FX.2.2.2.2 _ co_RX2_9) dX2_codeTold_1 ?_
  refine lv_icmp_ne (tgt := 10) FX.1 FX.2.1 dX2_codeTold_3 (by decide) (fun c_1 => ?_) (fun c_1 => ?_)
  · refine lv_iload_n FX.1 FX.2.1 dX2_codeTold_10 rfl (lv_at hl 0 rfl) ?_
    exact retRD FX hr hlk dX2_codeTold_11 rfl (by rw [v_X2_codeTold, if_neg c_1])
  · refine lv_iconst (v := 0) FX.1 FX.2.1 dX2_codeTold_6 (by decide) ?_
    refine lv_goto (tgt := 11) FX.1 FX.2.1 dX2_codeTold_7 (by decide) ?_
    exact retRD FX hr hlk dX2_codeTold_11 rfl (by rw [v_X2_codeTold, if_pos c_1])
def v_X2_add (d1 : Int64) (d2 : Int64) : Int64 := (d1 * 31) + d2
set_option maxRecDepth 100000 in
set_option maxHeartbeats 4000000 in
theorem r_X2_add (l : Launch) (D : va_G) (cI cB : ClassId) (d1 : Int64) (d2 : Int64) : RDl l yX2_add cX2_add 4 (some .long) ({ frames := 0, cells := 0, slots := 0, locals := 0 } : Room) D cI cB [.long d1, .long d2] [] (v_X2_add d1 d2) := by
  refine bodyRDl (by decide +kernel) (Nat.le_of_ble_eq_true rfl) (fun p e s m args below meth c ls FX hr hlk hK hP hl => ?_)
  have hl : lv_has ls 4 [(0, .long d1), (2, .long d2)] := hl
  refine lv_lload_n FX.1 FX.2.1 dX2_add_0 rfl (lv_at hl 0 rfl) ?_
  refine lv_ldc2 (v := 31) FX.1 FX.2.1 FX.2.2.2.1 (FX.2.2.2.2 _ cL_RX2_156) dX2_add_1 ?_
  refine lv_lmul FX.1 FX.2.1 dX2_add_4 ?_
  refine lv_lload_n FX.1 FX.2.1 dX2_add_5 rfl (lv_at hl 1 rfl) ?_
  refine lv_ladd FX.1 FX.2.1 dX2_add_6 ?_
  exact retRDl FX hr hlk dX2_add_7 (by rw [v_X2_add])
def v_X2_compared (v1 : Int32) (v2 : Int32) (k1 : Int32) : Int32 := if v1 = (-100000) then (if v2 = (-100000) then (if k1 = 1 then -((v_X2_one 1) - (v_X2_one 1)) else (v_X2_one 1) - (v_X2_one 1)) else (if k1 = 1 then -((v_X2_one 0) - (v_X2_one 1)) else (v_X2_one 0) - (v_X2_one 1))) else (if v2 = (-100000) then (if k1 = 1 then -((v_X2_one 1) - (v_X2_one 0)) else (v_X2_one 1) - (v_X2_one 0)) else (if k1 = 2 then (if (iabs v1) ≤ (iabs v2) then (if (iabs v2) ≤ (iabs v1) then (if k1 = 1 then -((v_X2_one 0) - (v_X2_one 0)) else (v_X2_one 0) - (v_X2_one 0)) else (if k1 = 1 then -((v_X2_one 0) - (v_X2_one 1)) else (v_X2_one 0) - (v_X2_one 1))) else (if (iabs v2) ≤ (iabs v1) then (if k1 = 1 then -((v_X2_one 1) - (v_X2_one 0)) else (v_X2_one 1) - (v_X2_one 0)) else (if k1 = 1 then -((v_X2_one 1) - (v_X2_one 1)) else (v_X2_one 1) - (v_X2_one 1)))) else (if v1 ≤ v2 then (if v2 ≤ v1 then (if k1 = 1 then -((v_X2_one 0) - (v_X2_one 0)) else (v_X2_one 0) - (v_X2_one 0)) else (if k1 = 1 then -((v_X2_one 0) - (v_X2_one 1)) else (v_X2_one 0) - (v_X2_one 1))) else (if v2 ≤ v1 then (if k1 = 1 then -((v_X2_one 1) - (v_X2_one 0)) else (v_X2_one 1) - (v_X2_one 0)) else (if k1 = 1 then -((v_X2_one 1) - (v_X2_one 1)) else (v_X2_one 1) - (v_X2_one 1))))))
set_option maxRecDepth 100000 in
set_option maxHeartbeats 4000000 in
theorem r_X2_compared (l : Launch) (D : va_G) (cI cB : ClassId) (v1 : Int32) (v2 : Int32) (k1 : Int32) : RD l yX2_compared cX2_compared 6 (some .int) ({ frames := 1, cells := 0, slots := 0, locals := 24 } : Room) D cI cB [.int v1, .int v2, .int k1] [] (v_X2_compared v1 v2 k1) := by
  refine bodyRD (by decide +kernel) (Nat.le_of_ble_eq_true rfl) (fun p e s m args below meth c ls FX hr hlk hK hP hl => ?_)
  have hl : lv_has ls 6 [(0, .int v1), (1, .int v2), (2, .int k1)] := hl
  refine lv_iload_n FX.1 FX.2.1 dX2_compared_0 rfl (lv_at hl 0 rfl) ?_
  refine lv_ldc (v := (-100000)) FX.1 FX.2.1 FX.2.2.2.1 (FX.2.2.2.2 _ co_RX2_9) dX2_compared_1 ?_
  refine lv_icmp_eq (tgt := 12) FX.1 FX.2.1 dX2_compared_3 (by decide) (fun c_1 => ?_) (fun c_1 => ?_)
  · refine lv_iload_n FX.1 FX.2.1 dX2_compared_12 rfl (lv_at hl 1 rfl) ?_
    refine lv_ldc (v := (-100000)) FX.1 FX.2.1 FX.2.2.2.1 (FX.2.2.2.2 _ co_RX2_9) dX2_compared_13 ?_
    refine lv_icmp_ne (tgt := 22) FX.1 FX.2.1 dX2_compared_15 (by decide) (fun c_2 => ?_) (fun c_2 => ?_)
    · refine lv_iconst (v := 0) FX.1 FX.2.1 dX2_compared_22 (by decide) ?_
      refine c_RDs FX (r_X2_one l D cI cB 0) mi_X2_one rfl ml_RX2_32 (RMok.mk) hl.1 rfl (Nat.le_of_ble_eq_true rfl) dX2_compared_23 (by decide) hK hP [] rfl ?_
      refine lv_iload_n FX.1 FX.2.1 dX2_compared_26 rfl (lv_at hl 0 rfl) ?_
      refine lv_ldc (v := (-100000)) FX.1 FX.2.1 FX.2.2.2.1 (FX.2.2.2.2 _ co_RX2_9) dX2_compared_27 ?_
      refine lv_icmp_ne (tgt := 36) FX.1 FX.2.1 dX2_compared_29 (by decide) (fun c_3 => ?_) (fun c_3 => ?_)
      · exact absurd c_1 c_3
      · refine lv_iconst (v := 1) FX.1 FX.2.1 dX2_compared_32 (by decide) ?_
        refine lv_goto (tgt := 37) FX.1 FX.2.1 dX2_compared_33 (by decide) ?_
        refine c_RDs FX (r_X2_one l D cI cB 1) mi_X2_one rfl ml_RX2_32 (RMok.mk) hl.1 rfl (Nat.le_of_ble_eq_true rfl) dX2_compared_37 (by decide) hK hP [] rfl ?_
        refine lv_isub FX.1 FX.2.1 dX2_compared_40 ?_
        refine lv_istore_n (lv' := [(3, .int ((v_X2_one 0) - (v_X2_one 1))), (0, .int v1), (1, .int v2), (2, .int k1)]) FX.1 FX.2.1 dX2_compared_41 rfl hl (by decide) rfl (fun ls hl => ?_)
        refine lv_iload_n FX.1 FX.2.1 dX2_compared_42 rfl (lv_at hl 3 rfl) ?_
        refine lv_iconst (v := 1) FX.1 FX.2.1 dX2_compared_43 (by decide) ?_
        refine lv_icmp_ne (tgt := 52) FX.1 FX.2.1 dX2_compared_44 (by decide) (fun c_4 => ?_) (fun c_4 => ?_)
        · refine lv_iload_n FX.1 FX.2.1 dX2_compared_52 rfl (lv_at hl 0 rfl) ?_
          exact retRD FX hr hlk dX2_compared_53 rfl (by rw [v_X2_compared, if_pos c_1, if_neg c_2, if_neg c_4])
        · refine lv_iload_n FX.1 FX.2.1 dX2_compared_47 rfl (lv_at hl 0 rfl) ?_
          refine lv_ineg FX.1 FX.2.1 dX2_compared_48 ?_
          refine lv_goto (tgt := 53) FX.1 FX.2.1 dX2_compared_49 (by decide) ?_
          exact retRD FX hr hlk dX2_compared_53 rfl (by rw [v_X2_compared, if_pos c_1, if_neg c_2, if_pos c_4])
    · refine lv_iconst (v := 1) FX.1 FX.2.1 dX2_compared_18 (by decide) ?_
      refine lv_goto (tgt := 23) FX.1 FX.2.1 dX2_compared_19 (by decide) ?_
      refine c_RDs FX (r_X2_one l D cI cB 1) mi_X2_one rfl ml_RX2_32 (RMok.mk) hl.1 rfl (Nat.le_of_ble_eq_true rfl) dX2_compared_23 (by decide) hK hP [] rfl ?_
      refine lv_iload_n FX.1 FX.2.1 dX2_compared_26 rfl (lv_at hl 0 rfl) ?_
      refine lv_ldc (v := (-100000)) FX.1 FX.2.1 FX.2.2.2.1 (FX.2.2.2.2 _ co_RX2_9) dX2_compared_27 ?_
      refine lv_icmp_ne (tgt := 36) FX.1 FX.2.1 dX2_compared_29 (by decide) (fun c_5 => ?_) (fun c_5 => ?_)
      · exact absurd c_1 c_5
      · refine lv_iconst (v := 1) FX.1 FX.2.1 dX2_compared_32 (by decide) ?_
        refine lv_goto (tgt := 37) FX.1 FX.2.1 dX2_compared_33 (by decide) ?_
        refine c_RDs FX (r_X2_one l D cI cB 1) mi_X2_one rfl ml_RX2_32 (RMok.mk) hl.1 rfl (Nat.le_of_ble_eq_true rfl) dX2_compared_37 (by decide) hK hP [] rfl ?_
        refine lv_isub FX.1 FX.2.1 dX2_compared_40 ?_
        refine lv_istore_n (lv' := [(3, .int ((v_X2_one 1) - (v_X2_one 1))), (0, .int v1), (1, .int v2), (2, .int k1)]) FX.1 FX.2.1 dX2_compared_41 rfl hl (by decide) rfl (fun ls hl => ?_)
        refine lv_iload_n FX.1 FX.2.1 dX2_compared_42 rfl (lv_at hl 3 rfl) ?_
        refine lv_iconst (v := 1) FX.1 FX.2.1 dX2_compared_43 (by decide) ?_
        refine lv_icmp_ne (tgt := 52) FX.1 FX.2.1 dX2_compared_44 (by decide) (fun c_6 => ?_) (fun c_6 => ?_)
        · refine lv_iload_n FX.1 FX.2.1 dX2_compared_52 rfl (lv_at hl 0 rfl) ?_
          exact retRD FX hr hlk dX2_compared_53 rfl (by rw [v_X2_compared, if_pos c_1, if_pos c_2, if_neg c_6])
        · refine lv_iload_n FX.1 FX.2.1 dX2_compared_47 rfl (lv_at hl 0 rfl) ?_
          refine lv_ineg FX.1 FX.2.1 dX2_compared_48 ?_
          refine lv_goto (tgt := 53) FX.1 FX.2.1 dX2_compared_49 (by decide) ?_
          exact retRD FX hr hlk dX2_compared_53 rfl (by rw [v_X2_compared, if_pos c_1, if_pos c_2, if_pos c_6])
  · refine lv_iload_n FX.1 FX.2.1 dX2_compared_6 rfl (lv_at hl 1 rfl) ?_
    refine lv_ldc (v := (-100000)) FX.1 FX.2.1 FX.2.2.2.1 (FX.2.2.2.2 _ co_RX2_9) dX2_compared_7 ?_
    refine lv_icmp_ne (tgt := 54) FX.1 FX.2.1 dX2_compared_9 (by decide) (fun c_7 => ?_) (fun c_7 => ?_)
    · refine lv_iload_n FX.1 FX.2.1 dX2_compared_54 rfl (lv_at hl 2 rfl) ?_
      refine lv_iconst (v := 2) FX.1 FX.2.1 dX2_compared_55 (by decide) ?_
      refine lv_icmp_ne (tgt := 66) FX.1 FX.2.1 dX2_compared_56 (by decide) (fun c_8 => ?_) (fun c_8 => ?_)
      · refine lv_iload_n FX.1 FX.2.1 dX2_compared_66 rfl (lv_at hl 0 rfl) ?_
        refine lv_istore_n (lv' := [(3, .int v1), (0, .int v1), (1, .int v2), (2, .int k1)]) FX.1 FX.2.1 dX2_compared_67 rfl hl (by decide) rfl (fun ls hl => ?_)
        refine lv_iload_n FX.1 FX.2.1 dX2_compared_68 rfl (lv_at hl 3 rfl) ?_
        refine lv_iconst (v := 2) FX.1 FX.2.1 dX2_compared_69 (by decide) ?_
        refine lv_icmp_ne (tgt := 80) FX.1 FX.2.1 dX2_compared_70 (by decide) (fun c_9 => ?_) (fun c_9 => ?_)
        · refine lv_iload_n FX.1 FX.2.1 dX2_compared_80 rfl (lv_at hl 2 rfl) ?_
          refine lv_istore (lv' := [(4, .int v2), (3, .int v1), (0, .int v1), (1, .int v2), (2, .int k1)]) FX.1 FX.2.1 dX2_compared_81 hl (by decide) rfl (fun ls hl => ?_)
          refine lv_iload_n FX.1 FX.2.1 dX2_compared_83 rfl (lv_at hl 1 rfl) ?_
          refine lv_iload FX.1 FX.2.1 dX2_compared_84 (lv_at hl 0 rfl) ?_
          refine lv_icmp_le (tgt := 93) FX.1 FX.2.1 dX2_compared_86 (by decide) (fun c_10 => ?_) (fun c_10 => ?_)
          · refine lv_iconst (v := 0) FX.1 FX.2.1 dX2_compared_93 (by decide) ?_
            refine c_RDs FX (r_X2_one l D cI cB 0) mi_X2_one rfl ml_RX2_32 (RMok.mk) hl.1 rfl (Nat.le_of_ble_eq_true rfl) dX2_compared_94 (by decide) hK hP [] rfl ?_
            refine lv_iload_n FX.1 FX.2.1 dX2_compared_97 rfl (lv_at hl 1 rfl) ?_
            refine lv_iload FX.1 FX.2.1 dX2_compared_98 (lv_at hl 0 rfl) ?_
            refine lv_icmp_ge (tgt := 107) FX.1 FX.2.1 dX2_compared_100 (by decide) (fun c_11 => ?_) (fun c_11 => ?_)
            · refine lv_iconst (v := 0) FX.1 FX.2.1 dX2_compared_107 (by decide) ?_
              refine c_RDs FX (r_X2_one l D cI cB 0) mi_X2_one rfl ml_RX2_32 (RMok.mk) hl.1 rfl (Nat.le_of_ble_eq_true rfl) dX2_compared_108 (by decide) hK hP [] rfl ?_
              refine lv_isub FX.1 FX.2.1 dX2_compared_111 ?_
              refine lv_istore (lv' := [(5, .int ((v_X2_one 0) - (v_X2_one 0))), (4, .int v2), (3, .int v1), (0, .int v1), (1, .int v2), (2, .int k1)]) FX.1 FX.2.1 dX2_compared_112 hl (by decide) rfl (fun ls hl => ?_)
              refine lv_iload_n FX.1 FX.2.1 dX2_compared_114 rfl (lv_at hl 5 rfl) ?_
              refine lv_iconst (v := 1) FX.1 FX.2.1 dX2_compared_115 (by decide) ?_
              refine lv_icmp_ne (tgt := 125) FX.1 FX.2.1 dX2_compared_116 (by decide) (fun c_12 => ?_) (fun c_12 => ?_)
              · refine lv_iload FX.1 FX.2.1 dX2_compared_125 (lv_at hl 0 rfl) ?_
                exact retRD FX hr hlk dX2_compared_127 rfl (by rw [v_X2_compared, if_neg c_1, if_neg c_7, if_neg c_8, if_pos c_10, if_pos c_11, if_neg c_12])
              · refine lv_iload FX.1 FX.2.1 dX2_compared_119 (lv_at hl 0 rfl) ?_
                refine lv_ineg FX.1 FX.2.1 dX2_compared_121 ?_
                refine lv_goto (tgt := 127) FX.1 FX.2.1 dX2_compared_122 (by decide) ?_
                exact retRD FX hr hlk dX2_compared_127 rfl (by rw [v_X2_compared, if_neg c_1, if_neg c_7, if_neg c_8, if_pos c_10, if_pos c_11, if_pos c_12])
            · refine lv_iconst (v := 1) FX.1 FX.2.1 dX2_compared_103 (by decide) ?_
              refine lv_goto (tgt := 108) FX.1 FX.2.1 dX2_compared_104 (by decide) ?_
              refine c_RDs FX (r_X2_one l D cI cB 1) mi_X2_one rfl ml_RX2_32 (RMok.mk) hl.1 rfl (Nat.le_of_ble_eq_true rfl) dX2_compared_108 (by decide) hK hP [] rfl ?_
              refine lv_isub FX.1 FX.2.1 dX2_compared_111 ?_
              refine lv_istore (lv' := [(5, .int ((v_X2_one 0) - (v_X2_one 1))), (4, .int v2), (3, .int v1), (0, .int v1), (1, .int v2), (2, .int k1)]) FX.1 FX.2.1 dX2_compared_112 hl (by decide) rfl (fun ls hl => ?_)
              refine lv_iload_n FX.1 FX.2.1 dX2_compared_114 rfl (lv_at hl 5 rfl) ?_
              refine lv_iconst (v := 1) FX.1 FX.2.1 dX2_compared_115 (by decide) ?_
              refine lv_icmp_ne (tgt := 125) FX.1 FX.2.1 dX2_compared_116 (by decide) (fun c_13 => ?_) (fun c_13 => ?_)
              · refine lv_iload FX.1 FX.2.1 dX2_compared_125 (lv_at hl 0 rfl) ?_
                exact retRD FX hr hlk dX2_compared_127 rfl (by rw [v_X2_compared, if_neg c_1, if_neg c_7, if_neg c_8, if_pos c_10, if_neg c_11, if_neg c_13])
              · refine lv_iload FX.1 FX.2.1 dX2_compared_119 (lv_at hl 0 rfl) ?_
                refine lv_ineg FX.1 FX.2.1 dX2_compared_121 ?_
                refine lv_goto (tgt := 127) FX.1 FX.2.1 dX2_compared_122 (by decide) ?_
                exact retRD FX hr hlk dX2_compared_127 rfl (by rw [v_X2_compared, if_neg c_1, if_neg c_7, if_neg c_8, if_pos c_10, if_neg c_11, if_pos c_13])
          · refine lv_iconst (v := 1) FX.1 FX.2.1 dX2_compared_89 (by decide) ?_
            refine lv_goto (tgt := 94) FX.1 FX.2.1 dX2_compared_90 (by decide) ?_
            refine c_RDs FX (r_X2_one l D cI cB 1) mi_X2_one rfl ml_RX2_32 (RMok.mk) hl.1 rfl (Nat.le_of_ble_eq_true rfl) dX2_compared_94 (by decide) hK hP [] rfl ?_
            refine lv_iload_n FX.1 FX.2.1 dX2_compared_97 rfl (lv_at hl 1 rfl) ?_
            refine lv_iload FX.1 FX.2.1 dX2_compared_98 (lv_at hl 0 rfl) ?_
            refine lv_icmp_ge (tgt := 107) FX.1 FX.2.1 dX2_compared_100 (by decide) (fun c_14 => ?_) (fun c_14 => ?_)
            · refine lv_iconst (v := 0) FX.1 FX.2.1 dX2_compared_107 (by decide) ?_
              refine c_RDs FX (r_X2_one l D cI cB 0) mi_X2_one rfl ml_RX2_32 (RMok.mk) hl.1 rfl (Nat.le_of_ble_eq_true rfl) dX2_compared_108 (by decide) hK hP [] rfl ?_
              refine lv_isub FX.1 FX.2.1 dX2_compared_111 ?_
              refine lv_istore (lv' := [(5, .int ((v_X2_one 1) - (v_X2_one 0))), (4, .int v2), (3, .int v1), (0, .int v1), (1, .int v2), (2, .int k1)]) FX.1 FX.2.1 dX2_compared_112 hl (by decide) rfl (fun ls hl => ?_)
              refine lv_iload_n FX.1 FX.2.1 dX2_compared_114 rfl (lv_at hl 5 rfl) ?_
              refine lv_iconst (v := 1) FX.1 FX.2.1 dX2_compared_115 (by decide) ?_
              refine lv_icmp_ne (tgt := 125) FX.1 FX.2.1 dX2_compared_116 (by decide) (fun c_15 => ?_) (fun c_15 => ?_)
              · refine lv_iload FX.1 FX.2.1 dX2_compared_125 (lv_at hl 0 rfl) ?_
                exact retRD FX hr hlk dX2_compared_127 rfl (by rw [v_X2_compared, if_neg c_1, if_neg c_7, if_neg c_8, if_neg c_10, if_pos c_14, if_neg c_15])
              · refine lv_iload FX.1 FX.2.1 dX2_compared_119 (lv_at hl 0 rfl) ?_
                refine lv_ineg FX.1 FX.2.1 dX2_compared_121 ?_
                refine lv_goto (tgt := 127) FX.1 FX.2.1 dX2_compared_122 (by decide) ?_
                exact retRD FX hr hlk dX2_compared_127 rfl (by rw [v_X2_compared, if_neg c_1, if_neg c_7, if_neg c_8, if_neg c_10, if_pos c_14, if_pos c_15])
            · refine lv_iconst (v := 1) FX.1 FX.2.1 dX2_compared_103 (by decide) ?_
              refine lv_goto (tgt := 108) FX.1 FX.2.1 dX2_compared_104 (by decide) ?_
              refine c_RDs FX (r_X2_one l D cI cB 1) mi_X2_one rfl ml_RX2_32 (RMok.mk) hl.1 rfl (Nat.le_of_ble_eq_true rfl) dX2_compared_108 (by decide) hK hP [] rfl ?_
              refine lv_isub FX.1 FX.2.1 dX2_compared_111 ?_
              refine lv_istore (lv' := [(5, .int ((v_X2_one 1) - (v_X2_one 1))), (4, .int v2), (3, .int v1), (0, .int v1), (1, .int v2), (2, .int k1)]) FX.1 FX.2.1 dX2_compared_112 hl (by decide) rfl (fun ls hl => ?_)
              refine lv_iload_n FX.1 FX.2.1 dX2_compared_114 rfl (lv_at hl 5 rfl) ?_
              refine lv_iconst (v := 1) FX.1 FX.2.1 dX2_compared_115 (by decide) ?_
              refine lv_icmp_ne (tgt := 125) FX.1 FX.2.1 dX2_compared_116 (by decide) (fun c_16 => ?_) (fun c_16 => ?_)
              · refine lv_iload FX.1 FX.2.1 dX2_compared_125 (lv_at hl 0 rfl) ?_
                exact retRD FX hr hlk dX2_compared_127 rfl (by rw [v_X2_compared, if_neg c_1, if_neg c_7, if_neg c_8, if_neg c_10, if_neg c_14, if_neg c_16])
              · refine lv_iload FX.1 FX.2.1 dX2_compared_119 (lv_at hl 0 rfl) ?_
                refine lv_ineg FX.1 FX.2.1 dX2_compared_121 ?_
                refine lv_goto (tgt := 127) FX.1 FX.2.1 dX2_compared_122 (by decide) ?_
                exact retRD FX hr hlk dX2_compared_127 rfl (by rw [v_X2_compared, if_neg c_1, if_neg c_7, if_neg c_8, if_neg c_10, if_neg c_14, if_pos c_16])
        · exact absurd c_9 c_8
      · refine lv_iload_n FX.1 FX.2.1 dX2_compared_59 rfl (lv_at hl 0 rfl) ?_
        refine p_abs FX hl.1 ml_RX2_98 abs_st abs_in abs_cd (by decide) (by decide) (by decide) (by decide) dX2_compared_60 ?_
        refine lv_goto (tgt := 67) FX.1 FX.2.1 dX2_compared_63 (by decide) ?_
        refine lv_istore_n (lv' := [(3, .int (iabs v1)), (0, .int v1), (1, .int v2), (2, .int k1)]) FX.1 FX.2.1 dX2_compared_67 rfl hl (by decide) rfl (fun ls hl => ?_)
        refine lv_iload_n FX.1 FX.2.1 dX2_compared_68 rfl (lv_at hl 3 rfl) ?_
        refine lv_iconst (v := 2) FX.1 FX.2.1 dX2_compared_69 (by decide) ?_
        refine lv_icmp_ne (tgt := 80) FX.1 FX.2.1 dX2_compared_70 (by decide) (fun c_17 => ?_) (fun c_17 => ?_)
        · exact absurd c_8 c_17
        · refine lv_iload_n FX.1 FX.2.1 dX2_compared_73 rfl (lv_at hl 2 rfl) ?_
          refine p_abs FX hl.1 ml_RX2_98 abs_st abs_in abs_cd (by decide) (by decide) (by decide) (by decide) dX2_compared_74 ?_
          refine lv_goto (tgt := 81) FX.1 FX.2.1 dX2_compared_77 (by decide) ?_
          refine lv_istore (lv' := [(4, .int (iabs v2)), (3, .int (iabs v1)), (0, .int v1), (1, .int v2), (2, .int k1)]) FX.1 FX.2.1 dX2_compared_81 hl (by decide) rfl (fun ls hl => ?_)
          refine lv_iload_n FX.1 FX.2.1 dX2_compared_83 rfl (lv_at hl 1 rfl) ?_
          refine lv_iload FX.1 FX.2.1 dX2_compared_84 (lv_at hl 0 rfl) ?_
          refine lv_icmp_le (tgt := 93) FX.1 FX.2.1 dX2_compared_86 (by decide) (fun c_18 => ?_) (fun c_18 => ?_)
          · refine lv_iconst (v := 0) FX.1 FX.2.1 dX2_compared_93 (by decide) ?_
            refine c_RDs FX (r_X2_one l D cI cB 0) mi_X2_one rfl ml_RX2_32 (RMok.mk) hl.1 rfl (Nat.le_of_ble_eq_true rfl) dX2_compared_94 (by decide) hK hP [] rfl ?_
            refine lv_iload_n FX.1 FX.2.1 dX2_compared_97 rfl (lv_at hl 1 rfl) ?_
            refine lv_iload FX.1 FX.2.1 dX2_compared_98 (lv_at hl 0 rfl) ?_
            refine lv_icmp_ge (tgt := 107) FX.1 FX.2.1 dX2_compared_100 (by decide) (fun c_19 => ?_) (fun c_19 => ?_)
            · refine lv_iconst (v := 0) FX.1 FX.2.1 dX2_compared_107 (by decide) ?_
              refine c_RDs FX (r_X2_one l D cI cB 0) mi_X2_one rfl ml_RX2_32 (RMok.mk) hl.1 rfl (Nat.le_of_ble_eq_true rfl) dX2_compared_108 (by decide) hK hP [] rfl ?_
              refine lv_isub FX.1 FX.2.1 dX2_compared_111 ?_
              refine lv_istore (lv' := [(5, .int ((v_X2_one 0) - (v_X2_one 0))), (4, .int (iabs v2)), (3, .int (iabs v1)), (0, .int v1), (1, .int v2), (2, .int k1)]) FX.1 FX.2.1 dX2_compared_112 hl (by decide) rfl (fun ls hl => ?_)
              refine lv_iload_n FX.1 FX.2.1 dX2_compared_114 rfl (lv_at hl 5 rfl) ?_
              refine lv_iconst (v := 1) FX.1 FX.2.1 dX2_compared_115 (by decide) ?_
              refine lv_icmp_ne (tgt := 125) FX.1 FX.2.1 dX2_compared_116 (by decide) (fun c_20 => ?_) (fun c_20 => ?_)
              · refine lv_iload FX.1 FX.2.1 dX2_compared_125 (lv_at hl 0 rfl) ?_
                exact retRD FX hr hlk dX2_compared_127 rfl (by rw [v_X2_compared, if_neg c_1, if_neg c_7, if_pos c_8, if_pos c_18, if_pos c_19, if_neg c_20])
              · refine lv_iload FX.1 FX.2.1 dX2_compared_119 (lv_at hl 0 rfl) ?_
                refine lv_ineg FX.1 FX.2.1 dX2_compared_121 ?_
                refine lv_goto (tgt := 127) FX.1 FX.2.1 dX2_compared_122 (by decide) ?_
                exact retRD FX hr hlk dX2_compared_127 rfl (by rw [v_X2_compared, if_neg c_1, if_neg c_7, if_pos c_8, if_pos c_18, if_pos c_19, if_pos c_20])
            · refine lv_iconst (v := 1) FX.1 FX.2.1 dX2_compared_103 (by decide) ?_
              refine lv_goto (tgt := 108) FX.1 FX.2.1 dX2_compared_104 (by decide) ?_
              refine c_RDs FX (r_X2_one l D cI cB 1) mi_X2_one rfl ml_RX2_32 (RMok.mk) hl.1 rfl (Nat.le_of_ble_eq_true rfl) dX2_compared_108 (by decide) hK hP [] rfl ?_
              refine lv_isub FX.1 FX.2.1 dX2_compared_111 ?_
              refine lv_istore (lv' := [(5, .int ((v_X2_one 0) - (v_X2_one 1))), (4, .int (iabs v2)), (3, .int (iabs v1)), (0, .int v1), (1, .int v2), (2, .int k1)]) FX.1 FX.2.1 dX2_compared_112 hl (by decide) rfl (fun ls hl => ?_)
              refine lv_iload_n FX.1 FX.2.1 dX2_compared_114 rfl (lv_at hl 5 rfl) ?_
              refine lv_iconst (v := 1) FX.1 FX.2.1 dX2_compared_115 (by decide) ?_
              refine lv_icmp_ne (tgt := 125) FX.1 FX.2.1 dX2_compared_116 (by decide) (fun c_21 => ?_) (fun c_21 => ?_)
              · refine lv_iload FX.1 FX.2.1 dX2_compared_125 (lv_at hl 0 rfl) ?_
                exact retRD FX hr hlk dX2_compared_127 rfl (by rw [v_X2_compared, if_neg c_1, if_neg c_7, if_pos c_8, if_pos c_18, if_neg c_19, if_neg c_21])
              · refine lv_iload FX.1 FX.2.1 dX2_compared_119 (lv_at hl 0 rfl) ?_
                refine lv_ineg FX.1 FX.2.1 dX2_compared_121 ?_
                refine lv_goto (tgt := 127) FX.1 FX.2.1 dX2_compared_122 (by decide) ?_
                exact retRD FX hr hlk dX2_compared_127 rfl (by rw [v_X2_compared, if_neg c_1, if_neg c_7, if_pos c_8, if_pos c_18, if_neg c_19, if_pos c_21])
          · refine lv_iconst (v := 1) FX.1 FX.2.1 dX2_compared_89 (by decide) ?_
            refine lv_goto (tgt := 94) FX.1 FX.2.1 dX2_compared_90 (by decide) ?_
            refine c_RDs FX (r_X2_one l D cI cB 1) mi_X2_one rfl ml_RX2_32 (RMok.mk) hl.1 rfl (Nat.le_of_ble_eq_true rfl) dX2_compared_94 (by decide) hK hP [] rfl ?_
            refine lv_iload_n FX.1 FX.2.1 dX2_compared_97 rfl (lv_at hl 1 rfl) ?_
            refine lv_iload FX.1 FX.2.1 dX2_compared_98 (lv_at hl 0 rfl) ?_
            refine lv_icmp_ge (tgt := 107) FX.1 FX.2.1 dX2_compared_100 (by decide) (fun c_22 => ?_) (fun c_22 => ?_)
            · refine lv_iconst (v := 0) FX.1 FX.2.1 dX2_compared_107 (by decide) ?_
              refine c_RDs FX (r_X2_one l D cI cB 0) mi_X2_one rfl ml_RX2_32 (RMok.mk) hl.1 rfl (Nat.le_of_ble_eq_true rfl) dX2_compared_108 (by decide) hK hP [] rfl ?_
              refine lv_isub FX.1 FX.2.1 dX2_compared_111 ?_
              refine lv_istore (lv' := [(5, .int ((v_X2_one 1) - (v_X2_one 0))), (4, .int (iabs v2)), (3, .int (iabs v1)), (0, .int v1), (1, .int v2), (2, .int k1)]) FX.1 FX.2.1 dX2_compared_112 hl (by decide) rfl (fun ls hl => ?_)
              refine lv_iload_n FX.1 FX.2.1 dX2_compared_114 rfl (lv_at hl 5 rfl) ?_
              refine lv_iconst (v := 1) FX.1 FX.2.1 dX2_compared_115 (by decide) ?_
              refine lv_icmp_ne (tgt := 125) FX.1 FX.2.1 dX2_compared_116 (by decide) (fun c_23 => ?_) (fun c_23 => ?_)
              · refine lv_iload FX.1 FX.2.1 dX2_compared_125 (lv_at hl 0 rfl) ?_
                exact retRD FX hr hlk dX2_compared_127 rfl (by rw [v_X2_compared, if_neg c_1, if_neg c_7, if_pos c_8, if_neg c_18, if_pos c_22, if_neg c_23])
              · refine lv_iload FX.1 FX.2.1 dX2_compared_119 (lv_at hl 0 rfl) ?_
                refine lv_ineg FX.1 FX.2.1 dX2_compared_121 ?_
                refine lv_goto (tgt := 127) FX.1 FX.2.1 dX2_compared_122 (by decide) ?_
                exact retRD FX hr hlk dX2_compared_127 rfl (by rw [v_X2_compared, if_neg c_1, if_neg c_7, if_pos c_8, if_neg c_18, if_pos c_22, if_pos c_23])
            · refine lv_iconst (v := 1) FX.1 FX.2.1 dX2_compared_103 (by decide) ?_
              refine lv_goto (tgt := 108) FX.1 FX.2.1 dX2_compared_104 (by decide) ?_
              refine c_RDs FX (r_X2_one l D cI cB 1) mi_X2_one rfl ml_RX2_32 (RMok.mk) hl.1 rfl (Nat.le_of_ble_eq_true rfl) dX2_compared_108 (by decide) hK hP [] rfl ?_
              refine lv_isub FX.1 FX.2.1 dX2_compared_111 ?_
              refine lv_istore (lv' := [(5, .int ((v_X2_one 1) - (v_X2_one 1))), (4, .int (iabs v2)), (3, .int (iabs v1)), (0, .int v1), (1, .int v2), (2, .int k1)]) FX.1 FX.2.1 dX2_compared_112 hl (by decide) rfl (fun ls hl => ?_)
              refine lv_iload_n FX.1 FX.2.1 dX2_compared_114 rfl (lv_at hl 5 rfl) ?_
              refine lv_iconst (v := 1) FX.1 FX.2.1 dX2_compared_115 (by decide) ?_
              refine lv_icmp_ne (tgt := 125) FX.1 FX.2.1 dX2_compared_116 (by decide) (fun c_24 => ?_) (fun c_24 => ?_)
              · refine lv_iload FX.1 FX.2.1 dX2_compared_125 (lv_at hl 0 rfl) ?_
                exact retRD FX hr hlk dX2_compared_127 rfl (by rw [v_X2_compared, if_neg c_1, if_neg c_7, if_pos c_8, if_neg c_18, if_neg c_22, if_neg c_24])
              · refine lv_iload FX.1 FX.2.1 dX2_compared_119 (lv_at hl 0 rfl) ?_
                refine lv_ineg FX.1 FX.2.1 dX2_compared_121 ?_
                refine lv_goto (tgt := 127) FX.1 FX.2.1 dX2_compared_122 (by decide) ?_
                exact retRD FX hr hlk dX2_compared_127 rfl (by rw [v_X2_compared, if_neg c_1, if_neg c_7, if_pos c_8, if_neg c_18, if_neg c_22, if_pos c_24])
    · refine lv_iload_n FX.1 FX.2.1 dX2_compared_12 rfl (lv_at hl 1 rfl) ?_
      refine lv_ldc (v := (-100000)) FX.1 FX.2.1 FX.2.2.2.1 (FX.2.2.2.2 _ co_RX2_9) dX2_compared_13 ?_
      refine lv_icmp_ne (tgt := 22) FX.1 FX.2.1 dX2_compared_15 (by decide) (fun c_25 => ?_) (fun c_25 => ?_)
      · exact absurd c_7 c_25
      · refine lv_iconst (v := 1) FX.1 FX.2.1 dX2_compared_18 (by decide) ?_
        refine lv_goto (tgt := 23) FX.1 FX.2.1 dX2_compared_19 (by decide) ?_
        refine c_RDs FX (r_X2_one l D cI cB 1) mi_X2_one rfl ml_RX2_32 (RMok.mk) hl.1 rfl (Nat.le_of_ble_eq_true rfl) dX2_compared_23 (by decide) hK hP [] rfl ?_
        refine lv_iload_n FX.1 FX.2.1 dX2_compared_26 rfl (lv_at hl 0 rfl) ?_
        refine lv_ldc (v := (-100000)) FX.1 FX.2.1 FX.2.2.2.1 (FX.2.2.2.2 _ co_RX2_9) dX2_compared_27 ?_
        refine lv_icmp_ne (tgt := 36) FX.1 FX.2.1 dX2_compared_29 (by decide) (fun c_26 => ?_) (fun c_26 => ?_)
        · refine lv_iconst (v := 0) FX.1 FX.2.1 dX2_compared_36 (by decide) ?_
          refine c_RDs FX (r_X2_one l D cI cB 0) mi_X2_one rfl ml_RX2_32 (RMok.mk) hl.1 rfl (Nat.le_of_ble_eq_true rfl) dX2_compared_37 (by decide) hK hP [] rfl ?_
          refine lv_isub FX.1 FX.2.1 dX2_compared_40 ?_
          refine lv_istore_n (lv' := [(3, .int ((v_X2_one 1) - (v_X2_one 0))), (0, .int v1), (1, .int v2), (2, .int k1)]) FX.1 FX.2.1 dX2_compared_41 rfl hl (by decide) rfl (fun ls hl => ?_)
          refine lv_iload_n FX.1 FX.2.1 dX2_compared_42 rfl (lv_at hl 3 rfl) ?_
          refine lv_iconst (v := 1) FX.1 FX.2.1 dX2_compared_43 (by decide) ?_
          refine lv_icmp_ne (tgt := 52) FX.1 FX.2.1 dX2_compared_44 (by decide) (fun c_27 => ?_) (fun c_27 => ?_)
          · refine lv_iload_n FX.1 FX.2.1 dX2_compared_52 rfl (lv_at hl 0 rfl) ?_
            exact retRD FX hr hlk dX2_compared_53 rfl (by rw [v_X2_compared, if_neg c_1, if_pos c_7, if_neg c_27])
          · refine lv_iload_n FX.1 FX.2.1 dX2_compared_47 rfl (lv_at hl 0 rfl) ?_
            refine lv_ineg FX.1 FX.2.1 dX2_compared_48 ?_
            refine lv_goto (tgt := 53) FX.1 FX.2.1 dX2_compared_49 (by decide) ?_
            exact retRD FX hr hlk dX2_compared_53 rfl (by rw [v_X2_compared, if_neg c_1, if_pos c_7, if_pos c_27])
        · exact absurd c_26 c_1

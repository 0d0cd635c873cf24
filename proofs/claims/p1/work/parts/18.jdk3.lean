set_option maxRecDepth 20000 in
theorem ml_RJ5_245 : Cond.methodLink RJ5 245 yJ6_stringSize_0f7a4 ∈ bigW := bt2 218 rfl rfl
set_option maxRecDepth 20000 in
theorem mi_J6_stringSize_0f7a4 : MIs yJ6_stringSize_0f7a4 cJ6_stringSize_0f7a4 4 (some .int) 1 := ⟨⟨bt2 220 rfl rfl, bt1 21 rfl rfl, by decide, by decide, by decide +kernel⟩, bt2 219 rfl rfl⟩
set_option maxRecDepth 20000 in
theorem ml_RJ5_83 : Cond.methodLink RJ5 83 yJ5_isLatin1_aae02 ∈ bigW := bt2 137 rfl rfl
set_option maxRecDepth 20000 in
theorem mu_J5_isLatin1_aae02 : MIu RJ4 "java/lang/AbstractStringBuilder" ⟨"java/lang/AbstractStringBuilder", "isLatin1", "()Z"⟩ yJ5_isLatin1_aae02 cJ5_isLatin1_aae02 1 (some .boolean) 0 := ⟨bt2 141 rfl rfl, bt1 2 rfl rfl, bt2 139 rfl rfl, bt2 140 rfl rfl, bt2 138 rfl rfl, rfl, by decide, by decide, by decide +kernel⟩
set_option maxRecDepth 20000 in
theorem ml_RJ5_248 : Cond.methodLink RJ5 248 yJ6_getChars_ba4f3 ∈ bigW := bt2 221 rfl rfl
set_option maxRecDepth 20000 in
theorem mi_J6_getChars_ba4f3 : MIs yJ6_getChars_ba4f3 cJ6_getChars_ba4f3 7 (some .int) 3 := ⟨⟨bt2 223 rfl rfl, bt1 21 rfl rfl, by decide, by decide, by decide +kernel⟩, bt2 222 rfl rfl⟩
set_option maxRecDepth 20000 in
theorem ml_RJ4_53 : Cond.methodLink RJ4 53 yJ5_append_c97b9 ∈ bigW := bt2 215 rfl rfl
set_option maxRecDepth 20000 in
theorem mp_J5_append_c97b9 : MIp RJ4 yJ5_append_c97b9 cJ5_append_c97b9 4 (some (.object "java/lang/AbstractStringBuilder")) 1 := ⟨bt2 217 rfl rfl, bt1 2 rfl rfl, bt6 27 rfl rfl, bt1 62 rfl rfl, bt2 216 rfl rfl, by decide, by decide +kernel⟩
set_option maxRecDepth 20000 in
theorem ml_RJ7_343 : Cond.methodLink RJ7 343 yJ7_checkLength_df160 ∈ bigW := bt3 29 rfl rfl
set_option maxRecDepth 20000 in
theorem mi_J7_checkLength_df160 : MIs yJ7_checkLength_df160 cJ7_checkLength_df160 2 none 2 := ⟨⟨bt3 31 rfl rfl, bt1 17 rfl rfl, by decide, by decide, by decide +kernel⟩, bt3 30 rfl rfl⟩
set_option maxRecDepth 20000 in
theorem ac_byte : Cond.arrayClass .byte ∈ bigW := bt1 64 rfl rfl
set_option maxRecDepth 20000 in
theorem ml_RJ7_304 : Cond.methodLink RJ7 304 Lib.Math.min.name ∈ bigW := bt2 131 rfl rfl
set_option maxRecDepth 20000 in
theorem min_s : Cond.static Lib.Math.min.name ∈ bigW := bt2 132 rfl rfl
set_option maxRecDepth 20000 in
theorem min_c : Cond.code Lib.Math.min.name Lib.Math.min.code 2 (some .int) ∈ bigW := bt2 133 rfl rfl
set_option maxRecDepth 20000 in
theorem ml_RJ7_150 : Cond.methodLink RJ7 150 arraycopyName ∈ bigW := bt2 134 rfl rfl
set_option maxRecDepth 20000 in
theorem ml_RJ7_339 : Cond.methodLink RJ7 339 yJ7_copyOfRangeByte_39247 ∈ bigW := bt3 26 rfl rfl
set_option maxRecDepth 20000 in
theorem mi_J7_copyOfRangeByte_39247 : MIs yJ7_copyOfRangeByte_39247 cJ7_copyOfRangeByte_39247 5 (some (.array .byte)) 3 := ⟨⟨bt3 28 rfl rfl, bt1 17 rfl rfl, by decide, by decide, by decide +kernel⟩, bt3 27 rfl rfl⟩
set_option maxRecDepth 20000 in
theorem ml_RJ0_1 : Cond.methodLink RJ0 1 Lib.objectInit ∈ bigW := bt3 8 rfl rfl
set_option maxRecDepth 20000 in
theorem oi_i : Cond.instanceMethod Lib.objectInit ∈ bigW := bt1 29 rfl rfl
set_option maxRecDepth 20000 in
theorem oi_c : Cond.code Lib.objectInit ⟨#[0xb1]⟩ 1 none ∈ bigW := bt1 30 rfl rfl
set_option maxRecDepth 20000 in
theorem ml_RJ0_552 : Cond.methodLink RJ0 552 yJ5_getValue_6d5f1 ∈ bigW := bt3 9 rfl rfl
set_option maxRecDepth 20000 in
theorem mu_J5_getValue_6d5f1 : MIu RJ4 "java/lang/AbstractStringBuilder" ⟨"java/lang/AbstractStringBuilder", "getValue", "()[B"⟩ yJ5_getValue_6d5f1 cJ5_getValue_6d5f1 1 (some (.array .byte)) 0 := ⟨bt3 13 rfl rfl, bt1 2 rfl rfl, bt3 11 rfl rfl, bt3 12 rfl rfl, bt3 10 rfl rfl, rfl, by decide, by decide, by decide +kernel⟩
set_option maxRecDepth 20000 in
theorem ml_RJ0_549 : Cond.methodLink RJ0 549 yJ5_length_8abf5 ∈ bigW := bt3 14 rfl rfl
set_option maxRecDepth 20000 in
theorem mo_J4_length_8abf5 : MIo RJ4 "java/lang/AbstractStringBuilder" ⟨"java/lang/AbstractStringBuilder", "length", "()I"⟩ yJ4_length_8abf5 cJ4_length_8abf5 1 (some .int) cJ5_length_8abf5 1 (some .int) 0 := ⟨bt3 19 rfl rfl, bt1 3 rfl rfl, bt3 16 rfl rfl, bt3 15 rfl rfl, bt3 17 rfl rfl, bt3 18 rfl rfl, bt3 21 rfl rfl, by decide, by decide, by decide +kernel⟩
set_option maxRecDepth 20000 in
theorem ml_RJ0_1047 : Cond.methodLink RJ0 1047 yJ5_isLatin1_aae02 ∈ bigW := bt3 22 rfl rfl
set_option maxRecDepth 20000 in
theorem ml_RJ0_54 : Cond.methodLink RJ0 54 yJ7_copyOfRange_39247 ∈ bigW := bt3 23 rfl rfl
set_option maxRecDepth 20000 in
theorem mi_J7_copyOfRange_39247 : MIs yJ7_copyOfRange_39247 cJ7_copyOfRange_39247 3 (some (.array .byte)) 3 := ⟨⟨bt3 25 rfl rfl, bt1 17 rfl rfl, by decide, by decide, by decide +kernel⟩, bt3 24 rfl rfl⟩
set_option maxRecDepth 20000 in
theorem ml_RJ0_489 : Cond.methodLink RJ0 489 yJ0_init_db425 ∈ bigW := bt3 5 rfl rfl
set_option maxRecDepth 20000 in
theorem mn_J0_init_db425 : MIi yJ0_init_db425 cJ0_init_db425 5 2 := ⟨⟨bt3 7 rfl rfl, bt1 4 rfl rfl, by decide, by decide, by decide +kernel⟩, bt3 6 rfl rfl, rfl⟩
set_option maxRecDepth 20000 in
theorem cl_RJ4_18 : Cond.classLink RJ4 18 "java/lang/String" ∈ bigW := bt3 0 rfl rfl
set_option maxRecDepth 20000 in
theorem is_RJ0 : Cond.instantiable RJ0 4 ∈ bigW := bt3 1 rfl rfl
set_option maxRecDepth 20000 in
theorem in_RJ0 : Cond.initialized RJ0 ∈ bigW := bt1 4 rfl rfl
set_option maxRecDepth 20000 in
theorem ml_RJ4_137 : Cond.methodLink RJ4 137 yJ0_init_81219 ∈ bigW := bt3 2 rfl rfl
set_option maxRecDepth 20000 in
theorem mn_J0_init_81219 : MIi yJ0_init_81219 cJ0_init_81219 2 1 := ⟨⟨bt3 4 rfl rfl, bt1 4 rfl rfl, by decide, by decide, by decide +kernel⟩, bt3 3 rfl rfl, rfl⟩
set_option maxRecDepth 20000 in
theorem ml_RJ5_3 : Cond.methodLink RJ5 3 Lib.objectInit ∈ bigW := bt1 39 rfl rfl
set_option maxRecDepth 20000 in
theorem ml_RJ4_1 : Cond.methodLink RJ4 1 yJ5_init_d00df ∈ bigW := bt1 36 rfl rfl
set_option maxRecDepth 20000 in
theorem mn_J5_init_d00df : MIi yJ5_init_d00df cJ5_init_d00df 2 1 := ⟨⟨bt1 38 rfl rfl, bt1 2 rfl rfl, by decide, by decide, by decide +kernel⟩, bt1 37 rfl rfl, rfl⟩
set_option maxRecDepth 20000 in
theorem cl_RJ0_10 : Cond.classLink RJ0 10 "java/lang/String" ∈ bigW := bt6 14 rfl rfl
set_option maxRecDepth 20000 in
theorem ml_RJ0_541 : Cond.methodLink RJ0 541 yJ1_equals_b5fdf ∈ bigW := bt6 15 rfl rfl
set_option maxRecDepth 20000 in
theorem mi_J1_equals_b5fdf : MIs yJ1_equals_b5fdf cJ1_equals_b5fdf 3 (some .boolean) 2 := ⟨⟨bt6 17 rfl rfl, bt1 20 rfl rfl, by decide, by decide, by decide +kernel⟩, bt6 16 rfl rfl⟩
theorem dJ0_equals_9ea2d_0 : decode cJ0_equals_9ea2d 0 = .ok (.aload_n 0, 1) := by decide +kernel
theorem dJ0_equals_9ea2d_1 : decode cJ0_equals_9ea2d 1 = .ok (.aload_n 1, 1) := by decide +kernel
theorem dJ0_equals_9ea2d_2 : decode cJ0_equals_9ea2d 2 = .ok (.if_acmp .ne 5, 3) := by decide +kernel
theorem dJ0_equals_9ea2d_5 : decode cJ0_equals_9ea2d 5 = .ok (.iconst 1, 1) := by decide +kernel
theorem dJ0_equals_9ea2d_6 : decode cJ0_equals_9ea2d 6 = .ok (.ireturn, 1) := by decide +kernel
theorem dJ0_equals_9ea2d_7 : decode cJ0_equals_9ea2d 7 = .ok (.aload_n 1, 1) := by decide +kernel
theorem dJ0_equals_9ea2d_8 : decode cJ0_equals_9ea2d 8 = .ok (.instanceof 10, 3) := by decide +kernel
theorem dJ0_equals_9ea2d_11 : decode cJ0_equals_9ea2d 11 = .ok (.ifCond .eq 43, 3) := by decide +kernel
theorem dJ0_equals_9ea2d_14 : decode cJ0_equals_9ea2d 14 = .ok (.aload_n 1, 1) := by decide +kernel
theorem dJ0_equals_9ea2d_15 : decode cJ0_equals_9ea2d 15 = .ok (.checkcast 10, 3) := by decide +kernel
theorem dJ0_equals_9ea2d_18 : decode cJ0_equals_9ea2d 18 = .ok (.astore_n 2, 1) := by decide +kernel
theorem dJ0_equals_9ea2d_19 : decode cJ0_equals_9ea2d 19 = .ok (.getstatic 38, 3) := by decide +kernel
theorem dJ0_equals_9ea2d_22 : decode cJ0_equals_9ea2d 22 = .ok (.ifCond .eq 14, 3) := by decide +kernel
theorem dJ0_equals_9ea2d_25 : decode cJ0_equals_9ea2d 25 = .ok (.aload_n 0, 1) := by decide +kernel
theorem dJ0_equals_9ea2d_26 : decode cJ0_equals_9ea2d 26 = .ok (.getfield 15, 3) := by decide +kernel
theorem dJ0_equals_9ea2d_29 : decode cJ0_equals_9ea2d 29 = .ok (.aload_n 2, 1) := by decide +kernel
theorem dJ0_equals_9ea2d_30 : decode cJ0_equals_9ea2d 30 = .ok (.getfield 15, 3) := by decide +kernel
theorem dJ0_equals_9ea2d_33 : decode cJ0_equals_9ea2d 33 = .ok (.if_icmp .ne 21, 3) := by decide +kernel
theorem dJ0_equals_9ea2d_36 : decode cJ0_equals_9ea2d 36 = .ok (.aload_n 0, 1) := by decide +kernel
theorem dJ0_equals_9ea2d_37 : decode cJ0_equals_9ea2d 37 = .ok (.getfield 9, 3) := by decide +kernel
theorem dJ0_equals_9ea2d_40 : decode cJ0_equals_9ea2d 40 = .ok (.aload_n 2, 1) := by decide +kernel
theorem dJ0_equals_9ea2d_41 : decode cJ0_equals_9ea2d 41 = .ok (.getfield 9, 3) := by decide +kernel
theorem dJ0_equals_9ea2d_44 : decode cJ0_equals_9ea2d 44 = .ok (.invokestatic 541, 3) := by decide +kernel
theorem dJ0_equals_9ea2d_47 : decode cJ0_equals_9ea2d 47 = .ok (.ifCond .eq 7, 3) := by decide +kernel
theorem dJ0_equals_9ea2d_50 : decode cJ0_equals_9ea2d 50 = .ok (.iconst 1, 1) := by decide +kernel
theorem dJ0_equals_9ea2d_51 : decode cJ0_equals_9ea2d 51 = .ok (.goto 4, 3) := by decide +kernel
theorem dJ0_equals_9ea2d_55 : decode cJ0_equals_9ea2d 55 = .ok (.ireturn, 1) := by decide +kernel
theorem dJ0_init_81219_0 : decode cJ0_init_81219 0 = .ok (.aload_n 0, 1) := by decide +kernel
theorem dJ0_init_81219_1 : decode cJ0_init_81219 1 = .ok (.aload_n 1, 1) := by decide +kernel
theorem dJ0_init_81219_2 : decode cJ0_init_81219 2 = .ok (.aconst_null, 1) := by decide +kernel
theorem dJ0_init_81219_3 : decode cJ0_init_81219 3 = .ok (.invokespecial 489, 3) := by decide +kernel
theorem dJ0_init_81219_6 : decode cJ0_init_81219 6 = .ok (.return_, 1) := by decide +kernel
theorem dJ0_init_db425_0 : decode cJ0_init_db425 0 = .ok (.aload_n 0, 1) := by decide +kernel
theorem dJ0_init_db425_1 : decode cJ0_init_db425 1 = .ok (.invokespecial 1, 3) := by decide +kernel
theorem dJ0_init_db425_4 : decode cJ0_init_db425 4 = .ok (.aload_n 1, 1) := by decide +kernel
theorem dJ0_init_db425_5 : decode cJ0_init_db425 5 = .ok (.invokevirtual 552, 3) := by decide +kernel
theorem dJ0_init_db425_8 : decode cJ0_init_db425 8 = .ok (.astore_n 3, 1) := by decide +kernel
theorem dJ0_init_db425_9 : decode cJ0_init_db425 9 = .ok (.aload_n 1, 1) := by decide +kernel
theorem dJ0_init_db425_10 : decode cJ0_init_db425 10 = .ok (.invokevirtual 549, 3) := by decide +kernel
theorem dJ0_init_db425_13 : decode cJ0_init_db425 13 = .ok (.istore 4, 2) := by decide +kernel
theorem dJ0_init_db425_15 : decode cJ0_init_db425 15 = .ok (.aload_n 1, 1) := by decide +kernel
theorem dJ0_init_db425_16 : decode cJ0_init_db425 16 = .ok (.invokevirtual 1047, 3) := by decide +kernel
theorem dJ0_init_db425_19 : decode cJ0_init_db425 19 = .ok (.ifCond .eq 22, 3) := by decide +kernel
theorem dJ0_init_db425_22 : decode cJ0_init_db425 22 = .ok (.aload_n 0, 1) := by decide +kernel
theorem dJ0_init_db425_23 : decode cJ0_init_db425 23 = .ok (.iconst 0, 1) := by decide +kernel
theorem dJ0_init_db425_24 : decode cJ0_init_db425 24 = .ok (.putfield 15, 3) := by decide +kernel
theorem dJ0_init_db425_27 : decode cJ0_init_db425 27 = .ok (.aload_n 0, 1) := by decide +kernel
theorem dJ0_init_db425_28 : decode cJ0_init_db425 28 = .ok (.aload_n 3, 1) := by decide +kernel
theorem dJ0_init_db425_29 : decode cJ0_init_db425 29 = .ok (.iconst 0, 1) := by decide +kernel
theorem dJ0_init_db425_30 : decode cJ0_init_db425 30 = .ok (.iload 4, 2) := by decide +kernel
theorem dJ0_init_db425_32 : decode cJ0_init_db425 32 = .ok (.invokestatic 54, 3) := by decide +kernel
theorem dJ0_init_db425_35 : decode cJ0_init_db425 35 = .ok (.putfield 9, 3) := by decide +kernel
theorem dJ0_init_db425_38 : decode cJ0_init_db425 38 = .ok (.goto 59, 3) := by decide +kernel
theorem dJ0_init_db425_97 : decode cJ0_init_db425 97 = .ok (.return_, 1) := by decide +kernel
theorem dJ1_equals_b5fdf_0 : decode cJ1_equals_b5fdf 0 = .ok (.aload_n 0, 1) := by decide +kernel
theorem dJ1_equals_b5fdf_1 : decode cJ1_equals_b5fdf 1 = .ok (.arraylength, 1) := by decide +kernel
theorem dJ1_equals_b5fdf_2 : decode cJ1_equals_b5fdf 2 = .ok (.aload_n 1, 1) := by decide +kernel
theorem dJ1_equals_b5fdf_3 : decode cJ1_equals_b5fdf 3 = .ok (.arraylength, 1) := by decide +kernel
theorem dJ1_equals_b5fdf_4 : decode cJ1_equals_b5fdf 4 = .ok (.if_icmp .ne 30, 3) := by decide +kernel
theorem dJ1_equals_b5fdf_7 : decode cJ1_equals_b5fdf 7 = .ok (.iconst 0, 1) := by decide +kernel
theorem dJ1_equals_b5fdf_8 : decode cJ1_equals_b5fdf 8 = .ok (.istore_n 2, 1) := by decide +kernel
theorem dJ1_equals_b5fdf_9 : decode cJ1_equals_b5fdf 9 = .ok (.iload_n 2, 1) := by decide +kernel
theorem dJ1_equals_b5fdf_10 : decode cJ1_equals_b5fdf 10 = .ok (.aload_n 0, 1) := by decide +kernel
theorem dJ1_equals_b5fdf_11 : decode cJ1_equals_b5fdf 11 = .ok (.arraylength, 1) := by decide +kernel
theorem dJ1_equals_b5fdf_12 : decode cJ1_equals_b5fdf 12 = .ok (.if_icmp .ge 20, 3) := by decide +kernel
theorem dJ1_equals_b5fdf_15 : decode cJ1_equals_b5fdf 15 = .ok (.aload_n 0, 1) := by decide +kernel
theorem dJ1_equals_b5fdf_16 : decode cJ1_equals_b5fdf 16 = .ok (.iload_n 2, 1) := by decide +kernel
theorem dJ1_equals_b5fdf_17 : decode cJ1_equals_b5fdf 17 = .ok (.baload, 1) := by decide +kernel
theorem dJ1_equals_b5fdf_18 : decode cJ1_equals_b5fdf 18 = .ok (.aload_n 1, 1) := by decide +kernel
theorem dJ1_equals_b5fdf_19 : decode cJ1_equals_b5fdf 19 = .ok (.iload_n 2, 1) := by decide +kernel
theorem dJ1_equals_b5fdf_20 : decode cJ1_equals_b5fdf 20 = .ok (.baload, 1) := by decide +kernel
theorem dJ1_equals_b5fdf_21 : decode cJ1_equals_b5fdf 21 = .ok (.if_icmp .eq 5, 3) := by decide +kernel
theorem dJ1_equals_b5fdf_26 : decode cJ1_equals_b5fdf 26 = .ok (.iinc 2 1, 3) := by decide +kernel
theorem dJ1_equals_b5fdf_29 : decode cJ1_equals_b5fdf 29 = .ok (.goto (-20), 3) := by decide +kernel
theorem dJ1_equals_b5fdf_32 : decode cJ1_equals_b5fdf 32 = .ok (.iconst 1, 1) := by decide +kernel
theorem dJ1_equals_b5fdf_33 : decode cJ1_equals_b5fdf 33 = .ok (.ireturn, 1) := by decide +kernel
theorem dJ4_append_bf812_0 : decode cJ4_append_bf812 0 = .ok (.aload_n 0, 1) := by decide +kernel
theorem dJ4_append_bf812_1 : decode cJ4_append_bf812 1 = .ok (.iload_n 1, 1) := by decide +kernel
theorem dJ4_append_bf812_2 : decode cJ4_append_bf812 2 = .ok (.invokespecial 53, 3) := by decide +kernel
theorem dJ4_append_bf812_5 : decode cJ4_append_bf812 5 = .ok (.pop, 1) := by decide +kernel
theorem dJ4_append_bf812_6 : decode cJ4_append_bf812 6 = .ok (.aload_n 0, 1) := by decide +kernel
theorem dJ4_append_bf812_7 : decode cJ4_append_bf812 7 = .ok (.areturn, 1) := by decide +kernel
theorem dJ4_init_da8c8_0 : decode cJ4_init_da8c8 0 = .ok (.aload_n 0, 1) := by decide +kernel
theorem dJ4_init_da8c8_1 : decode cJ4_init_da8c8 1 = .ok (.bipush 16, 2) := by decide +kernel
theorem dJ4_init_da8c8_3 : decode cJ4_init_da8c8 3 = .ok (.invokespecial 1, 3) := by decide +kernel
theorem dJ4_init_da8c8_6 : decode cJ4_init_da8c8 6 = .ok (.return_, 1) := by decide +kernel
theorem dJ4_toString_0e30d_0 : decode cJ4_toString_0e30d 0 = .ok (.new 18, 3) := by decide +kernel
theorem dJ4_toString_0e30d_3 : decode cJ4_toString_0e30d 3 = .ok (.dup, 1) := by decide +kernel
theorem dJ4_toString_0e30d_4 : decode cJ4_toString_0e30d 4 = .ok (.aload_n 0, 1) := by decide +kernel
theorem dJ4_toString_0e30d_5 : decode cJ4_toString_0e30d 5 = .ok (.invokespecial 137, 3) := by decide +kernel
theorem dJ4_toString_0e30d_8 : decode cJ4_toString_0e30d 8 = .ok (.areturn, 1) := by decide +kernel
theorem dJ5_append_c97b9_0 : decode cJ5_append_c97b9 0 = .ok (.aload_n 0, 1) := by decide +kernel
theorem dJ5_append_c97b9_1 : decode cJ5_append_c97b9 1 = .ok (.getfield 79, 3) := by decide +kernel
theorem dJ5_append_c97b9_4 : decode cJ5_append_c97b9 4 = .ok (.istore_n 2, 1) := by decide +kernel
theorem dJ5_append_c97b9_5 : decode cJ5_append_c97b9 5 = .ok (.iload_n 2, 1) := by decide +kernel
theorem dJ5_append_c97b9_6 : decode cJ5_append_c97b9 6 = .ok (.iload_n 1, 1) := by decide +kernel
theorem dJ5_append_c97b9_7 : decode cJ5_append_c97b9 7 = .ok (.invokestatic 245, 3) := by decide +kernel
theorem dJ5_append_c97b9_10 : decode cJ5_append_c97b9 10 = .ok (.iadd, 1) := by decide +kernel
theorem dJ5_append_c97b9_11 : decode cJ5_append_c97b9 11 = .ok (.istore_n 3, 1) := by decide +kernel
theorem dJ5_append_c97b9_12 : decode cJ5_append_c97b9 12 = .ok (.aload_n 0, 1) := by decide +kernel
theorem dJ5_append_c97b9_13 : decode cJ5_append_c97b9 13 = .ok (.iload_n 3, 1) := by decide +kernel
theorem dJ5_append_c97b9_14 : decode cJ5_append_c97b9 14 = .ok (.invokevirtual 100, 3) := by decide +kernel
theorem dJ5_append_c97b9_17 : decode cJ5_append_c97b9 17 = .ok (.aload_n 0, 1) := by decide +kernel
theorem dJ5_append_c97b9_18 : decode cJ5_append_c97b9 18 = .ok (.invokevirtual 83, 3) := by decide +kernel
theorem dJ5_append_c97b9_21 : decode cJ5_append_c97b9 21 = .ok (.ifCond .eq 16, 3) := by decide +kernel
theorem dJ5_append_c97b9_24 : decode cJ5_append_c97b9 24 = .ok (.iload_n 1, 1) := by decide +kernel
theorem dJ5_append_c97b9_25 : decode cJ5_append_c97b9 25 = .ok (.iload_n 3, 1) := by decide +kernel
theorem dJ5_append_c97b9_26 : decode cJ5_append_c97b9 26 = .ok (.aload_n 0, 1) := by decide +kernel
theorem dJ5_append_c97b9_27 : decode cJ5_append_c97b9 27 = .ok (.getfield 15, 3) := by decide +kernel
theorem dJ5_append_c97b9_30 : decode cJ5_append_c97b9 30 = .ok (.invokestatic 248, 3) := by decide +kernel
theorem dJ5_append_c97b9_33 : decode cJ5_append_c97b9 33 = .ok (.pop, 1) := by decide +kernel
theorem dJ5_append_c97b9_34 : decode cJ5_append_c97b9 34 = .ok (.goto 14, 3) := by decide +kernel
theorem dJ5_append_c97b9_48 : decode cJ5_append_c97b9 48 = .ok (.aload_n 0, 1) := by decide +kernel
theorem dJ5_append_c97b9_49 : decode cJ5_append_c97b9 49 = .ok (.iload_n 3, 1) := by decide +kernel
theorem dJ5_append_c97b9_50 : decode cJ5_append_c97b9 50 = .ok (.putfield 79, 3) := by decide +kernel
theorem dJ5_append_c97b9_53 : decode cJ5_append_c97b9 53 = .ok (.aload_n 0, 1) := by decide +kernel
theorem dJ5_append_c97b9_54 : decode cJ5_append_c97b9 54 = .ok (.areturn, 1) := by decide +kernel
theorem dJ5_init_d00df_0 : decode cJ5_init_d00df 0 = .ok (.aload_n 0, 1) := by decide +kernel
theorem dJ5_init_d00df_1 : decode cJ5_init_d00df 1 = .ok (.invokespecial 3, 3) := by decide +kernel
theorem dJ5_init_d00df_4 : decode cJ5_init_d00df 4 = .ok (.getstatic 18, 3) := by decide +kernel
theorem dJ5_init_d00df_7 : decode cJ5_init_d00df 7 = .ok (.ifCond .eq 18, 3) := by decide +kernel
theorem dJ5_init_d00df_10 : decode cJ5_init_d00df 10 = .ok (.aload_n 0, 1) := by decide +kernel
theorem dJ5_init_d00df_11 : decode cJ5_init_d00df 11 = .ok (.iload_n 1, 1) := by decide +kernel
theorem dJ5_init_d00df_12 : decode cJ5_init_d00df 12 = .ok (.newarray .byte, 2) := by decide +kernel
theorem dJ5_init_d00df_14 : decode cJ5_init_d00df 14 = .ok (.putfield 15, 3) := by decide +kernel
theorem dJ5_init_d00df_17 : decode cJ5_init_d00df 17 = .ok (.aload_n 0, 1) := by decide +kernel
theorem dJ5_init_d00df_18 : decode cJ5_init_d00df 18 = .ok (.iconst 0, 1) := by decide +kernel
theorem dJ5_init_d00df_19 : decode cJ5_init_d00df 19 = .ok (.putfield 22, 3) := by decide +kernel
theorem dJ5_init_d00df_22 : decode cJ5_init_d00df 22 = .ok (.goto 16, 3) := by decide +kernel
theorem dJ5_init_d00df_38 : decode cJ5_init_d00df 38 = .ok (.return_, 1) := by decide +kernel
theorem dJ7_checkLength_df160_0 : decode cJ7_checkLength_df160 0 = .ok (.iload_n 1, 1) := by decide +kernel
theorem dJ7_checkLength_df160_1 : decode cJ7_checkLength_df160 1 = .ok (.iload_n 0, 1) := by decide +kernel
theorem dJ7_checkLength_df160_2 : decode cJ7_checkLength_df160 2 = .ok (.if_icmp .ge 35, 3) := by decide +kernel
theorem dJ7_checkLength_df160_37 : decode cJ7_checkLength_df160 37 = .ok (.return_, 1) := by decide +kernel
theorem dJ7_copyOfRangeByte_39247_0 : decode cJ7_copyOfRangeByte_39247 0 = .ok (.iload_n 1, 1) := by decide +kernel
theorem dJ7_copyOfRangeByte_39247_1 : decode cJ7_copyOfRangeByte_39247 1 = .ok (.iload_n 2, 1) := by decide +kernel
theorem dJ7_copyOfRangeByte_39247_2 : decode cJ7_copyOfRangeByte_39247 2 = .ok (.invokestatic 343, 3) := by decide +kernel
theorem dJ7_copyOfRangeByte_39247_5 : decode cJ7_copyOfRangeByte_39247 5 = .ok (.iload_n 2, 1) := by decide +kernel
theorem dJ7_copyOfRangeByte_39247_6 : decode cJ7_copyOfRangeByte_39247 6 = .ok (.iload_n 1, 1) := by decide +kernel
theorem dJ7_copyOfRangeByte_39247_7 : decode cJ7_copyOfRangeByte_39247 7 = .ok (.isub, 1) := by decide +kernel
theorem dJ7_copyOfRangeByte_39247_8 : decode cJ7_copyOfRangeByte_39247 8 = .ok (.istore_n 3, 1) := by decide +kernel
theorem dJ7_copyOfRangeByte_39247_9 : decode cJ7_copyOfRangeByte_39247 9 = .ok (.iload_n 3, 1) := by decide +kernel
theorem dJ7_copyOfRangeByte_39247_10 : decode cJ7_copyOfRangeByte_39247 10 = .ok (.newarray .byte, 2) := by decide +kernel
theorem dJ7_copyOfRangeByte_39247_12 : decode cJ7_copyOfRangeByte_39247 12 = .ok (.astore 4, 2) := by decide +kernel
theorem dJ7_copyOfRangeByte_39247_14 : decode cJ7_copyOfRangeByte_39247 14 = .ok (.aload_n 0, 1) := by decide +kernel
theorem dJ7_copyOfRangeByte_39247_15 : decode cJ7_copyOfRangeByte_39247 15 = .ok (.iload_n 1, 1) := by decide +kernel
theorem dJ7_copyOfRangeByte_39247_16 : decode cJ7_copyOfRangeByte_39247 16 = .ok (.aload 4, 2) := by decide +kernel
theorem dJ7_copyOfRangeByte_39247_18 : decode cJ7_copyOfRangeByte_39247 18 = .ok (.iconst 0, 1) := by decide +kernel
theorem dJ7_copyOfRangeByte_39247_19 : decode cJ7_copyOfRangeByte_39247 19 = .ok (.aload_n 0, 1) := by decide +kernel
theorem dJ7_copyOfRangeByte_39247_20 : decode cJ7_copyOfRangeByte_39247 20 = .ok (.arraylength, 1) := by decide +kernel
theorem dJ7_copyOfRangeByte_39247_21 : decode cJ7_copyOfRangeByte_39247 21 = .ok (.iload_n 1, 1) := by decide +kernel
theorem dJ7_copyOfRangeByte_39247_22 : decode cJ7_copyOfRangeByte_39247 22 = .ok (.isub, 1) := by decide +kernel
theorem dJ7_copyOfRangeByte_39247_23 : decode cJ7_copyOfRangeByte_39247 23 = .ok (.iload_n 3, 1) := by decide +kernel
theorem dJ7_copyOfRangeByte_39247_24 : decode cJ7_copyOfRangeByte_39247 24 = .ok (.invokestatic 304, 3) := by decide +kernel
theorem dJ7_copyOfRangeByte_39247_27 : decode cJ7_copyOfRangeByte_39247 27 = .ok (.invokestatic 150, 3) := by decide +kernel
theorem dJ7_copyOfRangeByte_39247_30 : decode cJ7_copyOfRangeByte_39247 30 = .ok (.aload 4, 2) := by decide +kernel
theorem dJ7_copyOfRangeByte_39247_32 : decode cJ7_copyOfRangeByte_39247 32 = .ok (.areturn, 1) := by decide +kernel
theorem dJ7_copyOfRange_39247_0 : decode cJ7_copyOfRange_39247 0 = .ok (.iload_n 1, 1) := by decide +kernel
theorem dJ7_copyOfRange_39247_1 : decode cJ7_copyOfRange_39247 1 = .ok (.ifCond .ne 9, 3) := by decide +kernel
theorem dJ7_copyOfRange_39247_4 : decode cJ7_copyOfRange_39247 4 = .ok (.iload_n 2, 1) := by decide +kernel
theorem dJ7_copyOfRange_39247_5 : decode cJ7_copyOfRange_39247 5 = .ok (.aload_n 0, 1) := by decide +kernel
theorem dJ7_copyOfRange_39247_6 : decode cJ7_copyOfRange_39247 6 = .ok (.arraylength, 1) := by decide +kernel
theorem dJ7_copyOfRange_39247_7 : decode cJ7_copyOfRange_39247 7 = .ok (.if_icmp .eq 10, 3) := by decide +kernel
theorem dJ7_copyOfRange_39247_10 : decode cJ7_copyOfRange_39247 10 = .ok (.aload_n 0, 1) := by decide +kernel
theorem dJ7_copyOfRange_39247_11 : decode cJ7_copyOfRange_39247 11 = .ok (.iload_n 1, 1) := by decide +kernel
theorem dJ7_copyOfRange_39247_12 : decode cJ7_copyOfRange_39247 12 = .ok (.iload_n 2, 1) := by decide +kernel
theorem dJ7_copyOfRange_39247_13 : decode cJ7_copyOfRange_39247 13 = .ok (.invokestatic 339, 3) := by decide +kernel
theorem dJ7_copyOfRange_39247_16 : decode cJ7_copyOfRange_39247 16 = .ok (.areturn, 1) := by decide +kernel
theorem size_A1 {v : Int32} (h : kd false 0 9 v) : v_J6_stringSize_0f7a4 v = 1 := by
  have e10 : (-10 : Int32).toInt = -10 := by decide
  have e100 : (10 * (-10) : Int32).toInt = -100 := by decide
  have h1 := (kd_p h (by decide)).1
  have h2 : 0 ≤ v.toInt := by have := (kd_p h (by decide)).2; rw [Int32.le_iff_toInt_le, i32_0] at this; omega
  unfold dg at h1
  unfold v_J6_stringSize_0f7a4
  rw [if_neg (by rw [Int32.lt_iff_toInt_lt, i32_0]; omega), if_neg (by rw [Int32.le_iff_toInt_le, e10]; omega)]
  rfl
theorem size_A2 {v : Int32} (h : kd false 10 99 v) : v_J6_stringSize_0f7a4 v = 2 := by
  have e10 : (-10 : Int32).toInt = -10 := by decide
  have e100 : (10 * (-10) : Int32).toInt = -100 := by decide
  have h1 := (kd_p h (by decide)).1
  have h2 : 0 ≤ v.toInt := by have := (kd_p h (by decide)).2; rw [Int32.le_iff_toInt_le, i32_0] at this; omega
  unfold dg at h1
  unfold v_J6_stringSize_0f7a4
  rw [if_neg (by rw [Int32.lt_iff_toInt_lt, i32_0]; omega), if_pos (by rw [Int32.le_iff_toInt_le, e10]; omega), if_neg (by rw [Int32.le_iff_toInt_le, e100]; omega)]
  rfl
theorem size_A3 {v : Int32} (h : kd false 100 999 v) : v_J6_stringSize_0f7a4 v = 3 := by
  have e10 : (-10 : Int32).toInt = -10 := by decide
  have e100 : (10 * (-10) : Int32).toInt = -100 := by decide
  have h1 := (kd_p h (by decide)).1
  have h2 : 0 ≤ v.toInt := by have := (kd_p h (by decide)).2; rw [Int32.le_iff_toInt_le, i32_0] at this; omega
  unfold dg at h1
  unfold v_J6_stringSize_0f7a4
  rw [if_neg (by rw [Int32.lt_iff_toInt_lt, i32_0]; omega), if_pos (by rw [Int32.le_iff_toInt_le, e10]; omega), if_pos (by rw [Int32.le_iff_toInt_le, e100]; omega)]
  rfl
theorem size_B1 {v : Int32} (h : kd true 1 9 v) : v_J6_stringSize_0f7a4 v = 2 := by
  have e10 : (-10 : Int32).toInt = -10 := by decide
  have e100 : (10 * (-10) : Int32).toInt = -100 := by decide
  have h1 := (kd_n h).1
  have h2 : v.toInt < 0 := by have := (kd_n h).2; rw [Int32.le_iff_toInt_le, i32_0] at this; omega
  unfold dg at h1
  unfold v_J6_stringSize_0f7a4
  rw [if_pos (by rw [Int32.lt_iff_toInt_lt, i32_0]; omega), if_neg (by rw [Int32.le_iff_toInt_le, e10]; omega)]
  rfl
theorem size_B2 {v : Int32} (h : kd true 10 99 v) : v_J6_stringSize_0f7a4 v = 3 := by
  have e10 : (-10 : Int32).toInt = -10 := by decide
  have e100 : (10 * (-10) : Int32).toInt = -100 := by decide
  have h1 := (kd_n h).1
  have h2 : v.toInt < 0 := by have := (kd_n h).2; rw [Int32.le_iff_toInt_le, i32_0] at this; omega
  unfold dg at h1
  unfold v_J6_stringSize_0f7a4
  rw [if_pos (by rw [Int32.lt_iff_toInt_lt, i32_0]; omega), if_pos (by rw [Int32.le_iff_toInt_le, e10]; omega), if_neg (by rw [Int32.le_iff_toInt_le, e100]; omega)]
  rfl
theorem size_B3 {v : Int32} (h : kd true 100 999 v) : v_J6_stringSize_0f7a4 v = 4 := by
  have e10 : (-10 : Int32).toInt = -10 := by decide
  have e100 : (10 * (-10) : Int32).toInt = -100 := by decide
  have h1 := (kd_n h).1
  have h2 : v.toInt < 0 := by have := (kd_n h).2; rw [Int32.le_iff_toInt_le, i32_0] at this; omega
  unfold dg at h1
  unfold v_J6_stringSize_0f7a4
  rw [if_pos (by rw [Int32.lt_iff_toInt_lt, i32_0]; omega), if_pos (by rw [Int32.le_iff_toInt_le, e10]; omega), if_pos (by rw [Int32.le_iff_toInt_le, e100]; omega)]
  rfl
theorem size_in {v : Int32} (hv : -999 ≤ v ∧ v ≤ 999) : ∃ k : Nat, 1 ≤ k ∧ k ≤ 4 ∧ v_J6_stringSize_0f7a4 v = nI k := by
  rcases six hv with h | h | h | h | h | h
  · exact ⟨1, by decide, by decide, by rw [size_A1 h]; rfl⟩
  · exact ⟨2, by decide, by decide, by rw [size_A2 h]; rfl⟩
  · exact ⟨3, by decide, by decide, by rw [size_A3 h]; rfl⟩
  · exact ⟨2, by decide, by decide, by rw [size_B1 h]; rfl⟩
  · exact ⟨3, by decide, by decide, by rw [size_B2 h]; rfl⟩
  · exact ⟨4, by decide, by decide, by rw [size_B3 h]; rfl⟩
/-- v's letters -/
def tc (v : Int32) (go gt : Nat → Int32) : Nat → Int32 :=
  if 0 ≤ v then (if v ≤ 9 then T_A1 v go gt else if v ≤ 99 then T_A2 v go gt else T_A3 v go gt)
  else (if -9 ≤ v then T_B1 v go gt else if -99 ≤ v then T_B2 v go gt else T_B3 v go gt)
def TS (v : Int32) (u g : Nat → Int32) : Prop := ∀ k : Nat, k ≤ 4 → v_J6_stringSize_0f7a4 v = nI k → TL k u g
theorem tc_A1 {v : Int32} {go gt : Nat → Int32} (h : kd false 0 9 v) : tc v go gt = T_A1 v go gt := by
  have e9 : (9 : Int32).toInt = 9 := by decide
  have e99 : (99 : Int32).toInt = 99 := by decide
  have em99 : (-99 : Int32).toInt = -99 := by decide
  have h1 : 0 ≤ v.toInt ∧ v.toInt ≤ 9 := by unfold kd at h; simpa only [Bool.false_eq_true, if_false] using h
  unfold tc
  rw [if_pos (by rw [Int32.le_iff_toInt_le, i32_0]; omega), if_pos (by rw [Int32.le_iff_toInt_le, e9]; omega)]
theorem ts_A1 {v : Int32} {u go gt : Nat → Int32} (hk : kd false 0 9 v) (h : TL 1 u (T_A1 v go gt)) : TS v u (tc v go gt) := fun k h4 e => by
  rw [size_A1 hk] at e
  have e9 : 1 = k := (nI_eq (a := 1) (b := k) (by decide) (by omega)).mp e
  subst e9
  rw [tc_A1 hk]; exact h
theorem tc_A2 {v : Int32} {go gt : Nat → Int32} (h : kd false 10 99 v) : tc v go gt = T_A2 v go gt := by
  have e9 : (9 : Int32).toInt = 9 := by decide
  have e99 : (99 : Int32).toInt = 99 := by decide
  have em99 : (-99 : Int32).toInt = -99 := by decide
  have h1 : 10 ≤ v.toInt ∧ v.toInt ≤ 99 := by unfold kd at h; simpa only [Bool.false_eq_true, if_false] using h
  unfold tc
  rw [if_pos (by rw [Int32.le_iff_toInt_le, i32_0]; omega), if_neg (by rw [Int32.le_iff_toInt_le, e9]; omega), if_pos (by rw [Int32.le_iff_toInt_le, e99]; omega)]
theorem ts_A2 {v : Int32} {u go gt : Nat → Int32} (hk : kd false 10 99 v) (h : TL 2 u (T_A2 v go gt)) : TS v u (tc v go gt) := fun k h4 e => by
  rw [size_A2 hk] at e
  have e9 : 2 = k := (nI_eq (a := 2) (b := k) (by decide) (by omega)).mp e
  subst e9
  rw [tc_A2 hk]; exact h
theorem tc_A3 {v : Int32} {go gt : Nat → Int32} (h : kd false 100 999 v) : tc v go gt = T_A3 v go gt := by
  have e9 : (9 : Int32).toInt = 9 := by decide
  have e99 : (99 : Int32).toInt = 99 := by decide
  have em99 : (-99 : Int32).toInt = -99 := by decide
  have h1 : 100 ≤ v.toInt ∧ v.toInt ≤ 999 := by unfold kd at h; simpa only [Bool.false_eq_true, if_false] using h
  unfold tc
  rw [if_pos (by rw [Int32.le_iff_toInt_le, i32_0]; omega), if_neg (by rw [Int32.le_iff_toInt_le, e9]; omega), if_neg (by rw [Int32.le_iff_toInt_le, e99]; omega)]
theorem ts_A3 {v : Int32} {u go gt : Nat → Int32} (hk : kd false 100 999 v) (h : TL 3 u (T_A3 v go gt)) : TS v u (tc v go gt) := fun k h4 e => by
  rw [size_A3 hk] at e
  have e9 : 3 = k := (nI_eq (a := 3) (b := k) (by decide) (by omega)).mp e
  subst e9
  rw [tc_A3 hk]; exact h
theorem tc_B1 {v : Int32} {go gt : Nat → Int32} (h : kd true 1 9 v) : tc v go gt = T_B1 v go gt := by
  have e9 : (9 : Int32).toInt = 9 := by decide
  have e99 : (99 : Int32).toInt = 99 := by decide
  have em99 : (-99 : Int32).toInt = -99 := by decide
  have h1 := (kd_n h).1
  have h2 : v.toInt < 0 := by have := (kd_n h).2; rw [Int32.le_iff_toInt_le, i32_0] at this; omega
  unfold dg at h1
  unfold tc
  rw [if_neg (by rw [Int32.le_iff_toInt_le, i32_0]; omega), if_pos (by rw [Int32.le_iff_toInt_le, i32_m9]; omega)]
theorem ts_B1 {v : Int32} {u go gt : Nat → Int32} (hk : kd true 1 9 v) (h : TL 2 u (T_B1 v go gt)) : TS v u (tc v go gt) := fun k h4 e => by
  rw [size_B1 hk] at e
  have e9 : 2 = k := (nI_eq (a := 2) (b := k) (by decide) (by omega)).mp e
  subst e9
  rw [tc_B1 hk]; exact h
theorem tc_B2 {v : Int32} {go gt : Nat → Int32} (h : kd true 10 99 v) : tc v go gt = T_B2 v go gt := by
  have e9 : (9 : Int32).toInt = 9 := by decide
  have e99 : (99 : Int32).toInt = 99 := by decide
  have em99 : (-99 : Int32).toInt = -99 := by decide
  have h1 := (kd_n h).1
  have h2 : v.toInt < 0 := by have := (kd_n h).2; rw [Int32.le_iff_toInt_le, i32_0] at this; omega
  unfold dg at h1
  unfold tc
  rw [if_neg (by rw [Int32.le_iff_toInt_le, i32_0]; omega), if_neg (by rw [Int32.le_iff_toInt_le, i32_m9]; omega), if_pos (by rw [Int32.le_iff_toInt_le, em99]; omega)]
theorem ts_B2 {v : Int32} {u go gt : Nat → Int32} (hk : kd true 10 99 v) (h : TL 3 u (T_B2 v go gt)) : TS v u (tc v go gt) := fun k h4 e => by
  rw [size_B2 hk] at e
  have e9 : 3 = k := (nI_eq (a := 3) (b := k) (by decide) (by omega)).mp e
  subst e9
  rw [tc_B2 hk]; exact h
theorem tc_B3 {v : Int32} {go gt : Nat → Int32} (h : kd true 100 999 v) : tc v go gt = T_B3 v go gt := by
  have e9 : (9 : Int32).toInt = 9 := by decide
  have e99 : (99 : Int32).toInt = 99 := by decide
  have em99 : (-99 : Int32).toInt = -99 := by decide
  have h1 := (kd_n h).1
  have h2 : v.toInt < 0 := by have := (kd_n h).2; rw [Int32.le_iff_toInt_le, i32_0] at this; omega
  unfold dg at h1
  unfold tc
  rw [if_neg (by rw [Int32.le_iff_toInt_le, i32_0]; omega), if_neg (by rw [Int32.le_iff_toInt_le, i32_m9]; omega), if_neg (by rw [Int32.le_iff_toInt_le, em99]; omega)]
theorem ts_B3 {v : Int32} {u go gt : Nat → Int32} (hk : kd true 100 999 v) (h : TL 4 u (T_B3 v go gt)) : TS v u (tc v go gt) := fun k h4 e => by
  rw [size_B3 hk] at e
  have e9 : 4 = k := (nI_eq (a := 4) (b := k) (by decide) (by omega)).mp e
  subst e9
  rw [tc_B3 hk]; exact h
set_option maxRecDepth 100000 in
set_option maxHeartbeats 4000000 in
theorem j_J5_append_c97b9 (l : Launch) (D : va_G) (cI cB : ClassId) (t bt : Nat) (ml : Int32) (bs : Nat → Int32) (v : Int32) (to tt : Nat) (go gt : Nat → Int32) (hv : -999 ≤ v ∧ v ≤ 999) (hb : sb_Fit bs) : JW (S := Nat → Int32) l yJ5_append_c97b9 cJ5_append_c97b9 4 (some (.object "java/lang/AbstractStringBuilder")) ({ frames := 1, cells := 0, slots := 0, locals := 26 } : Room) D cI cB [.ref t, .int v] [(t, .inr (1, [.ref bt, .int 0, .int ml, .int 0])), (bt, .inl (cB, 16, .inl bs))] (zAnd zC (zAnd (zDg "DigitOnes" to go) (zDg "DigitTens" tt gt))) (fun u => some (.ref t)) (fun u => sb_Fit u ∧ TS v u (tc v go gt)) (fun u => [(t, .inr (1, [.ref bt, .int 0, .int ml, .int (v_J6_stringSize_0f7a4 v)])), (bt, .inl (cB, 16, .inl u))]) 0 0 := by
  refine bodyJ (by decide +kernel) (Nat.le_of_ble_eq_true rfl) (fun p e s m args below meth c ls A ZZ => ?_)
  obtain ⟨FX, hr, hlk, hK, hP, hD, hS, hA, hz, hnm, hl⟩ := ZZ
  have hl : lv_has ls 4 [(0, .ref t), (1, .int v)] := hl
  have hP : va_P D KL [(t, .inr (1, [.ref bt, .int 0, .int ml, .int 0])), (bt, .inl (cB, 16, .inl bs))] s.heap := hP
  rcases six hv with hk | hk | hk | hk | hk | hk
  · refine lv_aload_n FX.1 FX.2.1 dJ5_append_c97b9_0 rfl (lv_at hl 0 rfl) ?_
    refine va_get (D := D) (ci := 1) (v := .int 0) (C := RJ4) (T := TJ4) (N := 4) FX.1 FX.2.1 FX.2.2.2.2 inJ4 FX.2.2.2.1 hK hP 0 rfl rfl 3 (by decide) (FX.2.2.2.2 _ fl_RJ5_79) (fun _ h9 => h9) rfl dJ5_append_c97b9_1 ?_
    refine lv_istore_n (lv' := [(2, .int 0), (0, .ref t), (1, .int v)]) FX.1 FX.2.1 dJ5_append_c97b9_4 rfl hl (by decide) rfl (fun ls hl => ?_)
    refine lv_iload_n FX.1 FX.2.1 dJ5_append_c97b9_5 rfl (lv_at hl 0 rfl) ?_
    refine lv_iload_n FX.1 FX.2.1 dJ5_append_c97b9_6 rfl (lv_at hl 2 rfl) ?_
    refine c_RDs FX (r_J6_stringSize_0f7a4 l D cI cB v hv) mi_J6_stringSize_0f7a4 rfl ml_RJ5_245 (RMok.mk) hl.1 rfl (Nat.le_of_ble_eq_true rfl) dJ5_append_c97b9_7 (by decide) hK hP [] rfl ?_
    refine W.eq (g2 := F0 m 10 ls [.int 1, .int 0]) (by rw [size_A1 hk]) ?_
    refine lv_iadd FX.1 FX.2.1 dJ5_append_c97b9_10 ?_
    refine W.eq (g2 := F0 m 11 ls [.int 1]) (by rw [Int32.zero_add]) ?_
    refine lv_istore_n (lv' := [(3, .int 1), (2, .int 0), (0, .ref t), (1, .int v)]) FX.1 FX.2.1 dJ5_append_c97b9_11 rfl hl (by decide) rfl (fun ls hl => ?_)
    refine lv_aload_n FX.1 FX.2.1 dJ5_append_c97b9_12 rfl (lv_at hl 2 rfl) ?_
    refine lv_iload_n FX.1 FX.2.1 dJ5_append_c97b9_13 rfl (lv_at hl 0 rfl) ?_
    refine c_J (W0 := [(t, .inr (1, [.ref bt, .int 0, .int ml, .int 0])), (bt, .inl (cB, 16, .inl bs))]) (wr := []) (wsN := fun _ => [(t, .inr (1, [.ref bt, .int 0, .int ml, .int 0])), (bt, .inl (cB, 16, .inl bs))]) (va_runU FX ((j_J5_ensureCapacityInternal_d00df l D cI cB t bt ml 0 bs 1 (by decide)) s.heap.size) (my_cwU FX.2.2.2.2 mu_J5_ensureCapacityInternal_d00df ml_RJ5_100 (RMok.mk)) ⟨PJ.blind zT_ok, (my_recv (i0 := 0) (ci := 1) hK hP rfl rfl rfl), fun U hU hW => ⟨rfl, my_preJ zT_ok trivial hS hA hK hP hD [0, 1] rfl rfl U hU hW⟩⟩ rfl rfl hl.1 rfl (lv_room (Nat.le_of_ble_eq_true rfl)) dJ5_append_c97b9_14 (by decide)) hP hD hS hA [0, 1] rfl [] rfl (by decide) [0, 1] (fun _ => rfl) rfl (fun u1 H locs hp_1 hP hD hS => ?_)
    have hP : va_P D KL [(t, .inr (1, [.ref bt, .int 0, .int ml, .int 0])), (bt, .inl (cB, 16, .inl bs))] H := hP
    have hD : va_D A [(t, .inr (1, [.ref bt, .int 0, .int ml, .int 0])), (bt, .inl (cB, 16, .inl bs))] := hD
    refine W.eq (g2 := F0 m 17 ls []) rfl ?_
    refine lv_aload_n FX.1 FX.2.1 dJ5_append_c97b9_17 rfl (lv_at hl 2 rfl) ?_
    refine c_J (W0 := [(t, .inr (1, [.ref bt, .int 0, .int ml, .int 0])), (bt, .inl (cB, 16, .inl bs))]) (wr := []) (wsN := fun _ => [(t, .inr (1, [.ref bt, .int 0, .int ml, .int 0])), (bt, .inl (cB, 16, .inl bs))]) (va_runU FX ((j_J5_isLatin1_aae02 l D cI cB t bt ml 0 bs) H.size) (my_cwU FX.2.2.2.2 mu_J5_isLatin1_aae02 ml_RJ5_83 (RMok.mk)) ⟨PJ.blind zC_ok, (my_recv (i0 := 0) (ci := 1) hK hP rfl rfl rfl), fun U hU hW => ⟨rfl, my_preJ zC_ok hz.1 hS hA hK hP hD [0, 1] rfl rfl U hU hW⟩⟩ rfl rfl hl.1 rfl (lv_room (Nat.le_of_ble_eq_true rfl)) dJ5_append_c97b9_18 (by decide)) hP hD hS hA [0, 1] rfl [] rfl (by decide) [0, 1] (fun _ => rfl) rfl (fun u2 H locs hp_2 hP hD hS => ?_)
    have hP : va_P D KL [(t, .inr (1, [.ref bt, .int 0, .int ml, .int 0])), (bt, .inl (cB, 16, .inl bs))] H := hP
    have hD : va_D A [(t, .inr (1, [.ref bt, .int 0, .int ml, .int 0])), (bt, .inl (cB, 16, .inl bs))] := hD
    refine W.eq (g2 := F0 m 21 ls [.int 1]) rfl ?_
    refine lv_if_eq (tgt := 37) FX.1 FX.2.1 dJ5_append_c97b9_21 (by decide) (fun c_1 => ?_) (fun c_1 => ?_)
    · exact absurd c_1 (by decide)
    · refine lv_iload_n FX.1 FX.2.1 dJ5_append_c97b9_24 rfl (lv_at hl 3 rfl) ?_
      refine lv_iload_n FX.1 FX.2.1 dJ5_append_c97b9_25 rfl (lv_at hl 0 rfl) ?_
      refine lv_aload_n FX.1 FX.2.1 dJ5_append_c97b9_26 rfl (lv_at hl 2 rfl) ?_
      refine va_get (D := D) (ci := 1) (v := .ref bt) (C := RJ4) (T := TJ4) (N := 4) FX.1 FX.2.1 FX.2.2.2.2 inJ4 FX.2.2.2.1 hK hP 0 rfl rfl 0 (by decide) (FX.2.2.2.2 _ fl_RJ5_15) (fun _ h9 => h9) rfl dJ5_append_c97b9_27 ?_
      refine c_J (W0 := [(bt, .inl (cB, 16, .inl bs))]) (wr := [(t, .inr (1, [.ref bt, .int 0, .int ml, .int 0]))]) (wsN := fun u3 => [(t, .inr (1, [.ref bt, .int 0, .int ml, .int 0])), (bt, .inl (cB, 16, .inl u3))]) (va_runS FX ((j_J6_getChars_A1 l D cI cB v bt bs to tt go gt hk hb) H.size) (my_cwS FX.2.2.2.2 mi_J6_getChars_ba4f3 ml_RJ5_248 (RMok.mk)) ⟨PJ.blind (zAnd_ok zDg_ok zDg_ok), fun U hU hW => ⟨rfl, my_preJ (zAnd_ok zDg_ok zDg_ok) ⟨hz.2.1, hz.2.2⟩ hS hA hK hP hD [1] rfl rfl U hU hW⟩⟩ rfl rfl hl.1 rfl (lv_room (Nat.le_of_ble_eq_true rfl)) dJ5_append_c97b9_30 (by decide)) hP hD hS hA [1] rfl [0] rfl (by decide) [0, 1] (fun _ => rfl) rfl (fun u3 H locs hp_3 hP hD hS => ?_)
      have hP : va_P D KL [(t, .inr (1, [.ref bt, .int 0, .int ml, .int 0])), (bt, .inl (cB, 16, .inl u3))] H := hP
      have hD : va_D A [(t, .inr (1, [.ref bt, .int 0, .int ml, .int 0])), (bt, .inl (cB, 16, .inl u3))] := hD
      refine W.eq (g2 := F0 m 33 ls [.int 0]) rfl ?_
      refine lv_pop FX.1 FX.2.1 dJ5_append_c97b9_33 rfl ?_
      refine lv_goto (tgt := 48) FX.1 FX.2.1 dJ5_append_c97b9_34 (by decide) ?_
      refine lv_aload_n FX.1 FX.2.1 dJ5_append_c97b9_48 rfl (lv_at hl 2 rfl) ?_
      refine lv_iload_n FX.1 FX.2.1 dJ5_append_c97b9_49 rfl (lv_at hl 0 rfl) ?_
      refine p_put (wsN := [(t, .inr (1, [.ref bt, .int 0, .int ml, .int 1])), (bt, .inl (cB, 16, .inl u3))]) (ci := 1) (v := .int 1) (ty := .int) FX inJ4 tyJ4_ok nmJ4 hK hP hD hS 0 rfl rfl 3 (by decide) (FX.2.2.2.2 _ fl_RJ5_79) rfl (by decide +kernel) rfl rfl (Nat.le_of_ble_eq_true rfl) dJ5_append_c97b9_50 rfl (fun H locs hP hD hS => ?_)
      refine lv_aload_n FX.1 FX.2.1 dJ5_append_c97b9_53 rfl (lv_at hl 2 rfl) ?_
      exact retJa u3 FX hr (Or.inl ⟨_, rfl⟩) hlk dJ5_append_c97b9_54 (by rw [size_A1 hk]; exact hP) hK (by rw [size_A1 hk]; exact hD) hS (by decide) (by decide) rfl ⟨hp_3.1, ts_A1 hk hp_3.2⟩
  · refine lv_aload_n FX.1 FX.2.1 dJ5_append_c97b9_0 rfl (lv_at hl 0 rfl) ?_
    refine va_get (D := D) (ci := 1) (v := .int 0) (C := RJ4) (T := TJ4) (N := 4) FX.1 FX.2.1 FX.2.2.2.2 inJ4 FX.2.2.2.1 hK hP 0 rfl rfl 3 (by decide) (FX.2.2.2.2 _ fl_RJ5_79) (fun _ h9 => h9) rfl dJ5_append_c97b9_1 ?_
    refine lv_istore_n (lv' := [(2, .int 0), (0, .ref t), (1, .int v)]) FX.1 FX.2.1 dJ5_append_c97b9_4 rfl hl (by decide) rfl (fun ls hl => ?_)
    refine lv_iload_n FX.1 FX.2.1 dJ5_append_c97b9_5 rfl (lv_at hl 0 rfl) ?_
    refine lv_iload_n FX.1 FX.2.1 dJ5_append_c97b9_6 rfl (lv_at hl 2 rfl) ?_
    refine c_RDs FX (r_J6_stringSize_0f7a4 l D cI cB v hv) mi_J6_stringSize_0f7a4 rfl ml_RJ5_245 (RMok.mk) hl.1 rfl (Nat.le_of_ble_eq_true rfl) dJ5_append_c97b9_7 (by decide) hK hP [] rfl ?_
    refine W.eq (g2 := F0 m 10 ls [.int 2, .int 0]) (by rw [size_A2 hk]) ?_
    refine lv_iadd FX.1 FX.2.1 dJ5_append_c97b9_10 ?_
    refine W.eq (g2 := F0 m 11 ls [.int 2]) (by rw [Int32.zero_add]) ?_
    refine lv_istore_n (lv' := [(3, .int 2), (2, .int 0), (0, .ref t), (1, .int v)]) FX.1 FX.2.1 dJ5_append_c97b9_11 rfl hl (by decide) rfl (fun ls hl => ?_)
    refine lv_aload_n FX.1 FX.2.1 dJ5_append_c97b9_12 rfl (lv_at hl 2 rfl) ?_
    refine lv_iload_n FX.1 FX.2.1 dJ5_append_c97b9_13 rfl (lv_at hl 0 rfl) ?_
    refine c_J (W0 := [(t, .inr (1, [.ref bt, .int 0, .int ml, .int 0])), (bt, .inl (cB, 16, .inl bs))]) (wr := []) (wsN := fun _ => [(t, .inr (1, [.ref bt, .int 0, .int ml, .int 0])), (bt, .inl (cB, 16, .inl bs))]) (va_runU FX ((j_J5_ensureCapacityInternal_d00df l D cI cB t bt ml 0 bs 2 (by decide)) s.heap.size) (my_cwU FX.2.2.2.2 mu_J5_ensureCapacityInternal_d00df ml_RJ5_100 (RMok.mk)) ⟨PJ.blind zT_ok, (my_recv (i0 := 0) (ci := 1) hK hP rfl rfl rfl), fun U hU hW => ⟨rfl, my_preJ zT_ok trivial hS hA hK hP hD [0, 1] rfl rfl U hU hW⟩⟩ rfl rfl hl.1 rfl (lv_room (Nat.le_of_ble_eq_true rfl)) dJ5_append_c97b9_14 (by decide)) hP hD hS hA [0, 1] rfl [] rfl (by decide) [0, 1] (fun _ => rfl) rfl (fun u1 H locs hp_1 hP hD hS => ?_)
    have hP : va_P D KL [(t, .inr (1, [.ref bt, .int 0, .int ml, .int 0])), (bt, .inl (cB, 16, .inl bs))] H := hP
    have hD : va_D A [(t, .inr (1, [.ref bt, .int 0, .int ml, .int 0])), (bt, .inl (cB, 16, .inl bs))] := hD
    refine W.eq (g2 := F0 m 17 ls []) rfl ?_
    refine lv_aload_n FX.1 FX.2.1 dJ5_append_c97b9_17 rfl (lv_at hl 2 rfl) ?_
    refine c_J (W0 := [(t, .inr (1, [.ref bt, .int 0, .int ml, .int 0])), (bt, .inl (cB, 16, .inl bs))]) (wr := []) (wsN := fun _ => [(t, .inr (1, [.ref bt, .int 0, .int ml, .int 0])), (bt, .inl (cB, 16, .inl bs))]) (va_runU FX ((j_J5_isLatin1_aae02 l D cI cB t bt ml 0 bs) H.size) (my_cwU FX.2.2.2.2 mu_J5_isLatin1_aae02 ml_RJ5_83 (RMok.mk)) ⟨PJ.blind zC_ok, (my_recv (i0 := 0) (ci := 1) hK hP rfl rfl rfl), fun U hU hW => ⟨rfl, my_preJ zC_ok hz.1 hS hA hK hP hD [0, 1] rfl rfl U hU hW⟩⟩ rfl rfl hl.1 rfl (lv_room (Nat.le_of_ble_eq_true rfl)) dJ5_append_c97b9_18 (by decide)) hP hD hS hA [0, 1] rfl [] rfl (by decide) [0, 1] (fun _ => rfl) rfl (fun u2 H locs hp_2 hP hD hS => ?_)
    have hP : va_P D KL [(t, .inr (1, [.ref bt, .int 0, .int ml, .int 0])), (bt, .inl (cB, 16, .inl bs))] H := hP
    have hD : va_D A [(t, .inr (1, [.ref bt, .int 0, .int ml, .int 0])), (bt, .inl (cB, 16, .inl bs))] := hD
    refine W.eq (g2 := F0 m 21 ls [.int 1]) rfl ?_
    refine lv_if_eq (tgt := 37) FX.1 FX.2.1 dJ5_append_c97b9_21 (by decide) (fun c_1 => ?_) (fun c_1 => ?_)
    · exact absurd c_1 (by decide)
    · refine lv_iload_n FX.1 FX.2.1 dJ5_append_c97b9_24 rfl (lv_at hl 3 rfl) ?_
      refine lv_iload_n FX.1 FX.2.1 dJ5_append_c97b9_25 rfl (lv_at hl 0 rfl) ?_
      refine lv_aload_n FX.1 FX.2.1 dJ5_append_c97b9_26 rfl (lv_at hl 2 rfl) ?_
      refine va_get (D := D) (ci := 1) (v := .ref bt) (C := RJ4) (T := TJ4) (N := 4) FX.1 FX.2.1 FX.2.2.2.2 inJ4 FX.2.2.2.1 hK hP 0 rfl rfl 0 (by decide) (FX.2.2.2.2 _ fl_RJ5_15) (fun _ h9 => h9) rfl dJ5_append_c97b9_27 ?_
      refine c_J (W0 := [(bt, .inl (cB, 16, .inl bs))]) (wr := [(t, .inr (1, [.ref bt, .int 0, .int ml, .int 0]))]) (wsN := fun u3 => [(t, .inr (1, [.ref bt, .int 0, .int ml, .int 0])), (bt, .inl (cB, 16, .inl u3))]) (va_runS FX ((j_J6_getChars_A2 l D cI cB v bt bs to tt go gt hk hb) H.size) (my_cwS FX.2.2.2.2 mi_J6_getChars_ba4f3 ml_RJ5_248 (RMok.mk)) ⟨PJ.blind (zAnd_ok zDg_ok zDg_ok), fun U hU hW => ⟨rfl, my_preJ (zAnd_ok zDg_ok zDg_ok) ⟨hz.2.1, hz.2.2⟩ hS hA hK hP hD [1] rfl rfl U hU hW⟩⟩ rfl rfl hl.1 rfl (lv_room (Nat.le_of_ble_eq_true rfl)) dJ5_append_c97b9_30 (by decide)) hP hD hS hA [1] rfl [0] rfl (by decide) [0, 1] (fun _ => rfl) rfl (fun u3 H locs hp_3 hP hD hS => ?_)
      have hP : va_P D KL [(t, .inr (1, [.ref bt, .int 0, .int ml, .int 0])), (bt, .inl (cB, 16, .inl u3))] H := hP
      have hD : va_D A [(t, .inr (1, [.ref bt, .int 0, .int ml, .int 0])), (bt, .inl (cB, 16, .inl u3))] := hD
      refine W.eq (g2 := F0 m 33 ls [.int 0]) rfl ?_
      refine lv_pop FX.1 FX.2.1 dJ5_append_c97b9_33 rfl ?_
      refine lv_goto (tgt := 48) FX.1 FX.2.1 dJ5_append_c97b9_34 (by decide) ?_
      refine lv_aload_n FX.1 FX.2.1 dJ5_append_c97b9_48 rfl (lv_at hl 2 rfl) ?_
      refine lv_iload_n FX.1 FX.2.1 dJ5_append_c97b9_49 rfl (lv_at hl 0 rfl) ?_
      refine p_put (wsN := [(t, .inr (1, [.ref bt, .int 0, .int ml, .int 2])), (bt, .inl (cB, 16, .inl u3))]) (ci := 1) (v := .int 2) (ty := .int) FX inJ4 tyJ4_ok nmJ4 hK hP hD hS 0 rfl rfl 3 (by decide) (FX.2.2.2.2 _ fl_RJ5_79) rfl (by decide +kernel) rfl rfl (Nat.le_of_ble_eq_true rfl) dJ5_append_c97b9_50 rfl (fun H locs hP hD hS => ?_)
      refine lv_aload_n FX.1 FX.2.1 dJ5_append_c97b9_53 rfl (lv_at hl 2 rfl) ?_
      exact retJa u3 FX hr (Or.inl ⟨_, rfl⟩) hlk dJ5_append_c97b9_54 (by rw [size_A2 hk]; exact hP) hK (by rw [size_A2 hk]; exact hD) hS (by decide) (by decide) rfl ⟨hp_3.1, ts_A2 hk hp_3.2⟩
  · refine lv_aload_n FX.1 FX.2.1 dJ5_append_c97b9_0 rfl (lv_at hl 0 rfl) ?_
    refine va_get (D := D) (ci := 1) (v := .int 0) (C := RJ4) (T := TJ4) (N := 4) FX.1 FX.2.1 FX.2.2.2.2 inJ4 FX.2.2.2.1 hK hP 0 rfl rfl 3 (by decide) (FX.2.2.2.2 _ fl_RJ5_79) (fun _ h9 => h9) rfl dJ5_append_c97b9_1 ?_
    refine lv_istore_n (lv' := [(2, .int 0), (0, .ref t), (1, .int v)]) FX.1 FX.2.1 dJ5_append_c97b9_4 rfl hl (by decide) rfl (fun ls hl => ?_)
    refine lv_iload_n FX.1 FX.2.1 dJ5_append_c97b9_5 rfl (lv_at hl 0 rfl) ?_
    refine lv_iload_n FX.1 FX.2.1 dJ5_append_c97b9_6 rfl (lv_at hl 2 rfl) ?_
    refine c_RDs FX (r_J6_stringSize_0f7a4 l D cI cB v hv) mi_J6_stringSize_0f7a4 rfl ml_RJ5_245 (RMok.mk) hl.1 rfl (Nat.le_of_ble_eq_true rfl) dJ5_append_c97b9_7 (by decide) hK hP [] rfl ?_
    refine W.eq (g2 := F0 m 10 ls [.int 3, .int 0]) (by rw [size_A3 hk]) ?_
    refine lv_iadd FX.1 FX.2.1 dJ5_append_c97b9_10 ?_
    refine W.eq (g2 := F0 m 11 ls [.int 3]) (by rw [Int32.zero_add]) ?_
    refine lv_istore_n (lv' := [(3, .int 3), (2, .int 0), (0, .ref t), (1, .int v)]) FX.1 FX.2.1 dJ5_append_c97b9_11 rfl hl (by decide) rfl (fun ls hl => ?_)
    refine lv_aload_n FX.1 FX.2.1 dJ5_append_c97b9_12 rfl (lv_at hl 2 rfl) ?_
    refine lv_iload_n FX.1 FX.2.1 dJ5_append_c97b9_13 rfl (lv_at hl 0 rfl) ?_
    refine c_J (W0 := [(t, .inr (1, [.ref bt, .int 0, .int ml, .int 0])), (bt, .inl (cB, 16, .inl bs))]) (wr := []) (wsN := fun _ => [(t, .inr (1, [.ref bt, .int 0, .int ml, .int 0])), (bt, .inl (cB, 16, .inl bs))]) (va_runU FX ((j_J5_ensureCapacityInternal_d00df l D cI cB t bt ml 0 bs 3 (by decide)) s.heap.size) (my_cwU FX.2.2.2.2 mu_J5_ensureCapacityInternal_d00df ml_RJ5_100 (RMok.mk)) ⟨PJ.blind zT_ok, (my_recv (i0 := 0) (ci := 1) hK hP rfl rfl rfl), fun U hU hW => ⟨rfl, my_preJ zT_ok trivial hS hA hK hP hD [0, 1] rfl rfl U hU hW⟩⟩ rfl rfl hl.1 rfl (lv_room (Nat.le_of_ble_eq_true rfl)) dJ5_append_c97b9_14 (by decide)) hP hD hS hA [0, 1] rfl [] rfl (by decide) [0, 1] (fun _ => rfl) rfl (fun u1 H locs hp_1 hP hD hS => ?_)
    have hP : va_P D KL [(t, .inr (1, [.ref bt, .int 0, .int ml, .int 0])), (bt, .inl (cB, 16, .inl bs))] H := hP
    have hD : va_D A [(t, .inr (1, [.ref bt, .int 0, .int ml, .int 0])), (bt, .inl (cB, 16, .inl bs))] := hD
    refine W.eq (g2 := F0 m 17 ls []) rfl ?_
    refine lv_aload_n FX.1 FX.2.1 dJ5_append_c97b9_17 rfl (lv_at hl 2 rfl) ?_
    refine c_J (W0 := [(t, .inr (1, [.ref bt, .int 0, .int ml, .int 0])), (bt, .inl (cB, 16, .inl bs))]) (wr := []) (wsN := fun _ => [(t, .inr (1, [.ref bt, .int 0, .int ml, .int 0])), (bt, .inl (cB, 16, .inl bs))]) (va_runU FX ((j_J5_isLatin1_aae02 l D cI cB t bt ml 0 bs) H.size) (my_cwU FX.2.2.2.2 mu_J5_isLatin1_aae02 ml_RJ5_83 (RMok.mk)) ⟨PJ.blind zC_ok, (my_recv (i0 := 0) (ci := 1) hK hP rfl rfl rfl), fun U hU hW => ⟨rfl, my_preJ zC_ok hz.1 hS hA hK hP hD [0, 1] rfl rfl U hU hW⟩⟩ rfl rfl hl.1 rfl (lv_room (Nat.le_of_ble_eq_true rfl)) dJ5_append_c97b9_18 (by decide)) hP hD hS hA [0, 1] rfl [] rfl (by decide) [0, 1] (fun _ => rfl) rfl (fun u2 H locs hp_2 hP hD hS => ?_)
    have hP : va_P D KL [(t, .inr (1, [.ref bt, .int 0, .int ml, .int 0])), (bt, .inl (cB, 16, .inl bs))] H := hP
    have hD : va_D A [(t, .inr (1, [.ref bt, .int 0, .int ml, .int 0])), (bt, .inl (cB, 16, .inl bs))] := hD
    refine W.eq (g2 := F0 m 21 ls [.int 1]) rfl ?_
    refine lv_if_eq (tgt := 37) FX.1 FX.2.1 dJ5_append_c97b9_21 (by decide) (fun c_1 => ?_) (fun c_1 => ?_)
    · exact absurd c_1 (by decide)
    · refine lv_iload_n FX.1 FX.2.1 dJ5_append_c97b9_24 rfl (lv_at hl 3 rfl) ?_
      refine lv_iload_n FX.1 FX.2.1 dJ5_append_c97b9_25 rfl (lv_at hl 0 rfl) ?_
      refine lv_aload_n FX.1 FX.2.1 dJ5_append_c97b9_26 rfl (lv_at hl 2 rfl) ?_
      refine va_get (D := D) (ci := 1) (v := .ref bt) (C := RJ4) (T := TJ4) (N := 4) FX.1 FX.2.1 FX.2.2.2.2 inJ4 FX.2.2.2.1 hK hP 0 rfl rfl 0 (by decide) (FX.2.2.2.2 _ fl_RJ5_15) (fun _ h9 => h9) rfl dJ5_append_c97b9_27 ?_
      refine c_J (W0 := [(bt, .inl (cB, 16, .inl bs))]) (wr := [(t, .inr (1, [.ref bt, .int 0, .int ml, .int 0]))]) (wsN := fun u3 => [(t, .inr (1, [.ref bt, .int 0, .int ml, .int 0])), (bt, .inl (cB, 16, .inl u3))]) (va_runS FX ((j_J6_getChars_A3 l D cI cB v bt bs to tt go gt hk hb) H.size) (my_cwS FX.2.2.2.2 mi_J6_getChars_ba4f3 ml_RJ5_248 (RMok.mk)) ⟨PJ.blind (zAnd_ok zDg_ok zDg_ok), fun U hU hW => ⟨rfl, my_preJ (zAnd_ok zDg_ok zDg_ok) ⟨hz.2.1, hz.2.2⟩ hS hA hK hP hD [1] rfl rfl U hU hW⟩⟩ rfl rfl hl.1 rfl (lv_room (Nat.le_of_ble_eq_true rfl)) dJ5_append_c97b9_30 (by decide)) hP hD hS hA [1] rfl [0] rfl (by decide) [0, 1] (fun _ => rfl) rfl (fun u3 H locs hp_3 hP hD hS => ?_)
      have hP : va_P D KL [(t, .inr (1, [.ref bt, .int 0, .int ml, .int 0])), (bt, .inl (cB, 16, .inl u3))] H := hP
      have hD : va_D A [(t, .inr (1, [.ref bt, .int 0, .int ml, .int 0])), (bt, .inl (cB, 16, .inl u3))] := hD
      refine W.eq (g2 := F0 m 33 ls [.int 0]) rfl ?_
      refine lv_pop FX.1 FX.2.1 dJ5_append_c97b9_33 rfl ?_
      refine lv_goto (tgt := 48) FX.1 FX.2.1 dJ5_append_c97b9_34 (by decide) ?_
      refine lv_aload_n FX.1 FX.2.1 dJ5_append_c97b9_48 rfl (lv_at hl 2 rfl) ?_
      refine lv_iload_n FX.1 FX.2.1 dJ5_append_c97b9_49 rfl (lv_at hl 0 rfl) ?_
      refine p_put (wsN := [(t, .inr (1, [.ref bt, .int 0, .int ml, .int 3])), (bt, .inl (cB, 16, .inl u3))]) (ci := 1) (v := .int 3) (ty := .int) FX inJ4 tyJ4_ok nmJ4 hK hP hD hS 0 rfl rfl 3 (by decide) (FX.2.2.2.2 _ fl_RJ5_79) rfl (by decide +kernel) rfl rfl (Nat.le_of_ble_eq_true rfl) dJ5_append_c97b9_50 rfl (fun H locs hP hD hS => ?_)
      refine lv_aload_n FX.1 FX.2.1 dJ5_append_c97b9_53 rfl (lv_at hl 2 rfl) ?_
      exact retJa u3 FX hr (Or.inl ⟨_, rfl⟩) hlk dJ5_append_c97b9_54 (by rw [size_A3 hk]; exact hP) hK (by rw [size_A3 hk]; exact hD) hS (by decide) (by decide) rfl ⟨hp_3.1, ts_A3 hk hp_3.2⟩
  · refine lv_aload_n FX.1 FX.2.1 dJ5_append_c97b9_0 rfl (lv_at hl 0 rfl) ?_
    refine va_get (D := D) (ci := 1) (v := .int 0) (C := RJ4) (T := TJ4) (N := 4) FX.1 FX.2.1 FX.2.2.2.2 inJ4 FX.2.2.2.1 hK hP 0 rfl rfl 3 (by decide) (FX.2.2.2.2 _ fl_RJ5_79) (fun _ h9 => h9) rfl dJ5_append_c97b9_1 ?_
    refine lv_istore_n (lv' := [(2, .int 0), (0, .ref t), (1, .int v)]) FX.1 FX.2.1 dJ5_append_c97b9_4 rfl hl (by decide) rfl (fun ls hl => ?_)
    refine lv_iload_n FX.1 FX.2.1 dJ5_append_c97b9_5 rfl (lv_at hl 0 rfl) ?_
    refine lv_iload_n FX.1 FX.2.1 dJ5_append_c97b9_6 rfl (lv_at hl 2 rfl) ?_
    refine c_RDs FX (r_J6_stringSize_0f7a4 l D cI cB v hv) mi_J6_stringSize_0f7a4 rfl ml_RJ5_245 (RMok.mk) hl.1 rfl (Nat.le_of_ble_eq_true rfl) dJ5_append_c97b9_7 (by decide) hK hP [] rfl ?_
    refine W.eq (g2 := F0 m 10 ls [.int 2, .int 0]) (by rw [size_B1 hk]) ?_
    refine lv_iadd FX.1 FX.2.1 dJ5_append_c97b9_10 ?_
    refine W.eq (g2 := F0 m 11 ls [.int 2]) (by rw [Int32.zero_add]) ?_
    refine lv_istore_n (lv' := [(3, .int 2), (2, .int 0), (0, .ref t), (1, .int v)]) FX.1 FX.2.1 dJ5_append_c97b9_11 rfl hl (by decide) rfl (fun ls hl => ?_)
    refine lv_aload_n FX.1 FX.2.1 dJ5_append_c97b9_12 rfl (lv_at hl 2 rfl) ?_
    refine lv_iload_n FX.1 FX.2.1 dJ5_append_c97b9_13 rfl (lv_at hl 0 rfl) ?_
    refine c_J (W0 := [(t, .inr (1, [.ref bt, .int 0, .int ml, .int 0])), (bt, .inl (cB, 16, .inl bs))]) (wr := []) (wsN := fun _ => [(t, .inr (1, [.ref bt, .int 0, .int ml, .int 0])), (bt, .inl (cB, 16, .inl bs))]) (va_runU FX ((j_J5_ensureCapacityInternal_d00df l D cI cB t bt ml 0 bs 2 (by decide)) s.heap.size) (my_cwU FX.2.2.2.2 mu_J5_ensureCapacityInternal_d00df ml_RJ5_100 (RMok.mk)) ⟨PJ.blind zT_ok, (my_recv (i0 := 0) (ci := 1) hK hP rfl rfl rfl), fun U hU hW => ⟨rfl, my_preJ zT_ok trivial hS hA hK hP hD [0, 1] rfl rfl U hU hW⟩⟩ rfl rfl hl.1 rfl (lv_room (Nat.le_of_ble_eq_true rfl)) dJ5_append_c97b9_14 (by decide)) hP hD hS hA [0, 1] rfl [] rfl (by decide) [0, 1] (fun _ => rfl) rfl (fun u1 H locs hp_1 hP hD hS => ?_)
    have hP : va_P D KL [(t, .inr (1, [.ref bt, .int 0, .int ml, .int 0])), (bt, .inl (cB, 16, .inl bs))] H := hP
    have hD : va_D A [(t, .inr (1, [.ref bt, .int 0, .int ml, .int 0])), (bt, .inl (cB, 16, .inl bs))] := hD
    refine W.eq (g2 := F0 m 17 ls []) rfl ?_
    refine lv_aload_n FX.1 FX.2.1 dJ5_append_c97b9_17 rfl (lv_at hl 2 rfl) ?_
    refine c_J (W0 := [(t, .inr (1, [.ref bt, .int 0, .int ml, .int 0])), (bt, .inl (cB, 16, .inl bs))]) (wr := []) (wsN := fun _ => [(t, .inr (1, [.ref bt, .int 0, .int ml, .int 0])), (bt, .inl (cB, 16, .inl bs))]) (va_runU FX ((j_J5_isLatin1_aae02 l D cI cB t bt ml 0 bs) H.size) (my_cwU FX.2.2.2.2 mu_J5_isLatin1_aae02 ml_RJ5_83 (RMok.mk)) ⟨PJ.blind zC_ok, (my_recv (i0 := 0) (ci := 1) hK hP rfl rfl rfl), fun U hU hW => ⟨rfl, my_preJ zC_ok hz.1 hS hA hK hP hD [0, 1] rfl rfl U hU hW⟩⟩ rfl rfl hl.1 rfl (lv_room (Nat.le_of_ble_eq_true rfl)) dJ5_append_c97b9_18 (by decide)) hP hD hS hA [0, 1] rfl [] rfl (by decide) [0, 1] (fun _ => rfl) rfl (fun u2 H locs hp_2 hP hD hS => ?_)
    have hP : va_P D KL [(t, .inr (1, [.ref bt, .int 0, .int ml, .int 0])), (bt, .inl (cB, 16, .inl bs))] H := hP
    have hD : va_D A [(t, .inr (1, [.ref bt, .int 0, .int ml, .int 0])), (bt, .inl (cB, 16, .inl bs))] := hD
    refine W.eq (g2 := F0 m 21 ls [.int 1]) rfl ?_
    refine lv_if_eq (tgt := 37) FX.1 FX.2.1 dJ5_append_c97b9_21 (by decide) (fun c_1 => ?_) (fun c_1 => ?_)
    · exact absurd c_1 (by decide)
    · refine lv_iload_n FX.1 FX.2.1 dJ5_append_c97b9_24 rfl (lv_at hl 3 rfl) ?_
      refine lv_iload_n FX.1 FX.2.1 dJ5_append_c97b9_25 rfl (lv_at hl 0 rfl) ?_
      refine lv_aload_n FX.1 FX.2.1 dJ5_append_c97b9_26 rfl (lv_at hl 2 rfl) ?_
      refine va_get (D := D) (ci := 1) (v := .ref bt) (C := RJ4) (T := TJ4) (N := 4) FX.1 FX.2.1 FX.2.2.2.2 inJ4 FX.2.2.2.1 hK hP 0 rfl rfl 0 (by decide) (FX.2.2.2.2 _ fl_RJ5_15) (fun _ h9 => h9) rfl dJ5_append_c97b9_27 ?_
      refine c_J (W0 := [(bt, .inl (cB, 16, .inl bs))]) (wr := [(t, .inr (1, [.ref bt, .int 0, .int ml, .int 0]))]) (wsN := fun u3 => [(t, .inr (1, [.ref bt, .int 0, .int ml, .int 0])), (bt, .inl (cB, 16, .inl u3))]) (va_runS FX ((j_J6_getChars_B1 l D cI cB v bt bs to tt go gt hk hb) H.size) (my_cwS FX.2.2.2.2 mi_J6_getChars_ba4f3 ml_RJ5_248 (RMok.mk)) ⟨PJ.blind (zAnd_ok zDg_ok zDg_ok), fun U hU hW => ⟨rfl, my_preJ (zAnd_ok zDg_ok zDg_ok) ⟨hz.2.1, hz.2.2⟩ hS hA hK hP hD [1] rfl rfl U hU hW⟩⟩ rfl rfl hl.1 rfl (lv_room (Nat.le_of_ble_eq_true rfl)) dJ5_append_c97b9_30 (by decide)) hP hD hS hA [1] rfl [0] rfl (by decide) [0, 1] (fun _ => rfl) rfl (fun u3 H locs hp_3 hP hD hS => ?_)
      have hP : va_P D KL [(t, .inr (1, [.ref bt, .int 0, .int ml, .int 0])), (bt, .inl (cB, 16, .inl u3))] H := hP
      have hD : va_D A [(t, .inr (1, [.ref bt, .int 0, .int ml, .int 0])), (bt, .inl (cB, 16, .inl u3))] := hD
      refine W.eq (g2 := F0 m 33 ls [.int 0]) rfl ?_
      refine lv_pop FX.1 FX.2.1 dJ5_append_c97b9_33 rfl ?_
      refine lv_goto (tgt := 48) FX.1 FX.2.1 dJ5_append_c97b9_34 (by decide) ?_
      refine lv_aload_n FX.1 FX.2.1 dJ5_append_c97b9_48 rfl (lv_at hl 2 rfl) ?_
      refine lv_iload_n FX.1 FX.2.1 dJ5_append_c97b9_49 rfl (lv_at hl 0 rfl) ?_
      refine p_put (wsN := [(t, .inr (1, [.ref bt, .int 0, .int ml, .int 2])), (bt, .inl (cB, 16, .inl u3))]) (ci := 1) (v := .int 2) (ty := .int) FX inJ4 tyJ4_ok nmJ4 hK hP hD hS 0 rfl rfl 3 (by decide) (FX.2.2.2.2 _ fl_RJ5_79) rfl (by decide +kernel) rfl rfl (Nat.le_of_ble_eq_true rfl) dJ5_append_c97b9_50 rfl (fun H locs hP hD hS => ?_)
      refine lv_aload_n FX.1 FX.2.1 dJ5_append_c97b9_53 rfl (lv_at hl 2 rfl) ?_
      exact retJa u3 FX hr (Or.inl ⟨_, rfl⟩) hlk dJ5_append_c97b9_54 (by rw [size_B1 hk]; exact hP) hK (by rw [size_B1 hk]; exact hD) hS (by decide) (by decide) rfl ⟨hp_3.1, ts_B1 hk hp_3.2⟩
  · refine lv_aload_n FX.1 FX.2.1 dJ5_append_c97b9_0 rfl (lv_at hl 0 rfl) ?_
    refine va_get (D := D) (ci := 1) (v := .int 0) (C := RJ4) (T := TJ4) (N := 4) FX.1 FX.2.1 FX.2.2.2.2 inJ4 FX.2.2.2.1 hK hP 0 rfl rfl 3 (by decide) (FX.2.2.2.2 _ fl_RJ5_79) (fun _ h9 => h9) rfl dJ5_append_c97b9_1 ?_
    refine lv_istore_n (lv' := [(2, .int 0), (0, .ref t), (1, .int v)]) FX.1 FX.2.1 dJ5_append_c97b9_4 rfl hl (by decide) rfl (fun ls hl => ?_)
    refine lv_iload_n FX.1 FX.2.1 dJ5_append_c97b9_5 rfl (lv_at hl 0 rfl) ?_
    refine lv_iload_n FX.1 FX.2.1 dJ5_append_c97b9_6 rfl (lv_at hl 2 rfl) ?_
    refine c_RDs FX (r_J6_stringSize_0f7a4 l D cI cB v hv) mi_J6_stringSize_0f7a4 rfl ml_RJ5_245 (RMok.mk) hl.1 rfl (Nat.le_of_ble_eq_true rfl) dJ5_append_c97b9_7 (by decide) hK hP [] rfl ?_
    refine W.eq (g2 := F0 m 10 ls [.int 3, .int 0]) (by rw [size_B2 hk]) ?_
    refine lv_iadd FX.1 FX.2.1 dJ5_append_c97b9_10 ?_
    refine W.eq (g2 := F0 m 11 ls [.int 3]) (by rw [Int32.zero_add]) ?_
    refine lv_istore_n (lv' := [(3, .int 3), (2, .int 0), (0, .ref t), (1, .int v)]) FX.1 FX.2.1 dJ5_append_c97b9_11 rfl hl (by decide) rfl (fun ls hl => ?_)
    refine lv_aload_n FX.1 FX.2.1 dJ5_append_c97b9_12 rfl (lv_at hl 2 rfl) ?_
    refine lv_iload_n FX.1 FX.2.1 dJ5_append_c97b9_13 rfl (lv_at hl 0 rfl) ?_
    refine c_J (W0 := [(t, .inr (1, [.ref bt, .int 0, .int ml, .int 0])), (bt, .inl (cB, 16, .inl bs))]) (wr := []) (wsN := fun _ => [(t, .inr (1, [.ref bt, .int 0, .int ml, .int 0])), (bt, .inl (cB, 16, .inl bs))]) (va_runU FX ((j_J5_ensureCapacityInternal_d00df l D cI cB t bt ml 0 bs 3 (by decide)) s.heap.size) (my_cwU FX.2.2.2.2 mu_J5_ensureCapacityInternal_d00df ml_RJ5_100 (RMok.mk)) ⟨PJ.blind zT_ok, (my_recv (i0 := 0) (ci := 1) hK hP rfl rfl rfl), fun U hU hW => ⟨rfl, my_preJ zT_ok trivial hS hA hK hP hD [0, 1] rfl rfl U hU hW⟩⟩ rfl rfl hl.1 rfl (lv_room (Nat.le_of_ble_eq_true rfl)) dJ5_append_c97b9_14 (by decide)) hP hD hS hA [0, 1] rfl [] rfl (by decide) [0, 1] (fun _ => rfl) rfl (fun u1 H locs hp_1 hP hD hS => ?_)
    have hP : va_P D KL [(t, .inr (1, [.ref bt, .int 0, .int ml, .int 0])), (bt, .inl (cB, 16, .inl bs))] H := hP
    have hD : va_D A [(t, .inr (1, [.ref bt, .int 0, .int ml, .int 0])), (bt, .inl (cB, 16, .inl bs))] := hD
    refine W.eq (g2 := F0 m 17 ls []) rfl ?_
    refine lv_aload_n FX.1 FX.2.1 dJ5_append_c97b9_17 rfl (lv_at hl 2 rfl) ?_
    refine c_J (W0 := [(t, .inr (1, [.ref bt, .int 0, .int ml, .int 0])), (bt, .inl (cB, 16, .inl bs))]) (wr := []) (wsN := fun _ => [(t, .inr (1, [.ref bt, .int 0, .int ml, .int 0])), (bt, .inl (cB, 16, .inl bs))]) (va_runU FX ((j_J5_isLatin1_aae02 l D cI cB t bt ml 0 bs) H.size) (my_cwU FX.2.2.2.2 mu_J5_isLatin1_aae02 ml_RJ5_83 (RMok.mk)) ⟨PJ.blind zC_ok, (my_recv (i0 := 0) (ci := 1) hK hP rfl rfl rfl), fun U hU hW => ⟨rfl, my_preJ zC_ok hz.1 hS hA hK hP hD [0, 1] rfl rfl U hU hW⟩⟩ rfl rfl hl.1 rfl (lv_room (Nat.le_of_ble_eq_true rfl)) dJ5_append_c97b9_18 (by decide)) hP hD hS hA [0, 1] rfl [] rfl (by decide) [0, 1] (fun _ => rfl) rfl (fun u2 H locs hp_2 hP hD hS => ?_)
    have hP : va_P D KL [(t, .inr (1, [.ref bt, .int 0, .int ml, .int 0])), (bt, .inl (cB, 16, .inl bs))] H := hP
    have hD : va_D A [(t, .inr (1, [.ref bt, .int 0, .int ml, .int 0])), (bt, .inl (cB, 16, .inl bs))] := hD
    refine W.eq (g2 := F0 m 21 ls [.int 1]) rfl ?_
    refine lv_if_eq (tgt := 37) FX.1 FX.2.1 dJ5_append_c97b9_21 (by decide) (fun c_1 => ?_) (fun c_1 => ?_)
    · exact absurd c_1 (by decide)
    · refine lv_iload_n FX.1 FX.2.1 dJ5_append_c97b9_24 rfl (lv_at hl 3 rfl) ?_
      refine lv_iload_n FX.1 FX.2.1 dJ5_append_c97b9_25 rfl (lv_at hl 0 rfl) ?_
      refine lv_aload_n FX.1 FX.2.1 dJ5_append_c97b9_26 rfl (lv_at hl 2 rfl) ?_
      refine va_get (D := D) (ci := 1) (v := .ref bt) (C := RJ4) (T := TJ4) (N := 4) FX.1 FX.2.1 FX.2.2.2.2 inJ4 FX.2.2.2.1 hK hP 0 rfl rfl 0 (by decide) (FX.2.2.2.2 _ fl_RJ5_15) (fun _ h9 => h9) rfl dJ5_append_c97b9_27 ?_
      refine c_J (W0 := [(bt, .inl (cB, 16, .inl bs))]) (wr := [(t, .inr (1, [.ref bt, .int 0, .int ml, .int 0]))]) (wsN := fun u3 => [(t, .inr (1, [.ref bt, .int 0, .int ml, .int 0])), (bt, .inl (cB, 16, .inl u3))]) (va_runS FX ((j_J6_getChars_B2 l D cI cB v bt bs to tt go gt hk hb) H.size) (my_cwS FX.2.2.2.2 mi_J6_getChars_ba4f3 ml_RJ5_248 (RMok.mk)) ⟨PJ.blind (zAnd_ok zDg_ok zDg_ok), fun U hU hW => ⟨rfl, my_preJ (zAnd_ok zDg_ok zDg_ok) ⟨hz.2.1, hz.2.2⟩ hS hA hK hP hD [1] rfl rfl U hU hW⟩⟩ rfl rfl hl.1 rfl (lv_room (Nat.le_of_ble_eq_true rfl)) dJ5_append_c97b9_30 (by decide)) hP hD hS hA [1] rfl [0] rfl (by decide) [0, 1] (fun _ => rfl) rfl (fun u3 H locs hp_3 hP hD hS => ?_)
      have hP : va_P D KL [(t, .inr (1, [.ref bt, .int 0, .int ml, .int 0])), (bt, .inl (cB, 16, .inl u3))] H := hP
      have hD : va_D A [(t, .inr (1, [.ref bt, .int 0, .int ml, .int 0])), (bt, .inl (cB, 16, .inl u3))] := hD
      refine W.eq (g2 := F0 m 33 ls [.int 0]) rfl ?_
      refine lv_pop FX.1 FX.2.1 dJ5_append_c97b9_33 rfl ?_
      refine lv_goto (tgt := 48) FX.1 FX.2.1 dJ5_append_c97b9_34 (by decide) ?_
      refine lv_aload_n FX.1 FX.2.1 dJ5_append_c97b9_48 rfl (lv_at hl 2 rfl) ?_
      refine lv_iload_n FX.1 FX.2.1 dJ5_append_c97b9_49 rfl (lv_at hl 0 rfl) ?_
      refine p_put (wsN := [(t, .inr (1, [.ref bt, .int 0, .int ml, .int 3])), (bt, .inl (cB, 16, .inl u3))]) (ci := 1) (v := .int 3) (ty := .int) FX inJ4 tyJ4_ok nmJ4 hK hP hD hS 0 rfl rfl 3 (by decide) (FX.2.2.2.2 _ fl_RJ5_79) rfl (by decide +kernel) rfl rfl (Nat.le_of_ble_eq_true rfl) dJ5_append_c97b9_50 rfl (fun H locs hP hD hS => ?_)
      refine lv_aload_n FX.1 FX.2.1 dJ5_append_c97b9_53 rfl (lv_at hl 2 rfl) ?_
      exact retJa u3 FX hr (Or.inl ⟨_, rfl⟩) hlk dJ5_append_c97b9_54 (by rw [size_B2 hk]; exact hP) hK (by rw [size_B2 hk]; exact hD) hS (by decide) (by decide) rfl ⟨hp_3.1, ts_B2 hk hp_3.2⟩
  · refine lv_aload_n FX.1 FX.2.1 dJ5_append_c97b9_0 rfl (lv_at hl 0 rfl) ?_
    refine va_get (D := D) (ci := 1) (v := .int 0) (C := RJ4) (T := TJ4) (N := 4) FX.1 FX.2.1 FX.2.2.2.2 inJ4 FX.2.2.2.1 hK hP 0 rfl rfl 3 (by decide) (FX.2.2.2.2 _ fl_RJ5_79) (fun _ h9 => h9) rfl dJ5_append_c97b9_1 ?_
    refine lv_istore_n (lv' := [(2, .int 0), (0, .ref t), (1, .int v)]) FX.1 FX.2.1 dJ5_append_c97b9_4 rfl hl (by decide) rfl (fun ls hl => ?_)
    refine lv_iload_n FX.1 FX.2.1 dJ5_append_c97b9_5 rfl (lv_at hl 0 rfl) ?_
    refine lv_iload_n FX.1 FX.2.1 dJ5_append_c97b9_6 rfl (lv_at hl 2 rfl) ?_
    refine c_RDs FX (r_J6_stringSize_0f7a4 l D cI cB v hv) mi_J6_stringSize_0f7a4 rfl ml_RJ5_245 (RMok.mk) hl.1 rfl (Nat.le_of_ble_eq_true rfl) dJ5_append_c97b9_7 (by decide) hK hP [] rfl ?_
    refine W.eq (g2 := F0 m 10 ls [.int 4, .int 0]) (by rw [size_B3 hk]) ?_
    refine lv_iadd FX.1 FX.2.1 dJ5_append_c97b9_10 ?_
    refine W.eq (g2 := F0 m 11 ls [.int 4]) (by rw [Int32.zero_add]) ?_
    refine lv_istore_n (lv' := [(3, .int 4), (2, .int 0), (0, .ref t), (1, .int v)]) FX.1 FX.2.1 dJ5_append_c97b9_11 rfl hl (by decide) rfl (fun ls hl => ?_)
    refine lv_aload_n FX.1 FX.2.1 dJ5_append_c97b9_12 rfl (lv_at hl 2 rfl) ?_
    refine lv_iload_n FX.1 FX.2.1 dJ5_append_c97b9_13 rfl (lv_at hl 0 rfl) ?_
    refine c_J (W0 := [(t, .inr (1, [.ref bt, .int 0, .int ml, .int 0])), (bt, .inl (cB, 16, .inl bs))]) (wr := []) (wsN := fun _ => [(t, .inr (1, [.ref bt, .int 0, .int ml, .int 0])), (bt, .inl (cB, 16, .inl bs))]) (va_runU FX ((j_J5_ensureCapacityInternal_d00df l D cI cB t bt ml 0 bs 4 (by decide)) s.heap.size) (my_cwU FX.2.2.2.2 mu_J5_ensureCapacityInternal_d00df ml_RJ5_100 (RMok.mk)) ⟨PJ.blind zT_ok, (my_recv (i0 := 0) (ci := 1) hK hP rfl rfl rfl), fun U hU hW => ⟨rfl, my_preJ zT_ok trivial hS hA hK hP hD [0, 1] rfl rfl U hU hW⟩⟩ rfl rfl hl.1 rfl (lv_room (Nat.le_of_ble_eq_true rfl)) dJ5_append_c97b9_14 (by decide)) hP hD hS hA [0, 1] rfl [] rfl (by decide) [0, 1] (fun _ => rfl) rfl (fun u1 H locs hp_1 hP hD hS => ?_)
    have hP : va_P D KL [(t, .inr (1, [.ref bt, .int 0, .int ml, .int 0])), (bt, .inl (cB, 16, .inl bs))] H := hP
    have hD : va_D A [(t, .inr (1, [.ref bt, .int 0, .int ml, .int 0])), (bt, .inl (cB, 16, .inl bs))] := hD
    refine W.eq (g2 := F0 m 17 ls []) rfl ?_
    refine lv_aload_n FX.1 FX.2.1 dJ5_append_c97b9_17 rfl (lv_at hl 2 rfl) ?_
    refine c_J (W0 := [(t, .inr (1, [.ref bt, .int 0, .int ml, .int 0])), (bt, .inl (cB, 16, .inl bs))]) (wr := []) (wsN := fun _ => [(t, .inr (1, [.ref bt, .int 0, .int ml, .int 0])), (bt, .inl (cB, 16, .inl bs))]) (va_runU FX ((j_J5_isLatin1_aae02 l D cI cB t bt ml 0 bs) H.size) (my_cwU FX.2.2.2.2 mu_J5_isLatin1_aae02 ml_RJ5_83 (RMok.mk)) ⟨PJ.blind zC_ok, (my_recv (i0 := 0) (ci := 1) hK hP rfl rfl rfl), fun U hU hW => ⟨rfl, my_preJ zC_ok hz.1 hS hA hK hP hD [0, 1] rfl rfl U hU hW⟩⟩ rfl rfl hl.1 rfl (lv_room (Nat.le_of_ble_eq_true rfl)) dJ5_append_c97b9_18 (by decide)) hP hD hS hA [0, 1] rfl [] rfl (by decide) [0, 1] (fun _ => rfl) rfl (fun u2 H locs hp_2 hP hD hS => ?_)
    have hP : va_P D KL [(t, .inr (1, [.ref bt, .int 0, .int ml, .int 0])), (bt, .inl (cB, 16, .inl bs))] H := hP
    have hD : va_D A [(t, .inr (1, [.ref bt, .int 0, .int ml, .int 0])), (bt, .inl (cB, 16, .inl bs))] := hD
    refine W.eq (g2 := F0 m 21 ls [.int 1]) rfl ?_
    refine lv_if_eq (tgt := 37) FX.1 FX.2.1 dJ5_append_c97b9_21 (by decide) (fun c_1 => ?_) (fun c_1 => ?_)
    · exact absurd c_1 (by decide)
    · refine lv_iload_n FX.1 FX.2.1 dJ5_append_c97b9_24 rfl (lv_at hl 3 rfl) ?_
      refine lv_iload_n FX.1 FX.2.1 dJ5_append_c97b9_25 rfl (lv_at hl 0 rfl) ?_
      refine lv_aload_n FX.1 FX.2.1 dJ5_append_c97b9_26 rfl (lv_at hl 2 rfl) ?_
      refine va_get (D := D) (ci := 1) (v := .ref bt) (C := RJ4) (T := TJ4) (N := 4) FX.1 FX.2.1 FX.2.2.2.2 inJ4 FX.2.2.2.1 hK hP 0 rfl rfl 0 (by decide) (FX.2.2.2.2 _ fl_RJ5_15) (fun _ h9 => h9) rfl dJ5_append_c97b9_27 ?_
      refine c_J (W0 := [(bt, .inl (cB, 16, .inl bs))]) (wr := [(t, .inr (1, [.ref bt, .int 0, .int ml, .int 0]))]) (wsN := fun u3 => [(t, .inr (1, [.ref bt, .int 0, .int ml, .int 0])), (bt, .inl (cB, 16, .inl u3))]) (va_runS FX ((j_J6_getChars_B3 l D cI cB v bt bs to tt go gt hk hb) H.size) (my_cwS FX.2.2.2.2 mi_J6_getChars_ba4f3 ml_RJ5_248 (RMok.mk)) ⟨PJ.blind (zAnd_ok zDg_ok zDg_ok), fun U hU hW => ⟨rfl, my_preJ (zAnd_ok zDg_ok zDg_ok) ⟨hz.2.1, hz.2.2⟩ hS hA hK hP hD [1] rfl rfl U hU hW⟩⟩ rfl rfl hl.1 rfl (lv_room (Nat.le_of_ble_eq_true rfl)) dJ5_append_c97b9_30 (by decide)) hP hD hS hA [1] rfl [0] rfl (by decide) [0, 1] (fun _ => rfl) rfl (fun u3 H locs hp_3 hP hD hS => ?_)
      have hP : va_P D KL [(t, .inr (1, [.ref bt, .int 0, .int ml, .int 0])), (bt, .inl (cB, 16, .inl u3))] H := hP
      have hD : va_D A [(t, .inr (1, [.ref bt, .int 0, .int ml, .int 0])), (bt, .inl (cB, 16, .inl u3))] := hD
      refine W.eq (g2 := F0 m 33 ls [.int 0]) rfl ?_
      refine lv_pop FX.1 FX.2.1 dJ5_append_c97b9_33 rfl ?_
      refine lv_goto (tgt := 48) FX.1 FX.2.1 dJ5_append_c97b9_34 (by decide) ?_
      refine lv_aload_n FX.1 FX.2.1 dJ5_append_c97b9_48 rfl (lv_at hl 2 rfl) ?_
      refine lv_iload_n FX.1 FX.2.1 dJ5_append_c97b9_49 rfl (lv_at hl 0 rfl) ?_
      refine p_put (wsN := [(t, .inr (1, [.ref bt, .int 0, .int ml, .int 4])), (bt, .inl (cB, 16, .inl u3))]) (ci := 1) (v := .int 4) (ty := .int) FX inJ4 tyJ4_ok nmJ4 hK hP hD hS 0 rfl rfl 3 (by decide) (FX.2.2.2.2 _ fl_RJ5_79) rfl (by decide +kernel) rfl rfl (Nat.le_of_ble_eq_true rfl) dJ5_append_c97b9_50 rfl (fun H locs hP hD hS => ?_)
      refine lv_aload_n FX.1 FX.2.1 dJ5_append_c97b9_53 rfl (lv_at hl 2 rfl) ?_
      exact retJa u3 FX hr (Or.inl ⟨_, rfl⟩) hlk dJ5_append_c97b9_54 (by rw [size_B3 hk]; exact hP) hK (by rw [size_B3 hk]; exact hD) hS (by decide) (by decide) rfl ⟨hp_3.1, ts_B3 hk hp_3.2⟩
set_option maxRecDepth 100000 in
set_option maxHeartbeats 4000000 in
theorem j_J4_append_bf812 (l : Launch) (D : va_G) (cI cB : ClassId) (t bt : Nat) (ml : Int32) (bs : Nat → Int32) (v : Int32) (to tt : Nat) (go gt : Nat → Int32) (hv : -999 ≤ v ∧ v ≤ 999) (hb : sb_Fit bs) : JW (S := Nat → Int32) l yJ4_append_bf812 cJ4_append_bf812 2 (some (.object "java/lang/StringBuilder")) ({ frames := 2, cells := 0, slots := 0, locals := 49 } : Room) D cI cB [.ref t, .int v] [(t, .inr (1, [.ref bt, .int 0, .int ml, .int 0])), (bt, .inl (cB, 16, .inl bs))] (zAnd zC (zAnd (zDg "DigitOnes" to go) (zDg "DigitTens" tt gt))) (fun u => some (.ref t)) (fun u => sb_Fit u ∧ TS v u (tc v go gt)) (fun u => [(t, .inr (1, [.ref bt, .int 0, .int ml, .int (v_J6_stringSize_0f7a4 v)])), (bt, .inl (cB, 16, .inl u))]) 0 0 := by
  refine bodyJ (by decide +kernel) (Nat.le_of_ble_eq_true rfl) (fun p e s m args below meth c ls A ZZ => ?_)
  obtain ⟨FX, hr, hlk, hK, hP, hD, hS, hA, hz, hnm, hl⟩ := ZZ
  have hl : lv_has ls 2 [(0, .ref t), (1, .int v)] := hl
  have hP : va_P D KL [(t, .inr (1, [.ref bt, .int 0, .int ml, .int 0])), (bt, .inl (cB, 16, .inl bs))] s.heap := hP
  refine lv_aload_n FX.1 FX.2.1 dJ4_append_bf812_0 rfl (lv_at hl 0 rfl) ?_
  refine lv_iload_n FX.1 FX.2.1 dJ4_append_bf812_1 rfl (lv_at hl 1 rfl) ?_
  refine c_J (W0 := [(t, .inr (1, [.ref bt, .int 0, .int ml, .int 0])), (bt, .inl (cB, 16, .inl bs))]) (wr := []) (wsN := fun u1 => [(t, .inr (1, [.ref bt, .int 0, .int ml, .int (v_J6_stringSize_0f7a4 v)])), (bt, .inl (cB, 16, .inl u1))]) (va_runSU (hK.1 1 _ rfl).2 FX ((j_J5_append_c97b9 l D cI cB t bt ml bs v to tt go gt hv hb) s.heap.size) (my_cwSU FX.2.2.2.2 mp_J5_append_c97b9 ml_RJ4_53 (RMok.mk)) ⟨PJ.blind (zAnd_ok zC_ok (zAnd_ok zDg_ok zDg_ok)), (my_recv (i0 := 0) (ci := 1) hK hP rfl rfl rfl), fun U hU hW => ⟨rfl, my_preJ (zAnd_ok zC_ok (zAnd_ok zDg_ok zDg_ok)) ⟨hz.1, hz.2.1, hz.2.2⟩ hS hA hK hP hD [0, 1] rfl rfl U hU hW⟩⟩ rfl rfl hl.1 rfl (lv_room (Nat.le_of_ble_eq_true rfl)) dJ4_append_bf812_2 (by decide)) hP hD hS hA [0, 1] rfl [] rfl (by decide) [0, 1] (fun _ => rfl) rfl (fun u1 H locs hp_1 hP hD hS => ?_)
  have hP : va_P D KL [(t, .inr (1, [.ref bt, .int 0, .int ml, .int (v_J6_stringSize_0f7a4 v)])), (bt, .inl (cB, 16, .inl u1))] H := hP
  have hD : va_D A [(t, .inr (1, [.ref bt, .int 0, .int ml, .int (v_J6_stringSize_0f7a4 v)])), (bt, .inl (cB, 16, .inl u1))] := hD
  refine W.eq (g2 := F0 m 5 ls [.ref t]) rfl ?_
  refine lv_pop FX.1 FX.2.1 dJ4_append_bf812_5 rfl ?_
  refine lv_aload_n FX.1 FX.2.1 dJ4_append_bf812_6 rfl (lv_at hl 0 rfl) ?_
  exact retJa u1 FX hr (Or.inl ⟨_, rfl⟩) hlk dJ4_append_bf812_7 hP hK hD hS (by decide) (by decide) rfl hp_1
theorem nk0 {k : Nat} (h : k ≤ 4) : (0 : Int32) ≤ nI k := nI_pos' (by omega)
theorem nk16 {k : Nat} (h : k ≤ 4) : nI k ≤ 16 := nI_le (b := 16) (by omega) (by decide)
theorem nkne {k : Nat} (h : k ≤ 4) : ¬ nI k = 16 := fun z => by
  have := (nI_eq (a := k) (b := 16) (by omega) (by decide)).mp z
  omega
theorem nkmin {k : Nat} (h : k ≤ 4) : (if nI k < 16 then nI k else (16 : Int32)) = nI k := if_pos (nI_lt (b := 16) (by omega) (by decide))
set_option maxRecDepth 100000 in
set_option maxHeartbeats 4000000 in
theorem r_J7_checkLength_df160 (l : Launch) (D : va_G) (cI cB : ClassId) (v1 : Int32) (hc : 0 ≤ v1) : RDv l yJ7_checkLength_df160 cJ7_checkLength_df160 2 none ({ frames := 0, cells := 0, slots := 0, locals := 0 } : Room) D cI cB [.int 0, .int v1] [] := by
  refine bodyRDv (by decide +kernel) (Nat.le_of_ble_eq_true rfl) (fun p e s m args below meth c ls FX hr hlk hK hP hl => ?_)
  have hl : lv_has ls 2 [(0, .int 0), (1, .int v1)] := hl
  refine lv_iload_n FX.1 FX.2.1 dJ7_checkLength_df160_0 rfl (lv_at hl 1 rfl) ?_
  refine lv_iload_n FX.1 FX.2.1 dJ7_checkLength_df160_1 rfl (lv_at hl 0 rfl) ?_
  refine lv_icmp_ge (tgt := 37) FX.1 FX.2.1 dJ7_checkLength_df160_2 (by decide) (fun c_1 => ?_) (fun c_1 => ?_)
  · exact retRDv FX hr hlk dJ7_checkLength_df160_37
  · exact absurd hc c_1
set_option maxRecDepth 100000 in
set_option maxHeartbeats 4000000 in
theorem j_J7_copyOfRangeByte_39247 (l : Launch) (D : va_G) (cI cB : ClassId) (bt k : Nat) (bs : Nat → Int32) (hk : k ≤ 4) (hb : sb_Fit bs) : JW (S := Nat × (Nat → Int32)) l yJ7_copyOfRangeByte_39247 cJ7_copyOfRangeByte_39247 5 (some (.array .byte)) ({ frames := 1, cells := 1, slots := 16, locals := 60 } : Room) D cI cB [.ref bt, .int 0, .int (nI k)] [(bt, .inl (cB, 16, .inl bs))] zT (fun u => some (.ref u.1)) (fun u => sb_Fit u.2 ∧ TL k u.2 bs) (fun u => [(bt, .inl (cB, 16, .inl bs)), (u.1, .inl (cB, k, .inl u.2))]) 1 16 := by
  refine bodyJ (by decide +kernel) (Nat.le_of_ble_eq_true rfl) (fun p e s m args below meth c ls A ZZ => ?_)
  obtain ⟨FX, hr, hlk, hK, hP, hD, hS, hA, hz, hnm, hl⟩ := ZZ
  have hl : lv_has ls 5 [(0, .ref bt), (1, .int 0), (2, .int (nI k))] := hl
  have hP : va_P D KL [(bt, .inl (cB, 16, .inl bs))] s.heap := hP
  refine lv_iload_n FX.1 FX.2.1 dJ7_copyOfRangeByte_39247_0 rfl (lv_at hl 1 rfl) ?_
  refine lv_iload_n FX.1 FX.2.1 dJ7_copyOfRangeByte_39247_1 rfl (lv_at hl 2 rfl) ?_
  refine c_RDvs FX (r_J7_checkLength_df160 l D cI cB (nI k) (nk0 hk)) mi_J7_checkLength_df160 rfl ml_RJ7_343 (RMok.mk) hl.1 rfl (Nat.le_of_ble_eq_true rfl) dJ7_copyOfRangeByte_39247_2 (by decide) hK hP [] rfl ?_
  refine lv_iload_n FX.1 FX.2.1 dJ7_copyOfRangeByte_39247_5 rfl (lv_at hl 2 rfl) ?_
  refine lv_iload_n FX.1 FX.2.1 dJ7_copyOfRangeByte_39247_6 rfl (lv_at hl 1 rfl) ?_
  refine lv_isub FX.1 FX.2.1 dJ7_copyOfRangeByte_39247_7 ?_
  refine W.eq (g2 := F0 m 8 ls [.int (nI k)]) (by rw [Int32.sub_zero]) ?_
  refine lv_istore_n (lv' := [(3, .int (nI k)), (0, .ref bt), (1, .int 0), (2, .int (nI k))]) FX.1 FX.2.1 dJ7_copyOfRangeByte_39247_8 rfl hl (by decide) rfl (fun ls hl => ?_)
  refine lv_iload_n FX.1 FX.2.1 dJ7_copyOfRangeByte_39247_9 rfl (lv_at hl 0 rfl) ?_
  refine p_newB (N' := k) FX ac_byte hK hP hD hS hA (nI_pos (by omega)) (nI_clamp (by omega)) (by omega) (by decide) (by show 0 + k ≤ 16; omega) dJ7_copyOfRangeByte_39247_10 (fun q1 H hP hD hS => ?_)
  have hP : va_P D KL [(bt, .inl (cB, 16, .inl bs)), (q1, .inl (cB, k, .inl (fun _ => 0)))] H := hP
  have hD : va_D A [(bt, .inl (cB, 16, .inl bs)), (q1, .inl (cB, k, .inl (fun _ => 0)))] := hD
  refine lv_astore (lv' := [(4, .ref q1), (3, .int (nI k)), (0, .ref bt), (1, .int 0), (2, .int (nI k))]) FX.1 FX.2.1 dJ7_copyOfRangeByte_39247_12 hl (by decide) rfl (fun ls hl => ?_)
  refine lv_aload_n FX.1 FX.2.1 dJ7_copyOfRangeByte_39247_14 rfl (lv_at hl 2 rfl) ?_
  refine lv_iload_n FX.1 FX.2.1 dJ7_copyOfRangeByte_39247_15 rfl (lv_at hl 3 rfl) ?_
  refine lv_aload FX.1 FX.2.1 dJ7_copyOfRangeByte_39247_16 (lv_at hl 0 rfl) ?_
  refine lv_iconst (v := 0) FX.1 FX.2.1 dJ7_copyOfRangeByte_39247_18 (by decide) ?_
  refine lv_aload_n FX.1 FX.2.1 dJ7_copyOfRangeByte_39247_19 rfl (lv_at hl 2 rfl) ?_
  refine va_alen FX.1 FX.2.1 hK hP 0 1 rfl rfl (v := 16) (by rfl) dJ7_copyOfRangeByte_39247_20 ?_
  refine lv_iload_n FX.1 FX.2.1 dJ7_copyOfRangeByte_39247_21 rfl (lv_at hl 3 rfl) ?_
  refine lv_isub FX.1 FX.2.1 dJ7_copyOfRangeByte_39247_22 ?_
  refine W.eq (g2 := F0 m 23 ls [.int 16, .int 0, .ref q1, .int 0, .ref bt]) (by rw [Int32.sub_zero]) ?_
  refine lv_iload_n FX.1 FX.2.1 dJ7_copyOfRangeByte_39247_23 rfl (lv_at hl 1 rfl) ?_
  refine p_min (v := nI k) FX hl.1 ml_RJ7_304 min_s abs_in min_c (by decide) (Nat.le_of_ble_eq_true rfl) (by decide) (by first | decide | (show 0 + k ≤ 16; omega)) dJ7_copyOfRangeByte_39247_24 (nkmin hk) ?_
  refine va_copyi FX.1 FX.2.1 (FX.2.2.1.trans hl.1.symm) FX.2.2.2.1 (FX.2.2.2.2 _ ml_RJ7_150) (FX.2.2.2.2 _ acp_n) (FX.2.2.2.2 _ acp_s) (FX.2.2.2.2 _ acp_i) hK hP hD hS 0 1 1 1 rfl rfl rfl rfl rfl (by decide) (by decide) (nI_pos (by omega)) (by rw [nI_clamp (by omega)]; show 0 + k ≤ 16; omega) (by rw [nI_clamp (by omega)]; show 0 + k ≤ k; omega) (fun i _ => hb _) (by decide) (by decide) dJ7_copyOfRangeByte_39247_27 (fun H locs hP hD hS => ?_)
  have hP : va_P D KL [(bt, .inl (cB, 16, .inl bs)), (q1, .inl (cB, k, .inl (va_cpy bs (fun _ => 0) ((0 : Int32).toNatClampNeg) ((0 : Int32).toNatClampNeg) ((nI k).toNatClampNeg))))] H := hP
  have hD : va_D A [(bt, .inl (cB, 16, .inl bs)), (q1, .inl (cB, k, .inl (va_cpy bs (fun _ => 0) ((0 : Int32).toNatClampNeg) ((0 : Int32).toNatClampNeg) ((nI k).toNatClampNeg))))] := hD
  refine lv_aload FX.1 FX.2.1 dJ7_copyOfRangeByte_39247_30 (lv_at hl 0 rfl) ?_
  exact retJa (q1, va_cpy bs (fun _ => 0) ((0 : Int32).toNatClampNeg) ((0 : Int32).toNatClampNeg) ((nI k).toNatClampNeg)) FX hr (Or.inr ⟨_, rfl⟩) hlk dJ7_copyOfRangeByte_39247_32 hP hK hD hS (by decide) (by show 0 + k ≤ 16; omega) rfl ⟨sb_fitC hb sb_fit0, TL_cpyC (by omega)⟩
set_option maxRecDepth 100000 in
set_option maxHeartbeats 4000000 in
theorem j_J7_copyOfRange_39247 (l : Launch) (D : va_G) (cI cB : ClassId) (bt k : Nat) (bs : Nat → Int32) (hk : k ≤ 4) (hb : sb_Fit bs) : JW (S := Nat × (Nat → Int32)) l yJ7_copyOfRange_39247 cJ7_copyOfRange_39247 3 (some (.array .byte)) ({ frames := 2, cells := 1, slots := 16, locals := 84 } : Room) D cI cB [.ref bt, .int 0, .int (nI k)] [(bt, .inl (cB, 16, .inl bs))] zT (fun u => some (.ref u.1)) (fun u => sb_Fit u.2 ∧ TL k u.2 bs) (fun u => [(bt, .inl (cB, 16, .inl bs)), (u.1, .inl (cB, k, .inl u.2))]) 1 16 := by
  refine bodyJ (by decide +kernel) (Nat.le_of_ble_eq_true rfl) (fun p e s m args below meth c ls A ZZ => ?_)
  obtain ⟨FX, hr, hlk, hK, hP, hD, hS, hA, hz, hnm, hl⟩ := ZZ
  have hl : lv_has ls 3 [(0, .ref bt), (1, .int 0), (2, .int (nI k))] := hl
  have hP : va_P D KL [(bt, .inl (cB, 16, .inl bs))] s.heap := hP
  refine lv_iload_n FX.1 FX.2.1 dJ7_copyOfRange_39247_0 rfl (lv_at hl 1 rfl) ?_
  refine lv_if_ne (tgt := 10) FX.1 FX.2.1 dJ7_copyOfRange_39247_1 (by decide) (fun c_1 => ?_) (fun c_1 => ?_)
  · exact absurd c_1 (by decide)
  · refine lv_iload_n FX.1 FX.2.1 dJ7_copyOfRange_39247_4 rfl (lv_at hl 2 rfl) ?_
    refine lv_aload_n FX.1 FX.2.1 dJ7_copyOfRange_39247_5 rfl (lv_at hl 0 rfl) ?_
    refine va_alen FX.1 FX.2.1 hK hP 0 1 rfl rfl (v := 16) (by rfl) dJ7_copyOfRange_39247_6 ?_
    refine lv_icmp_eq (tgt := 17) FX.1 FX.2.1 dJ7_copyOfRange_39247_7 (by decide) (fun c_2 => ?_) (fun c_2 => ?_)
    · exact absurd c_2 (nkne hk)
    · refine lv_aload_n FX.1 FX.2.1 dJ7_copyOfRange_39247_10 rfl (lv_at hl 0 rfl) ?_
      refine lv_iload_n FX.1 FX.2.1 dJ7_copyOfRange_39247_11 rfl (lv_at hl 1 rfl) ?_
      refine lv_iload_n FX.1 FX.2.1 dJ7_copyOfRange_39247_12 rfl (lv_at hl 2 rfl) ?_
      refine c_J (W0 := [(bt, .inl (cB, 16, .inl bs))]) (wr := []) (wsN := fun u1 => [(bt, .inl (cB, 16, .inl bs)), (u1.1, .inl (cB, k, .inl u1.2))]) (va_runS FX ((j_J7_copyOfRangeByte_39247 l D cI cB bt k bs hk hb) s.heap.size) (my_cwS FX.2.2.2.2 mi_J7_copyOfRangeByte_39247 ml_RJ7_339 (RMok.mk)) ⟨PJ.blind zT_ok, fun U hU hW => ⟨rfl, my_preJ zT_ok trivial hS hA hK hP hD [0] rfl rfl U hU hW⟩⟩ rfl rfl hl.1 rfl (lv_room (Nat.le_of_ble_eq_true rfl)) dJ7_copyOfRange_39247_13 (by decide)) hP hD hS hA [0] rfl [] rfl (by decide) [0, 1] (fun _ => rfl) rfl (fun u1 H locs hp_1 hP hD hS => ?_)
      have hP : va_P D KL [(bt, .inl (cB, 16, .inl bs)), (u1.1, .inl (cB, k, .inl u1.2))] H := hP
      have hD : va_D A [(bt, .inl (cB, 16, .inl bs)), (u1.1, .inl (cB, k, .inl u1.2))] := hD
      refine W.eq (g2 := F0 m 16 ls [.ref u1.1]) rfl ?_
      exact retJa (u1.1, u1.2) FX hr (Or.inr ⟨_, rfl⟩) hlk dJ7_copyOfRange_39247_16 hP hK hD hS (by decide) (by decide) rfl hp_1
set_option maxRecDepth 100000 in
set_option maxHeartbeats 4000000 in
theorem j_J0_init_db425 (l : Launch) (D : va_G) (cI cB : ClassId) (sx t bt k : Nat) (ml : Int32) (bs : Nat → Int32) (hk : k ≤ 4) (hb : sb_Fit bs) : JW (S := Nat × (Nat → Int32)) l yJ0_init_db425 cJ0_init_db425 5 none ({ frames := 3, cells := 1, slots := 16, locals := 106 } : Room) D cI cB [.ref sx, .ref t, .null] [(sx, .inr (0, [.null, .int 0, .int 0, .int 0])), (t, .inr (1, [.ref bt, .int 0, .int ml, .int (nI k)])), (bt, .inl (cB, 16, .inl bs))] zC (fun u => none) (fun u => sb_Fit u.2 ∧ TL k u.2 bs) (fun u => [(sx, .inr (0, [.ref u.1, .int 0, .int 0, .int 0])), (t, .inr (1, [.ref bt, .int 0, .int ml, .int (nI k)])), (bt, .inl (cB, 16, .inl bs)), (u.1, .inl (cB, k, .inl u.2))]) 1 16 := by
  refine bodyJ (by decide +kernel) (Nat.le_of_ble_eq_true rfl) (fun p e s m args below meth c ls A ZZ => ?_)
  obtain ⟨FX, hr, hlk, hK, hP, hD, hS, hA, hz, hnm, hl⟩ := ZZ
  have hl : lv_has ls 5 [(0, .ref sx), (1, .ref t), (2, .null)] := hl
  have hP : va_P D KL [(sx, .inr (0, [.null, .int 0, .int 0, .int 0])), (t, .inr (1, [.ref bt, .int 0, .int ml, .int (nI k)])), (bt, .inl (cB, 16, .inl bs))] s.heap := hP
  refine lv_aload_n FX.1 FX.2.1 dJ0_init_db425_0 rfl (lv_at hl 0 rfl) ?_
  refine W.objInit FX.1 FX.2.1 FX.2.2.2.1 (FX.2.2.2.2 _ ml_RJ0_1) (FX.2.2.2.2 _ oi_i) (FX.2.2.2.2 _ oi_c) rfl (by rw [FX.2.2.1]; exact hl.1) rfl dJ0_init_db425_1 (Nat.le_of_ble_eq_true rfl) (Nat.le_of_ble_eq_true rfl) ?_
  refine W.eq (g2 := F0 m 4 ls []) rfl ?_
  refine lv_aload_n FX.1 FX.2.1 dJ0_init_db425_4 rfl (lv_at hl 1 rfl) ?_
  refine c_J (W0 := [(t, .inr (1, [.ref bt, .int 0, .int ml, .int (nI k)])), (bt, .inl (cB, 16, .inl bs))]) (wr := [(sx, .inr (0, [.null, .int 0, .int 0, .int 0]))]) (wsN := fun _ => [(sx, .inr (0, [.null, .int 0, .int 0, .int 0])), (t, .inr (1, [.ref bt, .int 0, .int ml, .int (nI k)])), (bt, .inl (cB, 16, .inl bs))]) (va_runU FX ((j_J5_getValue_6d5f1 l D cI cB t bt ml (nI k) bs) s.heap.size) (my_cwU FX.2.2.2.2 mu_J5_getValue_6d5f1 ml_RJ0_552 (RMok.mk)) ⟨PJ.blind zT_ok, (my_recv (i0 := 1) (ci := 1) hK hP rfl rfl rfl), fun U hU hW => ⟨rfl, my_preJ zT_ok trivial hS hA hK hP hD [1, 2] rfl rfl U hU hW⟩⟩ rfl rfl hl.1 rfl (lv_room (Nat.le_of_ble_eq_true rfl)) dJ0_init_db425_5 (by decide)) hP hD hS hA [1, 2] rfl [0] rfl (by decide) [0, 1, 2] (fun _ => rfl) rfl (fun u1 H locs hp_1 hP hD hS => ?_)
  have hP : va_P D KL [(sx, .inr (0, [.null, .int 0, .int 0, .int 0])), (t, .inr (1, [.ref bt, .int 0, .int ml, .int (nI k)])), (bt, .inl (cB, 16, .inl bs))] H := hP
  have hD : va_D A [(sx, .inr (0, [.null, .int 0, .int 0, .int 0])), (t, .inr (1, [.ref bt, .int 0, .int ml, .int (nI k)])), (bt, .inl (cB, 16, .inl bs))] := hD
  refine W.eq (g2 := F0 m 8 ls [.ref bt]) rfl ?_
  refine lv_astore_n (lv' := [(3, .ref bt), (0, .ref sx), (1, .ref t), (2, .null)]) FX.1 FX.2.1 dJ0_init_db425_8 rfl hl (by decide) rfl (fun ls hl => ?_)
  refine lv_aload_n FX.1 FX.2.1 dJ0_init_db425_9 rfl (lv_at hl 2 rfl) ?_
  refine c_J (W0 := [(t, .inr (1, [.ref bt, .int 0, .int ml, .int (nI k)])), (bt, .inl (cB, 16, .inl bs))]) (wr := [(sx, .inr (0, [.null, .int 0, .int 0, .int 0]))]) (wsN := fun _ => [(sx, .inr (0, [.null, .int 0, .int 0, .int 0])), (t, .inr (1, [.ref bt, .int 0, .int ml, .int (nI k)])), (bt, .inl (cB, 16, .inl bs))]) (va_runU FX ((j_J4_length_8abf5 l D cI cB t bt ml (nI k) bs) H.size) (my_cwO FX.2.2.2.2 mo_J4_length_8abf5 ml_RJ0_549 (RMok.mk)) ⟨PJ.blind zT_ok, (my_recv (i0 := 1) (ci := 1) hK hP rfl rfl rfl), fun U hU hW => ⟨rfl, my_preJ zT_ok trivial hS hA hK hP hD [1, 2] rfl rfl U hU hW⟩⟩ rfl rfl hl.1 rfl (lv_room (Nat.le_of_ble_eq_true rfl)) dJ0_init_db425_10 (by decide)) hP hD hS hA [1, 2] rfl [0] rfl (by decide) [0, 1, 2] (fun _ => rfl) rfl (fun u2 H locs hp_2 hP hD hS => ?_)
  have hP : va_P D KL [(sx, .inr (0, [.null, .int 0, .int 0, .int 0])), (t, .inr (1, [.ref bt, .int 0, .int ml, .int (nI k)])), (bt, .inl (cB, 16, .inl bs))] H := hP
  have hD : va_D A [(sx, .inr (0, [.null, .int 0, .int 0, .int 0])), (t, .inr (1, [.ref bt, .int 0, .int ml, .int (nI k)])), (bt, .inl (cB, 16, .inl bs))] := hD
  refine W.eq (g2 := F0 m 13 ls [.int (nI k)]) rfl ?_
  refine lv_istore (lv' := [(4, .int (nI k)), (3, .ref bt), (0, .ref sx), (1, .ref t), (2, .null)]) FX.1 FX.2.1 dJ0_init_db425_13 hl (by decide) rfl (fun ls hl => ?_)
  refine lv_aload_n FX.1 FX.2.1 dJ0_init_db425_15 rfl (lv_at hl 3 rfl) ?_
  refine c_J (W0 := [(t, .inr (1, [.ref bt, .int 0, .int ml, .int (nI k)])), (bt, .inl (cB, 16, .inl bs))]) (wr := [(sx, .inr (0, [.null, .int 0, .int 0, .int 0]))]) (wsN := fun _ => [(sx, .inr (0, [.null, .int 0, .int 0, .int 0])), (t, .inr (1, [.ref bt, .int 0, .int ml, .int (nI k)])), (bt, .inl (cB, 16, .inl bs))]) (va_runU FX ((j_J5_isLatin1_aae02 l D cI cB t bt ml (nI k) bs) H.size) (my_cwU FX.2.2.2.2 mu_J5_isLatin1_aae02 ml_RJ0_1047 (RMok.mk)) ⟨PJ.blind zC_ok, (my_recv (i0 := 1) (ci := 1) hK hP rfl rfl rfl), fun U hU hW => ⟨rfl, my_preJ zC_ok hz hS hA hK hP hD [1, 2] rfl rfl U hU hW⟩⟩ rfl rfl hl.1 rfl (lv_room (Nat.le_of_ble_eq_true rfl)) dJ0_init_db425_16 (by decide)) hP hD hS hA [1, 2] rfl [0] rfl (by decide) [0, 1, 2] (fun _ => rfl) rfl (fun u3 H locs hp_3 hP hD hS => ?_)
  have hP : va_P D KL [(sx, .inr (0, [.null, .int 0, .int 0, .int 0])), (t, .inr (1, [.ref bt, .int 0, .int ml, .int (nI k)])), (bt, .inl (cB, 16, .inl bs))] H := hP
  have hD : va_D A [(sx, .inr (0, [.null, .int 0, .int 0, .int 0])), (t, .inr (1, [.ref bt, .int 0, .int ml, .int (nI k)])), (bt, .inl (cB, 16, .inl bs))] := hD
  refine W.eq (g2 := F0 m 19 ls [.int 1]) rfl ?_
  refine lv_if_eq (tgt := 41) FX.1 FX.2.1 dJ0_init_db425_19 (by decide) (fun c_1 => ?_) (fun c_1 => ?_)
  · exact absurd c_1 (by decide)
  · refine lv_aload_n FX.1 FX.2.1 dJ0_init_db425_22 rfl (lv_at hl 2 rfl) ?_
    refine lv_iconst (v := 0) FX.1 FX.2.1 dJ0_init_db425_23 (by decide) ?_
    refine p_putF (wsN := [(sx, .inr (0, [.null, .int 0, .int 0, .int 0])), (t, .inr (1, [.ref bt, .int 0, .int ml, .int (nI k)])), (bt, .inl (cB, 16, .inl bs))]) (ci := 0) (v := .int 0) (ty := .byte) FX inJ0 tyJ0_ok nmJ0 hK hP hD hS (hnm.trans rfl) 0 rfl rfl 1 (by decide) (FX.2.2.2.2 _ fl_RJ0_15) rfl rfl (by decide +kernel) rfl rfl (Nat.le_of_ble_eq_true rfl) dJ0_init_db425_24 rfl (fun H locs hP hD hS => ?_)
    refine lv_aload_n FX.1 FX.2.1 dJ0_init_db425_27 rfl (lv_at hl 2 rfl) ?_
    refine lv_aload_n FX.1 FX.2.1 dJ0_init_db425_28 rfl (lv_at hl 1 rfl) ?_
    refine lv_iconst (v := 0) FX.1 FX.2.1 dJ0_init_db425_29 (by decide) ?_
    refine lv_iload FX.1 FX.2.1 dJ0_init_db425_30 (lv_at hl 0 rfl) ?_
    refine c_J (W0 := [(bt, .inl (cB, 16, .inl bs))]) (wr := [(sx, .inr (0, [.null, .int 0, .int 0, .int 0])), (t, .inr (1, [.ref bt, .int 0, .int ml, .int (nI k)]))]) (wsN := fun u4 => [(sx, .inr (0, [.null, .int 0, .int 0, .int 0])), (t, .inr (1, [.ref bt, .int 0, .int ml, .int (nI k)])), (bt, .inl (cB, 16, .inl bs)), (u4.1, .inl (cB, k, .inl u4.2))]) (va_runS FX ((j_J7_copyOfRange_39247 l D cI cB bt k bs hk hb) H.size) (my_cwS FX.2.2.2.2 mi_J7_copyOfRange_39247 ml_RJ0_54 (RMok.mk)) ⟨PJ.blind zT_ok, fun U hU hW => ⟨rfl, my_preJ zT_ok trivial hS hA hK hP hD [2] rfl rfl U hU hW⟩⟩ rfl rfl hl.1 rfl (lv_room (Nat.le_of_ble_eq_true rfl)) dJ0_init_db425_32 (by decide)) hP hD hS hA [2] rfl [0, 1] rfl (by decide) [0, 1, 2, 3] (fun _ => rfl) rfl (fun u4 H locs hp_4 hP hD hS => ?_)
    have hP : va_P D KL [(sx, .inr (0, [.null, .int 0, .int 0, .int 0])), (t, .inr (1, [.ref bt, .int 0, .int ml, .int (nI k)])), (bt, .inl (cB, 16, .inl bs)), (u4.1, .inl (cB, k, .inl u4.2))] H := hP
    have hD : va_D A [(sx, .inr (0, [.null, .int 0, .int 0, .int 0])), (t, .inr (1, [.ref bt, .int 0, .int ml, .int (nI k)])), (bt, .inl (cB, 16, .inl bs)), (u4.1, .inl (cB, k, .inl u4.2))] := hD
    refine W.eq (g2 := F0 m 35 ls [.ref u4.1, .ref sx]) rfl ?_
    refine p_putF (wsN := [(sx, .inr (0, [.ref u4.1, .int 0, .int 0, .int 0])), (t, .inr (1, [.ref bt, .int 0, .int ml, .int (nI k)])), (bt, .inl (cB, 16, .inl bs)), (u4.1, .inl (cB, k, .inl u4.2))]) (ci := 0) (v := .ref u4.1) (ty := .array .byte) FX inJ0 tyJ0_ok nmJ0 hK hP hD hS (hnm.trans rfl) 0 rfl rfl 0 (by decide) (FX.2.2.2.2 _ fl_RJ0_9) rfl rfl (by decide +kernel) rfl rfl (Nat.le_of_ble_eq_true rfl) dJ0_init_db425_35 rfl (fun H locs hP hD hS => ?_)
    refine lv_goto (tgt := 97) FX.1 FX.2.1 dJ0_init_db425_38 (by decide) ?_
    exact retJv (u4.1, u4.2) FX hr hlk dJ0_init_db425_97 hP hK hD hS (by decide) (by decide) rfl hp_4
set_option maxRecDepth 100000 in
set_option maxHeartbeats 4000000 in
theorem j_J0_init_81219 (l : Launch) (D : va_G) (cI cB : ClassId) (sx t bt k : Nat) (ml : Int32) (bs : Nat → Int32) (hk : k ≤ 4) (hb : sb_Fit bs) : JW (S := Nat × (Nat → Int32)) l yJ0_init_81219 cJ0_init_81219 2 none ({ frames := 4, cells := 1, slots := 16, locals := 130 } : Room) D cI cB [.ref sx, .ref t] [(sx, .inr (0, [.null, .int 0, .int 0, .int 0])), (t, .inr (1, [.ref bt, .int 0, .int ml, .int (nI k)])), (bt, .inl (cB, 16, .inl bs))] zC (fun u => none) (fun u => sb_Fit u.2 ∧ TL k u.2 bs) (fun u => [(sx, .inr (0, [.ref u.1, .int 0, .int 0, .int 0])), (t, .inr (1, [.ref bt, .int 0, .int ml, .int (nI k)])), (bt, .inl (cB, 16, .inl bs)), (u.1, .inl (cB, k, .inl u.2))]) 1 16 := by
  refine bodyJ (by decide +kernel) (Nat.le_of_ble_eq_true rfl) (fun p e s m args below meth c ls A ZZ => ?_)
  obtain ⟨FX, hr, hlk, hK, hP, hD, hS, hA, hz, hnm, hl⟩ := ZZ
  have hl : lv_has ls 2 [(0, .ref sx), (1, .ref t)] := hl
  have hP : va_P D KL [(sx, .inr (0, [.null, .int 0, .int 0, .int 0])), (t, .inr (1, [.ref bt, .int 0, .int ml, .int (nI k)])), (bt, .inl (cB, 16, .inl bs))] s.heap := hP
  refine lv_aload_n FX.1 FX.2.1 dJ0_init_81219_0 rfl (lv_at hl 0 rfl) ?_
  refine lv_aload_n FX.1 FX.2.1 dJ0_init_81219_1 rfl (lv_at hl 1 rfl) ?_
  refine lv_null FX.1 FX.2.1 dJ0_init_81219_2 ?_
  refine c_J (W0 := [(sx, .inr (0, [.null, .int 0, .int 0, .int 0])), (t, .inr (1, [.ref bt, .int 0, .int ml, .int (nI k)])), (bt, .inl (cB, 16, .inl bs))]) (wr := []) (wsN := fun u1 => [(sx, .inr (0, [.ref u1.1, .int 0, .int 0, .int 0])), (t, .inr (1, [.ref bt, .int 0, .int ml, .int (nI k)])), (bt, .inl (cB, 16, .inl bs)), (u1.1, .inl (cB, k, .inl u1.2))]) (va_runI FX ((j_J0_init_db425 l D cI cB sx t bt k ml bs hk hb) s.heap.size) (my_cwI FX.2.2.2.2 mn_J0_init_db425 ml_RJ0_489 (RMok.mk)) ⟨PJ.blind zC_ok, fun U hU hW => ⟨rfl, my_preJ zC_ok hz hS hA hK hP hD [0, 1, 2] rfl rfl U hU hW⟩⟩ rfl rfl hl.1 rfl (lv_room (Nat.le_of_ble_eq_true rfl)) dJ0_init_81219_3 (by decide)) hP hD hS hA [0, 1, 2] rfl [] rfl (by decide) [0, 1, 2, 3] (fun _ => rfl) rfl (fun u1 H locs hp_1 hP hD hS => ?_)
  have hP : va_P D KL [(sx, .inr (0, [.ref u1.1, .int 0, .int 0, .int 0])), (t, .inr (1, [.ref bt, .int 0, .int ml, .int (nI k)])), (bt, .inl (cB, 16, .inl bs)), (u1.1, .inl (cB, k, .inl u1.2))] H := hP
  have hD : va_D A [(sx, .inr (0, [.ref u1.1, .int 0, .int 0, .int 0])), (t, .inr (1, [.ref bt, .int 0, .int ml, .int (nI k)])), (bt, .inl (cB, 16, .inl bs)), (u1.1, .inl (cB, k, .inl u1.2))] := hD
  refine W.eq (g2 := F0 m 6 ls []) rfl ?_
  exact retJv (u1.1, u1.2) FX hr hlk dJ0_init_81219_6 hP hK hD hS (by decide) (by decide) rfl hp_1
set_option maxRecDepth 100000 in
set_option maxHeartbeats 4000000 in
theorem j_J4_toString_0e30d (l : Launch) (D : va_G) (cI cB : ClassId) (t bt k : Nat) (ml : Int32) (bs : Nat → Int32) (hk : k ≤ 4) (hb : sb_Fit bs) : JW (S := Nat × Nat × (Nat → Int32)) l yJ4_toString_0e30d cJ4_toString_0e30d 1 (some (.object "java/lang/String")) ({ frames := 5, cells := 2, slots := 20, locals := 151 } : Room) D cI cB [.ref t] [(t, .inr (1, [.ref bt, .int 0, .int ml, .int (nI k)])), (bt, .inl (cB, 16, .inl bs))] zC (fun u => some (.ref u.1)) (fun u => sb_Fit u.2.2 ∧ TL k u.2.2 bs) (fun u => [(t, .inr (1, [.ref bt, .int 0, .int ml, .int (nI k)])), (bt, .inl (cB, 16, .inl bs)), (u.1, .inr (0, [.ref u.2.1, .int 0, .int 0, .int 0])), (u.2.1, .inl (cB, k, .inl u.2.2))]) 2 20 := by
  refine bodyJ (by decide +kernel) (Nat.le_of_ble_eq_true rfl) (fun p e s m args below meth c ls A ZZ => ?_)
  obtain ⟨FX, hr, hlk, hK, hP, hD, hS, hA, hz, hnm, hl⟩ := ZZ
  have hl : lv_has ls 1 [(0, .ref t)] := hl
  have hP : va_P D KL [(t, .inr (1, [.ref bt, .int 0, .int ml, .int (nI k)])), (bt, .inl (cB, 16, .inl bs))] s.heap := hP
  refine va_new (ci := 0) (fs := [.null, .int 0, .int 0, .int 0]) (C := RJ0) (T := TJ0) (N := 4) FX.1 FX.2.1 FX.2.2.2.2 inJ0 tyJ0 tyJ0_ok FX.2.2.2.1 (FX.2.2.2.2 _ cl_RJ4_18) (FX.2.2.2.2 _ is_RJ0) (FX.2.2.2.2 _ in_RJ0) hK hP hD hS hA rfl (fun j hj => by rcases (show j = 0 ∨ j = 1 ∨ j = 2 ∨ j = 3 by omega) with rfl | rfl | rfl | rfl <;> rfl) (by decide) (by decide) dJ4_toString_0e30d_0 (fun q1 H hP hD hS => ?_)
  have hP : va_P D KL [(t, .inr (1, [.ref bt, .int 0, .int ml, .int (nI k)])), (bt, .inl (cB, 16, .inl bs)), (q1, .inr (0, [.null, .int 0, .int 0, .int 0]))] H := hP
  have hD : va_D A [(t, .inr (1, [.ref bt, .int 0, .int ml, .int (nI k)])), (bt, .inl (cB, 16, .inl bs)), (q1, .inr (0, [.null, .int 0, .int 0, .int 0]))] := hD
  refine lv_dup FX.1 FX.2.1 dJ4_toString_0e30d_3 rfl ?_
  refine lv_aload_n FX.1 FX.2.1 dJ4_toString_0e30d_4 rfl (lv_at hl 0 rfl) ?_
  refine c_J (W0 := [(q1, .inr (0, [.null, .int 0, .int 0, .int 0])), (t, .inr (1, [.ref bt, .int 0, .int ml, .int (nI k)])), (bt, .inl (cB, 16, .inl bs))]) (wr := []) (wsN := fun u1 => [(t, .inr (1, [.ref bt, .int 0, .int ml, .int (nI k)])), (bt, .inl (cB, 16, .inl bs)), (q1, .inr (0, [.ref u1.1, .int 0, .int 0, .int 0])), (u1.1, .inl (cB, k, .inl u1.2))]) (va_runI FX ((j_J0_init_81219 l D cI cB q1 t bt k ml bs hk hb) H.size) (my_cwI FX.2.2.2.2 mn_J0_init_81219 ml_RJ4_137 (RMok.mk)) ⟨PJ.blind zC_ok, fun U hU hW => ⟨rfl, my_preJ zC_ok hz hS hA hK hP hD [2, 0, 1] rfl rfl U hU hW⟩⟩ rfl rfl hl.1 rfl (lv_room (Nat.le_of_ble_eq_true rfl)) dJ4_toString_0e30d_5 (by decide)) hP hD hS hA [2, 0, 1] rfl [] rfl (by decide) [1, 2, 0, 3] (fun _ => rfl) rfl (fun u1 H locs hp_1 hP hD hS => ?_)
  have hP : va_P D KL [(t, .inr (1, [.ref bt, .int 0, .int ml, .int (nI k)])), (bt, .inl (cB, 16, .inl bs)), (q1, .inr (0, [.ref u1.1, .int 0, .int 0, .int 0])), (u1.1, .inl (cB, k, .inl u1.2))] H := hP
  have hD : va_D A [(t, .inr (1, [.ref bt, .int 0, .int ml, .int (nI k)])), (bt, .inl (cB, 16, .inl bs)), (q1, .inr (0, [.ref u1.1, .int 0, .int 0, .int 0])), (u1.1, .inl (cB, k, .inl u1.2))] := hD
  refine W.eq (g2 := F0 m 8 ls [.ref q1]) rfl ?_
  exact retJa (q1, u1.1, u1.2) FX hr (Or.inl ⟨_, rfl⟩) hlk dJ4_toString_0e30d_8 hP hK hD hS (by decide) (by decide) rfl hp_1
set_option maxRecDepth 100000 in
set_option maxHeartbeats 4000000 in
theorem j_J5_init_d00df (l : Launch) (D : va_G) (cI cB : ClassId) (t : Nat) : JW (S := Nat) l yJ5_init_d00df cJ5_init_d00df 2 none ({ frames := 1, cells := 1, slots := 16, locals := 24 } : Room) D cI cB [.ref t, .int 16] [(t, .inr (1, [.null, .int 0, .int 0, .int 0]))] zC (fun u => none) (fun u => True) (fun u => [(t, .inr (1, [.ref u, .int 0, .int 0, .int 0])), (u, .inl (cB, 16, .inl ((fun _ => 0))))]) 1 16 := by
  refine bodyJ (by decide +kernel) (Nat.le_of_ble_eq_true rfl) (fun p e s m args below meth c ls A ZZ => ?_)
  obtain ⟨FX, hr, hlk, hK, hP, hD, hS, hA, hz, hnm, hl⟩ := ZZ
  have hl : lv_has ls 2 [(0, .ref t), (1, .int 16)] := hl
  have hP : va_P D KL [(t, .inr (1, [.null, .int 0, .int 0, .int 0]))] s.heap := hP
  refine lv_aload_n FX.1 FX.2.1 dJ5_init_d00df_0 rfl (lv_at hl 0 rfl) ?_
  refine W.objInit FX.1 FX.2.1 FX.2.2.2.1 (FX.2.2.2.2 _ ml_RJ5_3) (FX.2.2.2.2 _ oi_i) (FX.2.2.2.2 _ oi_c) rfl (by rw [FX.2.2.1]; exact hl.1) rfl dJ5_init_d00df_1 (Nat.le_of_ble_eq_true rfl) (Nat.le_of_ble_eq_true rfl) ?_
  refine W.eq (g2 := F0 m 4 ls []) rfl ?_
  refine va_gets FX.1 FX.2.1 hz hS FX.2.2.2.1 (FX.2.2.2.2 _ fl_RJ5_18) (fun _ h9 => h9) dJ5_init_d00df_4 ?_
  refine lv_if_eq (tgt := 25) FX.1 FX.2.1 dJ5_init_d00df_7 (by decide) (fun c_1 => ?_) (fun c_1 => ?_)
  · exact absurd c_1 (by decide)
  · refine lv_aload_n FX.1 FX.2.1 dJ5_init_d00df_10 rfl (lv_at hl 0 rfl) ?_
    refine lv_iload_n FX.1 FX.2.1 dJ5_init_d00df_11 rfl (lv_at hl 1 rfl) ?_
    refine p_newB (N' := 16) FX ac_byte hK hP hD hS hA (by decide) (by decide) (Nat.le_of_ble_eq_true rfl) (by decide) (by decide) dJ5_init_d00df_12 (fun q2 H hP hD hS => ?_)
    have hP : va_P D KL [(t, .inr (1, [.null, .int 0, .int 0, .int 0])), (q2, .inl (cB, 16, .inl (fun _ => 0)))] H := hP
    have hD : va_D A [(t, .inr (1, [.null, .int 0, .int 0, .int 0])), (q2, .inl (cB, 16, .inl (fun _ => 0)))] := hD
    refine p_put (wsN := [(t, .inr (1, [.ref q2, .int 0, .int 0, .int 0])), (q2, .inl (cB, 16, .inl (fun _ => 0)))]) (ci := 1) (v := .ref q2) (ty := .array .byte) FX inJ4 tyJ4_ok nmJ4 hK hP hD hS 0 rfl rfl 0 (by decide) (FX.2.2.2.2 _ fl_RJ5_15) rfl (by decide +kernel) rfl rfl (Nat.le_of_ble_eq_true rfl) dJ5_init_d00df_14 rfl (fun H locs hP hD hS => ?_)
    refine lv_aload_n FX.1 FX.2.1 dJ5_init_d00df_17 rfl (lv_at hl 0 rfl) ?_
    refine lv_iconst (v := 0) FX.1 FX.2.1 dJ5_init_d00df_18 (by decide) ?_
    refine p_put (wsN := [(t, .inr (1, [.ref q2, .int 0, .int 0, .int 0])), (q2, .inl (cB, 16, .inl (fun _ => 0)))]) (ci := 1) (v := .int 0) (ty := .byte) FX inJ4 tyJ4_ok nmJ4 hK hP hD hS 0 rfl rfl 1 (by decide) (FX.2.2.2.2 _ fl_RJ5_22) rfl (by decide +kernel) rfl rfl (Nat.le_of_ble_eq_true rfl) dJ5_init_d00df_19 rfl (fun H locs hP hD hS => ?_)
    refine lv_goto (tgt := 38) FX.1 FX.2.1 dJ5_init_d00df_22 (by decide) ?_
    exact retJv q2 FX hr hlk dJ5_init_d00df_38 hP hK hD hS (by decide) (by decide) rfl trivial
set_option maxRecDepth 100000 in
set_option maxHeartbeats 4000000 in
theorem j_J4_init_da8c8 (l : Launch) (D : va_G) (cI cB : ClassId) (t : Nat) : JW (S := Nat) l yJ4_init_da8c8 cJ4_init_da8c8 1 none ({ frames := 2, cells := 1, slots := 16, locals := 45 } : Room) D cI cB [.ref t] [(t, .inr (1, [.null, .int 0, .int 0, .int 0]))] zC (fun u => none) (fun u => True) (fun u => [(t, .inr (1, [.ref u, .int 0, .int 0, .int 0])), (u, .inl (cB, 16, .inl ((fun _ => 0))))]) 1 16 := by
  refine bodyJ (by decide +kernel) (Nat.le_of_ble_eq_true rfl) (fun p e s m args below meth c ls A ZZ => ?_)
  obtain ⟨FX, hr, hlk, hK, hP, hD, hS, hA, hz, hnm, hl⟩ := ZZ
  have hl : lv_has ls 1 [(0, .ref t)] := hl
  have hP : va_P D KL [(t, .inr (1, [.null, .int 0, .int 0, .int 0]))] s.heap := hP
  refine lv_aload_n FX.1 FX.2.1 dJ4_init_da8c8_0 rfl (lv_at hl 0 rfl) ?_
  refine lv_bipush (v := 16) FX.1 FX.2.1 dJ4_init_da8c8_1 (by decide) ?_
  refine c_J (W0 := [(t, .inr (1, [.null, .int 0, .int 0, .int 0]))]) (wr := []) (wsN := fun u1 => [(t, .inr (1, [.ref u1, .int 0, .int 0, .int 0])), (u1, .inl (cB, 16, .inl ((fun _ => 0))))]) (va_runI FX ((j_J5_init_d00df l D cI cB t) s.heap.size) (my_cwI FX.2.2.2.2 mn_J5_init_d00df ml_RJ4_1 (RMok.mk)) ⟨PJ.blind zC_ok, fun U hU hW => ⟨rfl, my_preJ zC_ok hz hS hA hK hP hD [0] rfl rfl U hU hW⟩⟩ rfl rfl hl.1 rfl (lv_room (Nat.le_of_ble_eq_true rfl)) dJ4_init_da8c8_3 (by decide)) hP hD hS hA [0] rfl [] rfl (by decide) [0, 1] (fun _ => rfl) rfl (fun u1 H locs hp_1 hP hD hS => ?_)
  have hP : va_P D KL [(t, .inr (1, [.ref u1, .int 0, .int 0, .int 0])), (u1, .inl (cB, 16, .inl ((fun _ => 0))))] H := hP
  have hD : va_D A [(t, .inr (1, [.ref u1, .int 0, .int 0, .int 0])), (u1, .inl (cB, 16, .inl ((fun _ => 0))))] := hD
  refine W.eq (g2 := F0 m 6 ls []) rfl ?_
  exact retJv u1 FX hr hlk dJ4_init_da8c8_6 hP hK hD hS (by decide) (by decide) rfl trivial
set_option maxRecDepth 100000 in
set_option maxHeartbeats 4000000 in
theorem j_J1_equals_A (l : Launch) (D : va_G) (cI cB : ClassId) (va vb k : Nat) (f g : Nat → Int32) (hk : k ≤ 4) (he : TL k f g) : JW (S := Unit) l yJ1_equals_b5fdf cJ1_equals_b5fdf 3 (some .boolean) ({ frames := 0, cells := 0, slots := 0, locals := 0 } : Room) D cI cB [.ref va, .ref vb] [(va, .inl (cB, k, .inl f)), (vb, .inl (cB, k, .inl g))] zT (fun _ => some (.int 1)) (fun _ => True) (fun _ => [(va, .inl (cB, k, .inl f)), (vb, .inl (cB, k, .inl g))]) 0 0 := by
  refine bodyJ (by decide +kernel) (Nat.le_of_ble_eq_true rfl) (fun p e s m args below meth c ls A ZZ => ?_)
  obtain ⟨FX, hr, hlk, hK, hP, hD, hS, hA, hz, hnm, hl⟩ := ZZ
  have hl : lv_has ls 3 [(0, .ref va), (1, .ref vb)] := hl
  have hP : va_P D KL [(va, .inl (cB, k, .inl f)), (vb, .inl (cB, k, .inl g))] s.heap := hP
  refine lv_aload_n FX.1 FX.2.1 dJ1_equals_b5fdf_0 rfl (lv_at hl 0 rfl) ?_
  refine va_alen FX.1 FX.2.1 hK hP 0 1 rfl rfl (v := nI k) (by rfl) dJ1_equals_b5fdf_1 ?_
  refine lv_aload_n FX.1 FX.2.1 dJ1_equals_b5fdf_2 rfl (lv_at hl 1 rfl) ?_
  refine va_alen FX.1 FX.2.1 hK hP 1 1 rfl rfl (v := nI k) (by rfl) dJ1_equals_b5fdf_3 ?_
  refine lv_icmp_ne (tgt := 34) FX.1 FX.2.1 dJ1_equals_b5fdf_4 (by decide) (fun c_1 => ?_) (fun c_1 => ?_)
  · exact absurd rfl c_1
  · refine lv_iconst (v := 0) FX.1 FX.2.1 dJ1_equals_b5fdf_7 (by decide) ?_
    refine lv_istore_n (lv' := [(2, .int 0), (0, .ref va), (1, .ref vb)]) FX.1 FX.2.1 dJ1_equals_b5fdf_8 rfl hl (by decide) rfl (fun ls hl => ?_)
    refine lv_iload_n FX.1 FX.2.1 dJ1_equals_b5fdf_9 rfl (lv_at hl 0 rfl) ?_
    refine lv_aload_n FX.1 FX.2.1 dJ1_equals_b5fdf_10 rfl (lv_at hl 1 rfl) ?_
    refine va_alen FX.1 FX.2.1 hK hP 0 1 rfl rfl (v := nI k) (by rfl) dJ1_equals_b5fdf_11 ?_
    refine lv_icmp_ge (tgt := 32) FX.1 FX.2.1 dJ1_equals_b5fdf_12 (by decide) (fun c_2 => ?_) (fun c_2 => ?_)
    · refine lv_iconst (v := 1) FX.1 FX.2.1 dJ1_equals_b5fdf_32 (by decide) ?_
      exact retJi () FX hr hlk dJ1_equals_b5fdf_33 rfl hP hK hD hS (by decide) (by decide) rfl trivial
    · refine lv_aload_n FX.1 FX.2.1 dJ1_equals_b5fdf_15 rfl (lv_at hl 1 rfl) ?_
      refine lv_iload_n FX.1 FX.2.1 dJ1_equals_b5fdf_16 rfl (lv_at hl 0 rfl) ?_
      refine p_bald (v := f 0) FX hK hP 0 rfl (in_k (i := 0) hk c_2 (by decide)) dJ1_equals_b5fdf_17 rfl ?_
      refine lv_aload_n FX.1 FX.2.1 dJ1_equals_b5fdf_18 rfl (lv_at hl 2 rfl) ?_
      refine lv_iload_n FX.1 FX.2.1 dJ1_equals_b5fdf_19 rfl (lv_at hl 0 rfl) ?_
      refine p_bald (v := g 0) FX hK hP 1 rfl (in_k (i := 0) hk c_2 (by decide)) dJ1_equals_b5fdf_20 rfl ?_
      refine lv_icmp_eq (tgt := 26) FX.1 FX.2.1 dJ1_equals_b5fdf_21 (by decide) (fun c_3 => ?_) (fun c_3 => ?_)
      · refine lv_iinc (v := 1) (lv' := [(2, .int 1), (0, .ref va), (1, .ref vb)]) FX.1 FX.2.1 dJ1_equals_b5fdf_26 hl (k := 0) rfl (by decide) (by decide) rfl (fun ls hl => ?_)
        refine lv_goto (tgt := 9) FX.1 FX.2.1 dJ1_equals_b5fdf_29 (by decide) ?_
        refine lv_iload_n FX.1 FX.2.1 dJ1_equals_b5fdf_9 rfl (lv_at hl 0 rfl) ?_
        refine lv_aload_n FX.1 FX.2.1 dJ1_equals_b5fdf_10 rfl (lv_at hl 1 rfl) ?_
        refine va_alen FX.1 FX.2.1 hK hP 0 1 rfl rfl (v := nI k) (by rfl) dJ1_equals_b5fdf_11 ?_
        refine lv_icmp_ge (tgt := 32) FX.1 FX.2.1 dJ1_equals_b5fdf_12 (by decide) (fun c_4 => ?_) (fun c_4 => ?_)
        · refine lv_iconst (v := 1) FX.1 FX.2.1 dJ1_equals_b5fdf_32 (by decide) ?_
          exact retJi () FX hr hlk dJ1_equals_b5fdf_33 rfl hP hK hD hS (by decide) (by decide) rfl trivial
        · refine lv_aload_n FX.1 FX.2.1 dJ1_equals_b5fdf_15 rfl (lv_at hl 1 rfl) ?_
          refine lv_iload_n FX.1 FX.2.1 dJ1_equals_b5fdf_16 rfl (lv_at hl 0 rfl) ?_
          refine p_bald (v := f 1) FX hK hP 0 rfl (in_k (i := 1) hk c_4 (by decide)) dJ1_equals_b5fdf_17 rfl ?_
          refine lv_aload_n FX.1 FX.2.1 dJ1_equals_b5fdf_18 rfl (lv_at hl 2 rfl) ?_
          refine lv_iload_n FX.1 FX.2.1 dJ1_equals_b5fdf_19 rfl (lv_at hl 0 rfl) ?_
          refine p_bald (v := g 1) FX hK hP 1 rfl (in_k (i := 1) hk c_4 (by decide)) dJ1_equals_b5fdf_20 rfl ?_
          refine lv_icmp_eq (tgt := 26) FX.1 FX.2.1 dJ1_equals_b5fdf_21 (by decide) (fun c_5 => ?_) (fun c_5 => ?_)
          · refine lv_iinc (v := 2) (lv' := [(2, .int 2), (0, .ref va), (1, .ref vb)]) FX.1 FX.2.1 dJ1_equals_b5fdf_26 hl (k := 0) rfl (by decide) (by decide) rfl (fun ls hl => ?_)
            refine lv_goto (tgt := 9) FX.1 FX.2.1 dJ1_equals_b5fdf_29 (by decide) ?_
            refine lv_iload_n FX.1 FX.2.1 dJ1_equals_b5fdf_9 rfl (lv_at hl 0 rfl) ?_
            refine lv_aload_n FX.1 FX.2.1 dJ1_equals_b5fdf_10 rfl (lv_at hl 1 rfl) ?_
            refine va_alen FX.1 FX.2.1 hK hP 0 1 rfl rfl (v := nI k) (by rfl) dJ1_equals_b5fdf_11 ?_
            refine lv_icmp_ge (tgt := 32) FX.1 FX.2.1 dJ1_equals_b5fdf_12 (by decide) (fun c_6 => ?_) (fun c_6 => ?_)
            · refine lv_iconst (v := 1) FX.1 FX.2.1 dJ1_equals_b5fdf_32 (by decide) ?_
              exact retJi () FX hr hlk dJ1_equals_b5fdf_33 rfl hP hK hD hS (by decide) (by decide) rfl trivial
            · refine lv_aload_n FX.1 FX.2.1 dJ1_equals_b5fdf_15 rfl (lv_at hl 1 rfl) ?_
              refine lv_iload_n FX.1 FX.2.1 dJ1_equals_b5fdf_16 rfl (lv_at hl 0 rfl) ?_
              refine p_bald (v := f 2) FX hK hP 0 rfl (in_k (i := 2) hk c_6 (by decide)) dJ1_equals_b5fdf_17 rfl ?_
              refine lv_aload_n FX.1 FX.2.1 dJ1_equals_b5fdf_18 rfl (lv_at hl 2 rfl) ?_
              refine lv_iload_n FX.1 FX.2.1 dJ1_equals_b5fdf_19 rfl (lv_at hl 0 rfl) ?_
              refine p_bald (v := g 2) FX hK hP 1 rfl (in_k (i := 2) hk c_6 (by decide)) dJ1_equals_b5fdf_20 rfl ?_
              refine lv_icmp_eq (tgt := 26) FX.1 FX.2.1 dJ1_equals_b5fdf_21 (by decide) (fun c_7 => ?_) (fun c_7 => ?_)
              · refine lv_iinc (v := 3) (lv' := [(2, .int 3), (0, .ref va), (1, .ref vb)]) FX.1 FX.2.1 dJ1_equals_b5fdf_26 hl (k := 0) rfl (by decide) (by decide) rfl (fun ls hl => ?_)
                refine lv_goto (tgt := 9) FX.1 FX.2.1 dJ1_equals_b5fdf_29 (by decide) ?_
                refine lv_iload_n FX.1 FX.2.1 dJ1_equals_b5fdf_9 rfl (lv_at hl 0 rfl) ?_
                refine lv_aload_n FX.1 FX.2.1 dJ1_equals_b5fdf_10 rfl (lv_at hl 1 rfl) ?_
                refine va_alen FX.1 FX.2.1 hK hP 0 1 rfl rfl (v := nI k) (by rfl) dJ1_equals_b5fdf_11 ?_
                refine lv_icmp_ge (tgt := 32) FX.1 FX.2.1 dJ1_equals_b5fdf_12 (by decide) (fun c_8 => ?_) (fun c_8 => ?_)
                · refine lv_iconst (v := 1) FX.1 FX.2.1 dJ1_equals_b5fdf_32 (by decide) ?_
                  exact retJi () FX hr hlk dJ1_equals_b5fdf_33 rfl hP hK hD hS (by decide) (by decide) rfl trivial
                · refine lv_aload_n FX.1 FX.2.1 dJ1_equals_b5fdf_15 rfl (lv_at hl 1 rfl) ?_
                  refine lv_iload_n FX.1 FX.2.1 dJ1_equals_b5fdf_16 rfl (lv_at hl 0 rfl) ?_
                  refine p_bald (v := f 3) FX hK hP 0 rfl (in_k (i := 3) hk c_8 (by decide)) dJ1_equals_b5fdf_17 rfl ?_
                  refine lv_aload_n FX.1 FX.2.1 dJ1_equals_b5fdf_18 rfl (lv_at hl 2 rfl) ?_
                  refine lv_iload_n FX.1 FX.2.1 dJ1_equals_b5fdf_19 rfl (lv_at hl 0 rfl) ?_
                  refine p_bald (v := g 3) FX hK hP 1 rfl (in_k (i := 3) hk c_8 (by decide)) dJ1_equals_b5fdf_20 rfl ?_
                  refine lv_icmp_eq (tgt := 26) FX.1 FX.2.1 dJ1_equals_b5fdf_21 (by decide) (fun c_9 => ?_) (fun c_9 => ?_)
                  · refine lv_iinc (v := 4) (lv' := [(2, .int 4), (0, .ref va), (1, .ref vb)]) FX.1 FX.2.1 dJ1_equals_b5fdf_26 hl (k := 0) rfl (by decide) (by decide) rfl (fun ls hl => ?_)
                    refine lv_goto (tgt := 9) FX.1 FX.2.1 dJ1_equals_b5fdf_29 (by decide) ?_
                    refine lv_iload_n FX.1 FX.2.1 dJ1_equals_b5fdf_9 rfl (lv_at hl 0 rfl) ?_
                    refine lv_aload_n FX.1 FX.2.1 dJ1_equals_b5fdf_10 rfl (lv_at hl 1 rfl) ?_
                    refine va_alen FX.1 FX.2.1 hK hP 0 1 rfl rfl (v := nI k) (by rfl) dJ1_equals_b5fdf_11 ?_
                    refine lv_icmp_ge (tgt := 32) FX.1 FX.2.1 dJ1_equals_b5fdf_12 (by decide) (fun c_10 => ?_) (fun c_10 => ?_)
                    · refine lv_iconst (v := 1) FX.1 FX.2.1 dJ1_equals_b5fdf_32 (by decide) ?_
                      exact retJi () FX hr hlk dJ1_equals_b5fdf_33 rfl hP hK hD hS (by decide) (by decide) rfl trivial
                    · exact absurd (nk4 hk) c_10
                  · exact absurd (he 3 (lt_k (i := 3) hk c_8 (by decide))) c_9
              · exact absurd (he 2 (lt_k (i := 2) hk c_6 (by decide))) c_7
          · exact absurd (he 1 (lt_k (i := 1) hk c_4 (by decide))) c_5
      · exact absurd (he 0 (lt_k (i := 0) hk c_2 (by decide))) c_3
set_option maxRecDepth 100000 in
set_option maxHeartbeats 4000000 in
theorem j_J1_equals_B (l : Launch) (D : va_G) (cI cB : ClassId) (va sa vb k : Nat) (f g : Nat → Int32) (hk : k ≤ 4) (he : TL k f g) : JW (S := Unit) l yJ1_equals_b5fdf cJ1_equals_b5fdf 3 (some .boolean) ({ frames := 0, cells := 0, slots := 0, locals := 0 } : Room) D cI cB [.ref va, .ref vb] [(va, .inl (cB, k, .inl f))] (zS sa vb k g) (fun _ => some (.int 1)) (fun _ => True) (fun _ => [(va, .inl (cB, k, .inl f))]) 0 0 := by
  refine bodyJ (by decide +kernel) (Nat.le_of_ble_eq_true rfl) (fun p e s m args below meth c ls A ZZ => ?_)
  obtain ⟨FX, hr, hlk, hK, hP, hD, hS, hA, hz, hnm, hl⟩ := ZZ
  have hl : lv_has ls 3 [(0, .ref va), (1, .ref vb)] := hl
  have hP : va_P D KL [(va, .inl (cB, k, .inl f))] s.heap := hP
  refine lv_aload_n FX.1 FX.2.1 dJ1_equals_b5fdf_0 rfl (lv_at hl 0 rfl) ?_
  refine va_alen FX.1 FX.2.1 hK hP 0 1 rfl rfl (v := nI k) (by rfl) dJ1_equals_b5fdf_1 ?_
  refine lv_aload_n FX.1 FX.2.1 dJ1_equals_b5fdf_2 rfl (lv_at hl 1 rfl) ?_
  refine va_tlen FX.1 FX.2.1 (hz).2.2.2 hS (v := nI k) rfl dJ1_equals_b5fdf_3 ?_
  refine lv_icmp_ne (tgt := 34) FX.1 FX.2.1 dJ1_equals_b5fdf_4 (by decide) (fun c_1 => ?_) (fun c_1 => ?_)
  · exact absurd rfl c_1
  · refine lv_iconst (v := 0) FX.1 FX.2.1 dJ1_equals_b5fdf_7 (by decide) ?_
    refine lv_istore_n (lv' := [(2, .int 0), (0, .ref va), (1, .ref vb)]) FX.1 FX.2.1 dJ1_equals_b5fdf_8 rfl hl (by decide) rfl (fun ls hl => ?_)
    refine lv_iload_n FX.1 FX.2.1 dJ1_equals_b5fdf_9 rfl (lv_at hl 0 rfl) ?_
    refine lv_aload_n FX.1 FX.2.1 dJ1_equals_b5fdf_10 rfl (lv_at hl 1 rfl) ?_
    refine va_alen FX.1 FX.2.1 hK hP 0 1 rfl rfl (v := nI k) (by rfl) dJ1_equals_b5fdf_11 ?_
    refine lv_icmp_ge (tgt := 32) FX.1 FX.2.1 dJ1_equals_b5fdf_12 (by decide) (fun c_2 => ?_) (fun c_2 => ?_)
    · refine lv_iconst (v := 1) FX.1 FX.2.1 dJ1_equals_b5fdf_32 (by decide) ?_
      exact retJi () FX hr hlk dJ1_equals_b5fdf_33 rfl hP hK hD hS (by decide) (by decide) rfl trivial
    · refine lv_aload_n FX.1 FX.2.1 dJ1_equals_b5fdf_15 rfl (lv_at hl 1 rfl) ?_
      refine lv_iload_n FX.1 FX.2.1 dJ1_equals_b5fdf_16 rfl (lv_at hl 0 rfl) ?_
      refine p_bald (v := f 0) FX hK hP 0 rfl (in_k (i := 0) hk c_2 (by decide)) dJ1_equals_b5fdf_17 rfl ?_
      refine lv_aload_n FX.1 FX.2.1 dJ1_equals_b5fdf_18 rfl (lv_at hl 2 rfl) ?_
      refine lv_iload_n FX.1 FX.2.1 dJ1_equals_b5fdf_19 rfl (lv_at hl 0 rfl) ?_
      refine va_tb FX.1 FX.2.1 (hz).2.2.2 hS (in_k (i := 0) hk c_2 (by decide)) (v := .int (g 0)) rfl dJ1_equals_b5fdf_20 ?_
      refine lv_icmp_eq (tgt := 26) FX.1 FX.2.1 dJ1_equals_b5fdf_21 (by decide) (fun c_3 => ?_) (fun c_3 => ?_)
      · refine lv_iinc (v := 1) (lv' := [(2, .int 1), (0, .ref va), (1, .ref vb)]) FX.1 FX.2.1 dJ1_equals_b5fdf_26 hl (k := 0) rfl (by decide) (by decide) rfl (fun ls hl => ?_)
        refine lv_goto (tgt := 9) FX.1 FX.2.1 dJ1_equals_b5fdf_29 (by decide) ?_
        refine lv_iload_n FX.1 FX.2.1 dJ1_equals_b5fdf_9 rfl (lv_at hl 0 rfl) ?_
        refine lv_aload_n FX.1 FX.2.1 dJ1_equals_b5fdf_10 rfl (lv_at hl 1 rfl) ?_
        refine va_alen FX.1 FX.2.1 hK hP 0 1 rfl rfl (v := nI k) (by rfl) dJ1_equals_b5fdf_11 ?_
        refine lv_icmp_ge (tgt := 32) FX.1 FX.2.1 dJ1_equals_b5fdf_12 (by decide) (fun c_4 => ?_) (fun c_4 => ?_)
        · refine lv_iconst (v := 1) FX.1 FX.2.1 dJ1_equals_b5fdf_32 (by decide) ?_
          exact retJi () FX hr hlk dJ1_equals_b5fdf_33 rfl hP hK hD hS (by decide) (by decide) rfl trivial
        · refine lv_aload_n FX.1 FX.2.1 dJ1_equals_b5fdf_15 rfl (lv_at hl 1 rfl) ?_
          refine lv_iload_n FX.1 FX.2.1 dJ1_equals_b5fdf_16 rfl (lv_at hl 0 rfl) ?_
          refine p_bald (v := f 1) FX hK hP 0 rfl (in_k (i := 1) hk c_4 (by decide)) dJ1_equals_b5fdf_17 rfl ?_
          refine lv_aload_n FX.1 FX.2.1 dJ1_equals_b5fdf_18 rfl (lv_at hl 2 rfl) ?_
          refine lv_iload_n FX.1 FX.2.1 dJ1_equals_b5fdf_19 rfl (lv_at hl 0 rfl) ?_
          refine va_tb FX.1 FX.2.1 (hz).2.2.2 hS (in_k (i := 1) hk c_4 (by decide)) (v := .int (g 1)) rfl dJ1_equals_b5fdf_20 ?_
          refine lv_icmp_eq (tgt := 26) FX.1 FX.2.1 dJ1_equals_b5fdf_21 (by decide) (fun c_5 => ?_) (fun c_5 => ?_)
          · refine lv_iinc (v := 2) (lv' := [(2, .int 2), (0, .ref va), (1, .ref vb)]) FX.1 FX.2.1 dJ1_equals_b5fdf_26 hl (k := 0) rfl (by decide) (by decide) rfl (fun ls hl => ?_)
            refine lv_goto (tgt := 9) FX.1 FX.2.1 dJ1_equals_b5fdf_29 (by decide) ?_
            refine lv_iload_n FX.1 FX.2.1 dJ1_equals_b5fdf_9 rfl (lv_at hl 0 rfl) ?_
            refine lv_aload_n FX.1 FX.2.1 dJ1_equals_b5fdf_10 rfl (lv_at hl 1 rfl) ?_
            refine va_alen FX.1 FX.2.1 hK hP 0 1 rfl rfl (v := nI k) (by rfl) dJ1_equals_b5fdf_11 ?_
            refine lv_icmp_ge (tgt := 32) FX.1 FX.2.1 dJ1_equals_b5fdf_12 (by decide) (fun c_6 => ?_) (fun c_6 => ?_)
            · refine lv_iconst (v := 1) FX.1 FX.2.1 dJ1_equals_b5fdf_32 (by decide) ?_
              exact retJi () FX hr hlk dJ1_equals_b5fdf_33 rfl hP hK hD hS (by decide) (by decide) rfl trivial
            · refine lv_aload_n FX.1 FX.2.1 dJ1_equals_b5fdf_15 rfl (lv_at hl 1 rfl) ?_
              refine lv_iload_n FX.1 FX.2.1 dJ1_equals_b5fdf_16 rfl (lv_at hl 0 rfl) ?_
              refine p_bald (v := f 2) FX hK hP 0 rfl (in_k (i := 2) hk c_6 (by decide)) dJ1_equals_b5fdf_17 rfl ?_
              refine lv_aload_n FX.1 FX.2.1 dJ1_equals_b5fdf_18 rfl (lv_at hl 2 rfl) ?_
              refine lv_iload_n FX.1 FX.2.1 dJ1_equals_b5fdf_19 rfl (lv_at hl 0 rfl) ?_
              refine va_tb FX.1 FX.2.1 (hz).2.2.2 hS (in_k (i := 2) hk c_6 (by decide)) (v := .int (g 2)) rfl dJ1_equals_b5fdf_20 ?_
              refine lv_icmp_eq (tgt := 26) FX.1 FX.2.1 dJ1_equals_b5fdf_21 (by decide) (fun c_7 => ?_) (fun c_7 => ?_)
              · refine lv_iinc (v := 3) (lv' := [(2, .int 3), (0, .ref va), (1, .ref vb)]) FX.1 FX.2.1 dJ1_equals_b5fdf_26 hl (k := 0) rfl (by decide) (by decide) rfl (fun ls hl => ?_)
                refine lv_goto (tgt := 9) FX.1 FX.2.1 dJ1_equals_b5fdf_29 (by decide) ?_
                refine lv_iload_n FX.1 FX.2.1 dJ1_equals_b5fdf_9 rfl (lv_at hl 0 rfl) ?_
                refine lv_aload_n FX.1 FX.2.1 dJ1_equals_b5fdf_10 rfl (lv_at hl 1 rfl) ?_
                refine va_alen FX.1 FX.2.1 hK hP 0 1 rfl rfl (v := nI k) (by rfl) dJ1_equals_b5fdf_11 ?_
                refine lv_icmp_ge (tgt := 32) FX.1 FX.2.1 dJ1_equals_b5fdf_12 (by decide) (fun c_8 => ?_) (fun c_8 => ?_)
                · refine lv_iconst (v := 1) FX.1 FX.2.1 dJ1_equals_b5fdf_32 (by decide) ?_
                  exact retJi () FX hr hlk dJ1_equals_b5fdf_33 rfl hP hK hD hS (by decide) (by decide) rfl trivial
                · refine lv_aload_n FX.1 FX.2.1 dJ1_equals_b5fdf_15 rfl (lv_at hl 1 rfl) ?_
                  refine lv_iload_n FX.1 FX.2.1 dJ1_equals_b5fdf_16 rfl (lv_at hl 0 rfl) ?_
                  refine p_bald (v := f 3) FX hK hP 0 rfl (in_k (i := 3) hk c_8 (by decide)) dJ1_equals_b5fdf_17 rfl ?_
                  refine lv_aload_n FX.1 FX.2.1 dJ1_equals_b5fdf_18 rfl (lv_at hl 2 rfl) ?_
                  refine lv_iload_n FX.1 FX.2.1 dJ1_equals_b5fdf_19 rfl (lv_at hl 0 rfl) ?_
                  refine va_tb FX.1 FX.2.1 (hz).2.2.2 hS (in_k (i := 3) hk c_8 (by decide)) (v := .int (g 3)) rfl dJ1_equals_b5fdf_20 ?_
                  refine lv_icmp_eq (tgt := 26) FX.1 FX.2.1 dJ1_equals_b5fdf_21 (by decide) (fun c_9 => ?_) (fun c_9 => ?_)
                  · refine lv_iinc (v := 4) (lv' := [(2, .int 4), (0, .ref va), (1, .ref vb)]) FX.1 FX.2.1 dJ1_equals_b5fdf_26 hl (k := 0) rfl (by decide) (by decide) rfl (fun ls hl => ?_)
                    refine lv_goto (tgt := 9) FX.1 FX.2.1 dJ1_equals_b5fdf_29 (by decide) ?_
                    refine lv_iload_n FX.1 FX.2.1 dJ1_equals_b5fdf_9 rfl (lv_at hl 0 rfl) ?_
                    refine lv_aload_n FX.1 FX.2.1 dJ1_equals_b5fdf_10 rfl (lv_at hl 1 rfl) ?_
                    refine va_alen FX.1 FX.2.1 hK hP 0 1 rfl rfl (v := nI k) (by rfl) dJ1_equals_b5fdf_11 ?_
                    refine lv_icmp_ge (tgt := 32) FX.1 FX.2.1 dJ1_equals_b5fdf_12 (by decide) (fun c_10 => ?_) (fun c_10 => ?_)
                    · refine lv_iconst (v := 1) FX.1 FX.2.1 dJ1_equals_b5fdf_32 (by decide) ?_
                      exact retJi () FX hr hlk dJ1_equals_b5fdf_33 rfl hP hK hD hS (by decide) (by decide) rfl trivial
                    · exact absurd (nk4 hk) c_10
                  · exact absurd (he 3 (lt_k (i := 3) hk c_8 (by decide))) c_9
              · exact absurd (he 2 (lt_k (i := 2) hk c_6 (by decide))) c_7
          · exact absurd (he 1 (lt_k (i := 1) hk c_4 (by decide))) c_5
      · exact absurd (he 0 (lt_k (i := 0) hk c_2 (by decide))) c_3
set_option maxRecDepth 100000 in
set_option maxHeartbeats 4000000 in
theorem j_J0_equals_A (l : Launch) (D : va_G) (cI cB : ClassId) (sx va sy vb k : Nat) (f g : Nat → Int32) (hk : k ≤ 4) (he : TL k f g) : JW (S := Unit) l yJ0_equals_9ea2d cJ0_equals_9ea2d 3 (some .boolean) ({ frames := 1, cells := 0, slots := 0, locals := 22 } : Room) D cI cB [.ref sx, .ref sy] [(sx, .inr (0, [.ref va, .int 0, .int 0, .int 0])), (va, .inl (cB, k, .inl f)), (sy, .inr (0, [.ref vb, .int 0, .int 0, .int 0])), (vb, .inl (cB, k, .inl g))] zC (fun _ => some (.int 1)) (fun _ => True) (fun _ => [(sx, .inr (0, [.ref va, .int 0, .int 0, .int 0])), (va, .inl (cB, k, .inl f)), (sy, .inr (0, [.ref vb, .int 0, .int 0, .int 0])), (vb, .inl (cB, k, .inl g))]) 0 0 := by
  refine bodyJ (by decide +kernel) (Nat.le_of_ble_eq_true rfl) (fun p e s m args below meth c ls A ZZ => ?_)
  obtain ⟨FX, hr, hlk, hK, hP, hD, hS, hA, hz, hnm, hl⟩ := ZZ
  have hl : lv_has ls 3 [(0, .ref sx), (1, .ref sy)] := hl
  have hP : va_P D KL [(sx, .inr (0, [.ref va, .int 0, .int 0, .int 0])), (va, .inl (cB, k, .inl f)), (sy, .inr (0, [.ref vb, .int 0, .int 0, .int 0])), (vb, .inl (cB, k, .inl g))] s.heap := hP
  refine lv_aload_n FX.1 FX.2.1 dJ0_equals_9ea2d_0 rfl (lv_at hl 0 rfl) ?_
  refine lv_aload_n FX.1 FX.2.1 dJ0_equals_9ea2d_1 rfl (lv_at hl 1 rfl) ?_
  refine lv_acmp_ne (rx := some sx) (ry := some sy) (tgt := 7) FX.1 FX.2.1 dJ0_equals_9ea2d_2 (by decide) (fun c_1 => ?_) (fun c_1 => ?_)
  · refine lv_aload_n FX.1 FX.2.1 dJ0_equals_9ea2d_7 rfl (lv_at hl 1 rfl) ?_
    refine va_instE FX.1 FX.2.1 FX.2.2.2.1 (FX.2.2.2.2 _ cl_RJ0_10) (my_recv (i0 := 2) (ci := 0) hK hP rfl rfl rfl) dJ0_equals_9ea2d_8 ?_
    refine lv_if_eq (tgt := 54) FX.1 FX.2.1 dJ0_equals_9ea2d_11 (by decide) (fun c_2 => ?_) (fun c_2 => ?_)
    · exact absurd c_2 (by decide)
    · refine lv_aload_n FX.1 FX.2.1 dJ0_equals_9ea2d_14 rfl (lv_at hl 1 rfl) ?_
      refine va_castE FX.1 FX.2.1 FX.2.2.2.1 (FX.2.2.2.2 _ cl_RJ0_10) (my_recv (i0 := 2) (ci := 0) hK hP rfl rfl rfl) dJ0_equals_9ea2d_15 ?_
      refine lv_astore_n (lv' := [(2, .ref sy), (0, .ref sx), (1, .ref sy)]) FX.1 FX.2.1 dJ0_equals_9ea2d_18 rfl hl (by decide) rfl (fun ls hl => ?_)
      refine va_gets FX.1 FX.2.1 hz hS FX.2.2.2.1 (FX.2.2.2.2 _ fl_RJ0_38) (fun _ h9 => h9) dJ0_equals_9ea2d_19 ?_
      refine lv_if_eq (tgt := 36) FX.1 FX.2.1 dJ0_equals_9ea2d_22 (by decide) (fun c_3 => ?_) (fun c_3 => ?_)
      · exact absurd c_3 (by decide)
      · refine lv_aload_n FX.1 FX.2.1 dJ0_equals_9ea2d_25 rfl (lv_at hl 1 rfl) ?_
        refine va_get (D := D) (ci := 0) (v := .int 0) (C := RJ0) (T := TJ0) (N := 4) FX.1 FX.2.1 FX.2.2.2.2 inJ0 FX.2.2.2.1 hK hP 0 rfl rfl 1 (by decide) (FX.2.2.2.2 _ fl_RJ0_15) (fun _ h9 => h9) rfl dJ0_equals_9ea2d_26 ?_
        refine lv_aload_n FX.1 FX.2.1 dJ0_equals_9ea2d_29 rfl (lv_at hl 0 rfl) ?_
        refine va_get (D := D) (ci := 0) (v := .int 0) (C := RJ0) (T := TJ0) (N := 4) FX.1 FX.2.1 FX.2.2.2.2 inJ0 FX.2.2.2.1 hK hP 2 rfl rfl 1 (by decide) (FX.2.2.2.2 _ fl_RJ0_15) (fun _ h9 => h9) rfl dJ0_equals_9ea2d_30 ?_
        refine lv_icmp_ne (tgt := 54) FX.1 FX.2.1 dJ0_equals_9ea2d_33 (by decide) (fun c_4 => ?_) (fun c_4 => ?_)
        · exact absurd c_4 (by decide)
        · refine lv_aload_n FX.1 FX.2.1 dJ0_equals_9ea2d_36 rfl (lv_at hl 1 rfl) ?_
          refine va_get (D := D) (ci := 0) (v := .ref va) (C := RJ0) (T := TJ0) (N := 4) FX.1 FX.2.1 FX.2.2.2.2 inJ0 FX.2.2.2.1 hK hP 0 rfl rfl 0 (by decide) (FX.2.2.2.2 _ fl_RJ0_9) (fun _ h9 => h9) rfl dJ0_equals_9ea2d_37 ?_
          refine lv_aload_n FX.1 FX.2.1 dJ0_equals_9ea2d_40 rfl (lv_at hl 0 rfl) ?_
          refine va_get (D := D) (ci := 0) (v := .ref vb) (C := RJ0) (T := TJ0) (N := 4) FX.1 FX.2.1 FX.2.2.2.2 inJ0 FX.2.2.2.1 hK hP 2 rfl rfl 0 (by decide) (FX.2.2.2.2 _ fl_RJ0_9) (fun _ h9 => h9) rfl dJ0_equals_9ea2d_41 ?_
          refine c_J (W0 := [(va, .inl (cB, k, .inl f)), (vb, .inl (cB, k, .inl g))]) (wr := [(sx, .inr (0, [.ref va, .int 0, .int 0, .int 0])), (sy, .inr (0, [.ref vb, .int 0, .int 0, .int 0]))]) (wsN := fun _ => [(sx, .inr (0, [.ref va, .int 0, .int 0, .int 0])), (va, .inl (cB, k, .inl f)), (sy, .inr (0, [.ref vb, .int 0, .int 0, .int 0])), (vb, .inl (cB, k, .inl g))]) (va_runS FX ((j_J1_equals_A l D cI cB va vb k f g hk he) s.heap.size) (my_cwS FX.2.2.2.2 mi_J1_equals_b5fdf ml_RJ0_541 (RMok.mk)) ⟨PJ.blind zT_ok, fun U hU hW => ⟨rfl, my_preJ zT_ok trivial hS hA hK hP hD [1, 3] rfl rfl U hU hW⟩⟩ rfl rfl hl.1 rfl (lv_room (Nat.le_of_ble_eq_true rfl)) dJ0_equals_9ea2d_44 (by decide)) hP hD hS hA [1, 3] rfl [0, 2] rfl (by decide) [0, 2, 1, 3] (fun _ => rfl) rfl (fun u1 H locs hp_1 hP hD hS => ?_)
          have hP : va_P D KL [(sx, .inr (0, [.ref va, .int 0, .int 0, .int 0])), (va, .inl (cB, k, .inl f)), (sy, .inr (0, [.ref vb, .int 0, .int 0, .int 0])), (vb, .inl (cB, k, .inl g))] H := hP
          have hD : va_D A [(sx, .inr (0, [.ref va, .int 0, .int 0, .int 0])), (va, .inl (cB, k, .inl f)), (sy, .inr (0, [.ref vb, .int 0, .int 0, .int 0])), (vb, .inl (cB, k, .inl g))] := hD
          refine W.eq (g2 := F0 m 47 ls [.int 1]) rfl ?_
          refine lv_if_eq (tgt := 54) FX.1 FX.2.1 dJ0_equals_9ea2d_47 (by decide) (fun c_5 => ?_) (fun c_5 => ?_)
          · exact absurd c_5 (by decide)
          · refine lv_iconst (v := 1) FX.1 FX.2.1 dJ0_equals_9ea2d_50 (by decide) ?_
            refine lv_goto (tgt := 55) FX.1 FX.2.1 dJ0_equals_9ea2d_51 (by decide) ?_
            exact retJi () FX hr hlk dJ0_equals_9ea2d_55 rfl hP hK hD hS (by decide) (by decide) rfl trivial
  · refine lv_iconst (v := 1) FX.1 FX.2.1 dJ0_equals_9ea2d_5 (by decide) ?_
    exact retJi () FX hr hlk dJ0_equals_9ea2d_6 rfl hP hK hD hS (by decide) (by decide) rfl trivial
set_option maxRecDepth 100000 in
set_option maxHeartbeats 4000000 in
theorem j_J0_equals_B (l : Launch) (D : va_G) (cI cB : ClassId) (sx va sa vb k : Nat) (f g : Nat → Int32) (hk : k ≤ 4) (he : TL k f g) : JW (S := Unit) l yJ0_equals_9ea2d cJ0_equals_9ea2d 3 (some .boolean) ({ frames := 1, cells := 0, slots := 0, locals := 22 } : Room) D cI cB [.ref sx, .ref sa] [(sx, .inr (0, [.ref va, .int 0, .int 0, .int 0])), (va, .inl (cB, k, .inl f))] (zAnd zC (zS sa vb k g)) (fun _ => some (.int 1)) (fun _ => True) (fun _ => [(sx, .inr (0, [.ref va, .int 0, .int 0, .int 0])), (va, .inl (cB, k, .inl f))]) 0 0 := by
  refine bodyJ (by decide +kernel) (Nat.le_of_ble_eq_true rfl) (fun p e s m args below meth c ls A ZZ => ?_)
  obtain ⟨FX, hr, hlk, hK, hP, hD, hS, hA, hz, hnm, hl⟩ := ZZ
  have hl : lv_has ls 3 [(0, .ref sx), (1, .ref sa)] := hl
  have hP : va_P D KL [(sx, .inr (0, [.ref va, .int 0, .int 0, .int 0])), (va, .inl (cB, k, .inl f))] s.heap := hP
  refine lv_aload_n FX.1 FX.2.1 dJ0_equals_9ea2d_0 rfl (lv_at hl 0 rfl) ?_
  refine lv_aload_n FX.1 FX.2.1 dJ0_equals_9ea2d_1 rfl (lv_at hl 1 rfl) ?_
  refine lv_acmp_ne (rx := some sx) (ry := some sa) (tgt := 7) FX.1 FX.2.1 dJ0_equals_9ea2d_2 (by decide) (fun c_1 => ?_) (fun c_1 => ?_)
  · refine lv_aload_n FX.1 FX.2.1 dJ0_equals_9ea2d_7 rfl (lv_at hl 1 rfl) ?_
    refine va_instE FX.1 FX.2.1 FX.2.2.2.1 (FX.2.2.2.2 _ cl_RJ0_10) (zS_recv hz.2 hS) dJ0_equals_9ea2d_8 ?_
    refine lv_if_eq (tgt := 54) FX.1 FX.2.1 dJ0_equals_9ea2d_11 (by decide) (fun c_2 => ?_) (fun c_2 => ?_)
    · exact absurd c_2 (by decide)
    · refine lv_aload_n FX.1 FX.2.1 dJ0_equals_9ea2d_14 rfl (lv_at hl 1 rfl) ?_
      refine va_castE FX.1 FX.2.1 FX.2.2.2.1 (FX.2.2.2.2 _ cl_RJ0_10) (zS_recv hz.2 hS) dJ0_equals_9ea2d_15 ?_
      refine lv_astore_n (lv' := [(2, .ref sa), (0, .ref sx), (1, .ref sa)]) FX.1 FX.2.1 dJ0_equals_9ea2d_18 rfl hl (by decide) rfl (fun ls hl => ?_)
      refine va_gets FX.1 FX.2.1 hz.1 hS FX.2.2.2.1 (FX.2.2.2.2 _ fl_RJ0_38) (fun _ h9 => h9) dJ0_equals_9ea2d_19 ?_
      refine lv_if_eq (tgt := 36) FX.1 FX.2.1 dJ0_equals_9ea2d_22 (by decide) (fun c_3 => ?_) (fun c_3 => ?_)
      · exact absurd c_3 (by decide)
      · refine lv_aload_n FX.1 FX.2.1 dJ0_equals_9ea2d_25 rfl (lv_at hl 1 rfl) ?_
        refine va_get (D := D) (ci := 0) (v := .int 0) (C := RJ0) (T := TJ0) (N := 4) FX.1 FX.2.1 FX.2.2.2.2 inJ0 FX.2.2.2.1 hK hP 0 rfl rfl 1 (by decide) (FX.2.2.2.2 _ fl_RJ0_15) (fun _ h9 => h9) rfl dJ0_equals_9ea2d_26 ?_
        refine lv_aload_n FX.1 FX.2.1 dJ0_equals_9ea2d_29 rfl (lv_at hl 0 rfl) ?_
        refine vk_getf FX.1 FX.2.1 (hz.2).2.1 hS FX.2.2.2.1 (FX.2.2.2.2 _ fl_RJ0_15) (fun _ h9 => h9) dJ0_equals_9ea2d_30 ?_
        refine lv_icmp_ne (tgt := 54) FX.1 FX.2.1 dJ0_equals_9ea2d_33 (by decide) (fun c_4 => ?_) (fun c_4 => ?_)
        · exact absurd c_4 (by decide)
        · refine lv_aload_n FX.1 FX.2.1 dJ0_equals_9ea2d_36 rfl (lv_at hl 1 rfl) ?_
          refine va_get (D := D) (ci := 0) (v := .ref va) (C := RJ0) (T := TJ0) (N := 4) FX.1 FX.2.1 FX.2.2.2.2 inJ0 FX.2.2.2.1 hK hP 0 rfl rfl 0 (by decide) (FX.2.2.2.2 _ fl_RJ0_9) (fun _ h9 => h9) rfl dJ0_equals_9ea2d_37 ?_
          refine lv_aload_n FX.1 FX.2.1 dJ0_equals_9ea2d_40 rfl (lv_at hl 0 rfl) ?_
          refine vk_getf FX.1 FX.2.1 (hz.2).2.2.1 hS FX.2.2.2.1 (FX.2.2.2.2 _ fl_RJ0_9) (fun _ h9 => h9) dJ0_equals_9ea2d_41 ?_
          refine c_J (W0 := [(va, .inl (cB, k, .inl f))]) (wr := [(sx, .inr (0, [.ref va, .int 0, .int 0, .int 0]))]) (wsN := fun _ => [(sx, .inr (0, [.ref va, .int 0, .int 0, .int 0])), (va, .inl (cB, k, .inl f))]) (va_runS FX ((j_J1_equals_B l D cI cB va sa vb k f g hk he) s.heap.size) (my_cwS FX.2.2.2.2 mi_J1_equals_b5fdf ml_RJ0_541 (RMok.mk)) ⟨PJ.blind zS_ok, fun U hU hW => ⟨rfl, my_preJ zS_ok hz.2 hS hA hK hP hD [1] rfl rfl U hU hW⟩⟩ rfl rfl hl.1 rfl (lv_room (Nat.le_of_ble_eq_true rfl)) dJ0_equals_9ea2d_44 (by decide)) hP hD hS hA [1] rfl [0] rfl (by decide) [0, 1] (fun _ => rfl) rfl (fun u1 H locs hp_1 hP hD hS => ?_)
          have hP : va_P D KL [(sx, .inr (0, [.ref va, .int 0, .int 0, .int 0])), (va, .inl (cB, k, .inl f))] H := hP
          have hD : va_D A [(sx, .inr (0, [.ref va, .int 0, .int 0, .int 0])), (va, .inl (cB, k, .inl f))] := hD
          refine W.eq (g2 := F0 m 47 ls [.int 1]) rfl ?_
          refine lv_if_eq (tgt := 54) FX.1 FX.2.1 dJ0_equals_9ea2d_47 (by decide) (fun c_5 => ?_) (fun c_5 => ?_)
          · exact absurd c_5 (by decide)
          · refine lv_iconst (v := 1) FX.1 FX.2.1 dJ0_equals_9ea2d_50 (by decide) ?_
            refine lv_goto (tgt := 55) FX.1 FX.2.1 dJ0_equals_9ea2d_51 (by decide) ?_
            exact retJi () FX hr hlk dJ0_equals_9ea2d_55 rfl hP hK hD hS (by decide) (by decide) rfl trivial
  · refine lv_iconst (v := 1) FX.1 FX.2.1 dJ0_equals_9ea2d_5 (by decide) ?_
    exact retJi () FX hr hlk dJ0_equals_9ea2d_6 rfl hP hK hD hS (by decide) (by decide) rfl trivial

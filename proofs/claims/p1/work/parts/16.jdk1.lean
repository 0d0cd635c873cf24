set_option maxRecDepth 20000 in
theorem fl_RJ5_79 : Cond.fieldLink RJ5 79 "java/lang/AbstractStringBuilder" "count" "I" ∈ bigW := bt1 53 rfl rfl
set_option maxRecDepth 20000 in
theorem fl_RJ5_18 : Cond.fieldLink RJ5 18 "java/lang/String" "COMPACT_STRINGS" "Z" ∈ bigW := bt1 40 rfl rfl
set_option maxRecDepth 20000 in
theorem fl_RJ5_22 : Cond.fieldLink RJ5 22 "java/lang/AbstractStringBuilder" "coder" "B" ∈ bigW := bt1 50 rfl rfl
set_option maxRecDepth 20000 in
theorem fl_RJ5_15 : Cond.fieldLink RJ5 15 "java/lang/AbstractStringBuilder" "value" "[B" ∈ bigW := bt1 49 rfl rfl
set_option maxRecDepth 20000 in
theorem ml_RJ4_343 : Cond.methodLink RJ4 343 yJ5_length_8abf5 ∈ bigW := bt3 20 rfl rfl
set_option maxRecDepth 20000 in
theorem mp_J5_length_8abf5 : MIp RJ4 yJ5_length_8abf5 cJ5_length_8abf5 1 (some .int) 0 := ⟨bt3 21 rfl rfl, bt1 2 rfl rfl, bt3 16 rfl rfl, bt1 62 rfl rfl, bt3 15 rfl rfl, by decide, by decide +kernel⟩
set_option maxRecDepth 20000 in
theorem ml_RJ5_100 : Cond.methodLink RJ5 100 yJ5_ensureCapacityInternal_d00df ∈ bigW := bt2 102 rfl rfl
set_option maxRecDepth 20000 in
theorem mu_J5_ensureCapacityInternal_d00df : MIu RJ4 "java/lang/AbstractStringBuilder" ⟨"java/lang/AbstractStringBuilder", "ensureCapacityInternal", "(I)V"⟩ yJ5_ensureCapacityInternal_d00df cJ5_ensureCapacityInternal_d00df 3 none 1 := ⟨bt2 105 rfl rfl, bt1 2 rfl rfl, bt6 22 rfl rfl, bt9 0 rfl rfl, bt2 104 rfl rfl, rfl, by decide, by decide, by decide +kernel⟩
set_option maxRecDepth 20000 in
theorem fl_RJ5_73 : Cond.fieldLink RJ5 73 "java/lang/AbstractStringBuilder" "maybeLatin1" "Z" ∈ bigW := bt1 51 rfl rfl
set_option maxRecDepth 20000 in
theorem ml_RJ4_333 : Cond.methodLink RJ4 333 yJ5_setLength_d00df ∈ bigW := bt2 80 rfl rfl
set_option maxRecDepth 20000 in
theorem mp_J5_setLength_d00df : MIp RJ4 yJ5_setLength_d00df cJ5_setLength_d00df 2 none 1 := ⟨bt2 82 rfl rfl, bt1 2 rfl rfl, bt6 19 rfl rfl, bt1 62 rfl rfl, bt2 81 rfl rfl, by decide, by decide +kernel⟩
set_option maxRecDepth 20000 in
theorem fl_RJ0_38 : Cond.fieldLink RJ0 38 "java/lang/String" "COMPACT_STRINGS" "Z" ∈ bigW := bt2 176 rfl rfl
set_option maxRecDepth 20000 in
theorem fl_RJ0_15 : Cond.fieldLink RJ0 15 "java/lang/String" "coder" "B" ∈ bigW := bt3 54 rfl rfl
set_option maxRecDepth 20000 in
theorem fl_RJ0_9 : Cond.fieldLink RJ0 9 "java/lang/String" "value" "[B" ∈ bigW := bt3 53 rfl rfl
set_option maxRecDepth 20000 in
theorem ml_RJ0_335 : Cond.methodLink RJ0 335 yJ0_coder_7d493 ∈ bigW := bt2 172 rfl rfl
set_option maxRecDepth 20000 in
theorem mi_J0_coder_7d493 : MIv RJ0 yJ0_coder_7d493 cJ0_coder_7d493 1 (some .byte) 0 := ⟨⟨bt2 175 rfl rfl, bt1 4 rfl rfl, by decide, by decide, by decide +kernel⟩, bt2 173 rfl rfl, bt2 174 rfl rfl⟩
set_option maxRecDepth 20000 in
theorem ml_RJ5_40 : Cond.methodLink RJ5 40 yJ0_coder_7d493 ∈ bigW := bt2 185 rfl rfl
set_option maxRecDepth 20000 in
theorem ml_RJ0_212 : Cond.methodLink RJ0 212 arraycopyName ∈ bigW := bt2 209 rfl rfl
set_option maxRecDepth 20000 in
theorem acp_s : Cond.static arraycopyName ∈ bigW := bt2 135 rfl rfl
set_option maxRecDepth 20000 in
theorem acp_n : Cond.native arraycopyName ∈ bigW := bt2 136 rfl rfl
set_option maxRecDepth 20000 in
theorem acp_i : Cond.initialized "java/lang/System" ∈ bigW := bt1 18 rfl rfl
set_option maxRecDepth 20000 in
theorem ml_RJ5_397 : Cond.methodLink RJ5 397 yJ5_inflateIfNeededFor_a7421 ∈ bigW := bt2 181 rfl rfl
set_option maxRecDepth 20000 in
theorem mu_J5_inflateIfNeededFor_a7421 : MIu RJ4 "java/lang/AbstractStringBuilder" ⟨"java/lang/AbstractStringBuilder", "inflateIfNeededFor", "(Ljava/lang/String;)V"⟩ yJ5_inflateIfNeededFor_a7421 cJ5_inflateIfNeededFor_a7421 2 none 1 := ⟨bt2 184 rfl rfl, bt1 2 rfl rfl, bt6 25 rfl rfl, bt9 2 rfl rfl, bt2 183 rfl rfl, rfl, by decide, by decide, by decide +kernel⟩
set_option maxRecDepth 20000 in
theorem ml_RJ5_399 : Cond.methodLink RJ5 399 yJ0_getBytes_840e7 ∈ bigW := bt2 205 rfl rfl
set_option maxRecDepth 20000 in
theorem mi_J0_getBytes_840e7 : MIv RJ0 yJ0_getBytes_840e7 cJ0_getBytes_840e7 4 none 3 := ⟨⟨bt2 208 rfl rfl, bt1 4 rfl rfl, by decide, by decide, by decide +kernel⟩, bt2 206 rfl rfl, bt2 207 rfl rfl⟩
set_option maxRecDepth 20000 in
theorem ml_RJ5_32 : Cond.methodLink RJ5 32 yJ0_length_8abf5 ∈ bigW := bt2 168 rfl rfl
set_option maxRecDepth 20000 in
theorem mi_J0_length_8abf5 : MIv RJ0 yJ0_length_8abf5 cJ0_length_8abf5 1 (some .int) 0 := ⟨⟨bt2 171 rfl rfl, bt1 4 rfl rfl, by decide, by decide, by decide +kernel⟩, bt2 169 rfl rfl, bt2 170 rfl rfl⟩
set_option maxRecDepth 20000 in
theorem ml_RJ5_208 : Cond.methodLink RJ5 208 yJ5_putStringAt_47b60 ∈ bigW := bt2 177 rfl rfl
set_option maxRecDepth 20000 in
theorem mu_J5_putStringAt_47b60 : MIu RJ4 "java/lang/AbstractStringBuilder" ⟨"java/lang/AbstractStringBuilder", "putStringAt", "(ILjava/lang/String;)V"⟩ yJ5_putStringAt_47b60 cJ5_putStringAt_47b60 3 none 2 := ⟨bt2 180 rfl rfl, bt1 2 rfl rfl, bt6 24 rfl rfl, bt9 1 rfl rfl, bt2 179 rfl rfl, rfl, by decide, by decide, by decide +kernel⟩
set_option maxRecDepth 20000 in
theorem ml_RJ4_29 : Cond.methodLink RJ4 29 yJ5_append_cf1ce ∈ bigW := bt2 95 rfl rfl
set_option maxRecDepth 20000 in
theorem mp_J5_append_cf1ce : MIp RJ4 yJ5_append_cf1ce cJ5_append_cf1ce 3 (some (.object "java/lang/AbstractStringBuilder")) 1 := ⟨bt2 97 rfl rfl, bt1 2 rfl rfl, bt6 20 rfl rfl, bt1 62 rfl rfl, bt2 96 rfl rfl, by decide, by decide +kernel⟩
theorem dJ0_coder_7d493_0 : decode cJ0_coder_7d493 0 = .ok (.getstatic 38, 3) := by decide +kernel
theorem dJ0_coder_7d493_3 : decode cJ0_coder_7d493 3 = .ok (.ifCond .eq 10, 3) := by decide +kernel
theorem dJ0_coder_7d493_6 : decode cJ0_coder_7d493 6 = .ok (.aload_n 0, 1) := by decide +kernel
theorem dJ0_coder_7d493_7 : decode cJ0_coder_7d493 7 = .ok (.getfield 15, 3) := by decide +kernel
theorem dJ0_coder_7d493_10 : decode cJ0_coder_7d493 10 = .ok (.goto 4, 3) := by decide +kernel
theorem dJ0_coder_7d493_14 : decode cJ0_coder_7d493 14 = .ok (.ireturn, 1) := by decide +kernel
theorem dJ0_getBytes_840e7_0 : decode cJ0_getBytes_840e7 0 = .ok (.aload_n 0, 1) := by decide +kernel
theorem dJ0_getBytes_840e7_1 : decode cJ0_getBytes_840e7 1 = .ok (.invokevirtual 335, 3) := by decide +kernel
theorem dJ0_getBytes_840e7_4 : decode cJ0_getBytes_840e7 4 = .ok (.iload_n 3, 1) := by decide +kernel
theorem dJ0_getBytes_840e7_5 : decode cJ0_getBytes_840e7 5 = .ok (.if_icmp .ne 23, 3) := by decide +kernel
theorem dJ0_getBytes_840e7_8 : decode cJ0_getBytes_840e7 8 = .ok (.aload_n 0, 1) := by decide +kernel
theorem dJ0_getBytes_840e7_9 : decode cJ0_getBytes_840e7 9 = .ok (.getfield 9, 3) := by decide +kernel
theorem dJ0_getBytes_840e7_12 : decode cJ0_getBytes_840e7 12 = .ok (.iconst 0, 1) := by decide +kernel
theorem dJ0_getBytes_840e7_13 : decode cJ0_getBytes_840e7 13 = .ok (.aload_n 1, 1) := by decide +kernel
theorem dJ0_getBytes_840e7_14 : decode cJ0_getBytes_840e7 14 = .ok (.iload_n 2, 1) := by decide +kernel
theorem dJ0_getBytes_840e7_15 : decode cJ0_getBytes_840e7 15 = .ok (.iload_n 3, 1) := by decide +kernel
theorem dJ0_getBytes_840e7_16 : decode cJ0_getBytes_840e7 16 = .ok (.ishl, 1) := by decide +kernel
theorem dJ0_getBytes_840e7_17 : decode cJ0_getBytes_840e7 17 = .ok (.aload_n 0, 1) := by decide +kernel
theorem dJ0_getBytes_840e7_18 : decode cJ0_getBytes_840e7 18 = .ok (.getfield 9, 3) := by decide +kernel
theorem dJ0_getBytes_840e7_21 : decode cJ0_getBytes_840e7 21 = .ok (.arraylength, 1) := by decide +kernel
theorem dJ0_getBytes_840e7_22 : decode cJ0_getBytes_840e7 22 = .ok (.invokestatic 212, 3) := by decide +kernel
theorem dJ0_getBytes_840e7_25 : decode cJ0_getBytes_840e7 25 = .ok (.goto 18, 3) := by decide +kernel
theorem dJ0_getBytes_840e7_43 : decode cJ0_getBytes_840e7 43 = .ok (.return_, 1) := by decide +kernel
theorem dJ0_length_8abf5_0 : decode cJ0_length_8abf5 0 = .ok (.aload_n 0, 1) := by decide +kernel
theorem dJ0_length_8abf5_1 : decode cJ0_length_8abf5 1 = .ok (.getfield 9, 3) := by decide +kernel
theorem dJ0_length_8abf5_4 : decode cJ0_length_8abf5 4 = .ok (.arraylength, 1) := by decide +kernel
theorem dJ0_length_8abf5_5 : decode cJ0_length_8abf5 5 = .ok (.aload_n 0, 1) := by decide +kernel
theorem dJ0_length_8abf5_6 : decode cJ0_length_8abf5 6 = .ok (.invokevirtual 335, 3) := by decide +kernel
theorem dJ0_length_8abf5_9 : decode cJ0_length_8abf5 9 = .ok (.ishr, 1) := by decide +kernel
theorem dJ0_length_8abf5_10 : decode cJ0_length_8abf5 10 = .ok (.ireturn, 1) := by decide +kernel
theorem dJ4_append_15ec4_0 : decode cJ4_append_15ec4 0 = .ok (.aload_n 0, 1) := by decide +kernel
theorem dJ4_append_15ec4_1 : decode cJ4_append_15ec4 1 = .ok (.aload_n 1, 1) := by decide +kernel
theorem dJ4_append_15ec4_2 : decode cJ4_append_15ec4 2 = .ok (.invokespecial 29, 3) := by decide +kernel
theorem dJ4_append_15ec4_5 : decode cJ4_append_15ec4 5 = .ok (.pop, 1) := by decide +kernel
theorem dJ4_append_15ec4_6 : decode cJ4_append_15ec4 6 = .ok (.aload_n 0, 1) := by decide +kernel
theorem dJ4_append_15ec4_7 : decode cJ4_append_15ec4 7 = .ok (.areturn, 1) := by decide +kernel
theorem dJ4_length_8abf5_0 : decode cJ4_length_8abf5 0 = .ok (.aload_n 0, 1) := by decide +kernel
theorem dJ4_length_8abf5_1 : decode cJ4_length_8abf5 1 = .ok (.invokespecial 343, 3) := by decide +kernel
theorem dJ4_length_8abf5_4 : decode cJ4_length_8abf5 4 = .ok (.ireturn, 1) := by decide +kernel
theorem dJ4_setLength_d00df_0 : decode cJ4_setLength_d00df 0 = .ok (.aload_n 0, 1) := by decide +kernel
theorem dJ4_setLength_d00df_1 : decode cJ4_setLength_d00df 1 = .ok (.iload_n 1, 1) := by decide +kernel
theorem dJ4_setLength_d00df_2 : decode cJ4_setLength_d00df 2 = .ok (.invokespecial 333, 3) := by decide +kernel
theorem dJ4_setLength_d00df_5 : decode cJ4_setLength_d00df 5 = .ok (.return_, 1) := by decide +kernel
theorem dJ5_append_cf1ce_0 : decode cJ5_append_cf1ce 0 = .ok (.aload_n 1, 1) := by decide +kernel
theorem dJ5_append_cf1ce_1 : decode cJ5_append_cf1ce 1 = .ok (.ifnonnull 8, 3) := by decide +kernel
theorem dJ5_append_cf1ce_9 : decode cJ5_append_cf1ce 9 = .ok (.aload_n 1, 1) := by decide +kernel
theorem dJ5_append_cf1ce_10 : decode cJ5_append_cf1ce 10 = .ok (.invokevirtual 32, 3) := by decide +kernel
theorem dJ5_append_cf1ce_13 : decode cJ5_append_cf1ce 13 = .ok (.istore_n 2, 1) := by decide +kernel
theorem dJ5_append_cf1ce_14 : decode cJ5_append_cf1ce 14 = .ok (.aload_n 0, 1) := by decide +kernel
theorem dJ5_append_cf1ce_15 : decode cJ5_append_cf1ce 15 = .ok (.aload_n 0, 1) := by decide +kernel
theorem dJ5_append_cf1ce_16 : decode cJ5_append_cf1ce 16 = .ok (.getfield 79, 3) := by decide +kernel
theorem dJ5_append_cf1ce_19 : decode cJ5_append_cf1ce 19 = .ok (.iload_n 2, 1) := by decide +kernel
theorem dJ5_append_cf1ce_20 : decode cJ5_append_cf1ce 20 = .ok (.iadd, 1) := by decide +kernel
theorem dJ5_append_cf1ce_21 : decode cJ5_append_cf1ce 21 = .ok (.invokevirtual 100, 3) := by decide +kernel
theorem dJ5_append_cf1ce_24 : decode cJ5_append_cf1ce 24 = .ok (.aload_n 0, 1) := by decide +kernel
theorem dJ5_append_cf1ce_25 : decode cJ5_append_cf1ce 25 = .ok (.aload_n 0, 1) := by decide +kernel
theorem dJ5_append_cf1ce_26 : decode cJ5_append_cf1ce 26 = .ok (.getfield 79, 3) := by decide +kernel
theorem dJ5_append_cf1ce_29 : decode cJ5_append_cf1ce 29 = .ok (.aload_n 1, 1) := by decide +kernel
theorem dJ5_append_cf1ce_30 : decode cJ5_append_cf1ce 30 = .ok (.invokevirtual 208, 3) := by decide +kernel
theorem dJ5_append_cf1ce_33 : decode cJ5_append_cf1ce 33 = .ok (.aload_n 0, 1) := by decide +kernel
theorem dJ5_append_cf1ce_34 : decode cJ5_append_cf1ce 34 = .ok (.dup, 1) := by decide +kernel
theorem dJ5_append_cf1ce_35 : decode cJ5_append_cf1ce 35 = .ok (.getfield 79, 3) := by decide +kernel
theorem dJ5_append_cf1ce_38 : decode cJ5_append_cf1ce 38 = .ok (.iload_n 2, 1) := by decide +kernel
theorem dJ5_append_cf1ce_39 : decode cJ5_append_cf1ce 39 = .ok (.iadd, 1) := by decide +kernel
theorem dJ5_append_cf1ce_40 : decode cJ5_append_cf1ce 40 = .ok (.putfield 79, 3) := by decide +kernel
theorem dJ5_append_cf1ce_43 : decode cJ5_append_cf1ce 43 = .ok (.aload_n 0, 1) := by decide +kernel
theorem dJ5_append_cf1ce_44 : decode cJ5_append_cf1ce 44 = .ok (.areturn, 1) := by decide +kernel
theorem dJ5_ensureCapacityInternal_d00df_0 : decode cJ5_ensureCapacityInternal_d00df 0 = .ok (.aload_n 0, 1) := by decide +kernel
theorem dJ5_ensureCapacityInternal_d00df_1 : decode cJ5_ensureCapacityInternal_d00df 1 = .ok (.getfield 15, 3) := by decide +kernel
theorem dJ5_ensureCapacityInternal_d00df_4 : decode cJ5_ensureCapacityInternal_d00df 4 = .ok (.arraylength, 1) := by decide +kernel
theorem dJ5_ensureCapacityInternal_d00df_5 : decode cJ5_ensureCapacityInternal_d00df 5 = .ok (.aload_n 0, 1) := by decide +kernel
theorem dJ5_ensureCapacityInternal_d00df_6 : decode cJ5_ensureCapacityInternal_d00df 6 = .ok (.getfield 22, 3) := by decide +kernel
theorem dJ5_ensureCapacityInternal_d00df_9 : decode cJ5_ensureCapacityInternal_d00df 9 = .ok (.ishr, 1) := by decide +kernel
theorem dJ5_ensureCapacityInternal_d00df_10 : decode cJ5_ensureCapacityInternal_d00df 10 = .ok (.istore_n 2, 1) := by decide +kernel
theorem dJ5_ensureCapacityInternal_d00df_11 : decode cJ5_ensureCapacityInternal_d00df 11 = .ok (.iload_n 1, 1) := by decide +kernel
theorem dJ5_ensureCapacityInternal_d00df_12 : decode cJ5_ensureCapacityInternal_d00df 12 = .ok (.iload_n 2, 1) := by decide +kernel
theorem dJ5_ensureCapacityInternal_d00df_13 : decode cJ5_ensureCapacityInternal_d00df 13 = .ok (.isub, 1) := by decide +kernel
theorem dJ5_ensureCapacityInternal_d00df_14 : decode cJ5_ensureCapacityInternal_d00df 14 = .ok (.ifCond .le 24, 3) := by decide +kernel
theorem dJ5_ensureCapacityInternal_d00df_38 : decode cJ5_ensureCapacityInternal_d00df 38 = .ok (.return_, 1) := by decide +kernel
theorem dJ5_getValue_6d5f1_0 : decode cJ5_getValue_6d5f1 0 = .ok (.aload_n 0, 1) := by decide +kernel
theorem dJ5_getValue_6d5f1_1 : decode cJ5_getValue_6d5f1 1 = .ok (.getfield 15, 3) := by decide +kernel
theorem dJ5_getValue_6d5f1_4 : decode cJ5_getValue_6d5f1 4 = .ok (.areturn, 1) := by decide +kernel
theorem dJ5_inflateIfNeededFor_a7421_0 : decode cJ5_inflateIfNeededFor_a7421 0 = .ok (.getstatic 18, 3) := by decide +kernel
theorem dJ5_inflateIfNeededFor_a7421_3 : decode cJ5_inflateIfNeededFor_a7421 3 = .ok (.ifCond .eq 18, 3) := by decide +kernel
theorem dJ5_inflateIfNeededFor_a7421_6 : decode cJ5_inflateIfNeededFor_a7421 6 = .ok (.aload_n 0, 1) := by decide +kernel
theorem dJ5_inflateIfNeededFor_a7421_7 : decode cJ5_inflateIfNeededFor_a7421 7 = .ok (.getfield 22, 3) := by decide +kernel
theorem dJ5_inflateIfNeededFor_a7421_10 : decode cJ5_inflateIfNeededFor_a7421 10 = .ok (.aload_n 1, 1) := by decide +kernel
theorem dJ5_inflateIfNeededFor_a7421_11 : decode cJ5_inflateIfNeededFor_a7421 11 = .ok (.invokevirtual 40, 3) := by decide +kernel
theorem dJ5_inflateIfNeededFor_a7421_14 : decode cJ5_inflateIfNeededFor_a7421 14 = .ok (.if_icmp .eq 7, 3) := by decide +kernel
theorem dJ5_inflateIfNeededFor_a7421_21 : decode cJ5_inflateIfNeededFor_a7421 21 = .ok (.return_, 1) := by decide +kernel
theorem dJ5_isLatin1_aae02_0 : decode cJ5_isLatin1_aae02 0 = .ok (.getstatic 18, 3) := by decide +kernel
theorem dJ5_isLatin1_aae02_3 : decode cJ5_isLatin1_aae02 3 = .ok (.ifCond .eq 14, 3) := by decide +kernel
theorem dJ5_isLatin1_aae02_6 : decode cJ5_isLatin1_aae02 6 = .ok (.aload_n 0, 1) := by decide +kernel
theorem dJ5_isLatin1_aae02_7 : decode cJ5_isLatin1_aae02 7 = .ok (.getfield 22, 3) := by decide +kernel
theorem dJ5_isLatin1_aae02_10 : decode cJ5_isLatin1_aae02 10 = .ok (.ifCond .ne 7, 3) := by decide +kernel
theorem dJ5_isLatin1_aae02_13 : decode cJ5_isLatin1_aae02 13 = .ok (.iconst 1, 1) := by decide +kernel
theorem dJ5_isLatin1_aae02_14 : decode cJ5_isLatin1_aae02 14 = .ok (.goto 4, 3) := by decide +kernel
theorem dJ5_isLatin1_aae02_18 : decode cJ5_isLatin1_aae02 18 = .ok (.ireturn, 1) := by decide +kernel
theorem dJ5_length_8abf5_0 : decode cJ5_length_8abf5 0 = .ok (.aload_n 0, 1) := by decide +kernel
theorem dJ5_length_8abf5_1 : decode cJ5_length_8abf5 1 = .ok (.getfield 79, 3) := by decide +kernel
theorem dJ5_length_8abf5_4 : decode cJ5_length_8abf5 4 = .ok (.ireturn, 1) := by decide +kernel
theorem dJ5_putStringAt_47b60_0 : decode cJ5_putStringAt_47b60 0 = .ok (.aload_n 0, 1) := by decide +kernel
theorem dJ5_putStringAt_47b60_1 : decode cJ5_putStringAt_47b60 1 = .ok (.aload_n 2, 1) := by decide +kernel
theorem dJ5_putStringAt_47b60_2 : decode cJ5_putStringAt_47b60 2 = .ok (.invokevirtual 397, 3) := by decide +kernel
theorem dJ5_putStringAt_47b60_5 : decode cJ5_putStringAt_47b60 5 = .ok (.aload_n 2, 1) := by decide +kernel
theorem dJ5_putStringAt_47b60_6 : decode cJ5_putStringAt_47b60 6 = .ok (.aload_n 0, 1) := by decide +kernel
theorem dJ5_putStringAt_47b60_7 : decode cJ5_putStringAt_47b60 7 = .ok (.getfield 15, 3) := by decide +kernel
theorem dJ5_putStringAt_47b60_10 : decode cJ5_putStringAt_47b60 10 = .ok (.iload_n 1, 1) := by decide +kernel
theorem dJ5_putStringAt_47b60_11 : decode cJ5_putStringAt_47b60 11 = .ok (.aload_n 0, 1) := by decide +kernel
theorem dJ5_putStringAt_47b60_12 : decode cJ5_putStringAt_47b60 12 = .ok (.getfield 22, 3) := by decide +kernel
theorem dJ5_putStringAt_47b60_15 : decode cJ5_putStringAt_47b60 15 = .ok (.invokevirtual 399, 3) := by decide +kernel
theorem dJ5_putStringAt_47b60_18 : decode cJ5_putStringAt_47b60 18 = .ok (.return_, 1) := by decide +kernel
theorem dJ5_setLength_d00df_0 : decode cJ5_setLength_d00df 0 = .ok (.iload_n 1, 1) := by decide +kernel
theorem dJ5_setLength_d00df_1 : decode cJ5_setLength_d00df 1 = .ok (.ifCond .ge 12, 3) := by decide +kernel
theorem dJ5_setLength_d00df_13 : decode cJ5_setLength_d00df 13 = .ok (.aload_n 0, 1) := by decide +kernel
theorem dJ5_setLength_d00df_14 : decode cJ5_setLength_d00df 14 = .ok (.iload_n 1, 1) := by decide +kernel
theorem dJ5_setLength_d00df_15 : decode cJ5_setLength_d00df 15 = .ok (.invokevirtual 100, 3) := by decide +kernel
theorem dJ5_setLength_d00df_18 : decode cJ5_setLength_d00df 18 = .ok (.aload_n 0, 1) := by decide +kernel
theorem dJ5_setLength_d00df_19 : decode cJ5_setLength_d00df 19 = .ok (.getfield 79, 3) := by decide +kernel
theorem dJ5_setLength_d00df_22 : decode cJ5_setLength_d00df 22 = .ok (.iload_n 1, 1) := by decide +kernel
theorem dJ5_setLength_d00df_23 : decode cJ5_setLength_d00df 23 = .ok (.if_icmp .ge 40, 3) := by decide +kernel
theorem dJ5_setLength_d00df_63 : decode cJ5_setLength_d00df 63 = .ok (.aload_n 0, 1) := by decide +kernel
theorem dJ5_setLength_d00df_64 : decode cJ5_setLength_d00df 64 = .ok (.getfield 79, 3) := by decide +kernel
theorem dJ5_setLength_d00df_67 : decode cJ5_setLength_d00df 67 = .ok (.iload_n 1, 1) := by decide +kernel
theorem dJ5_setLength_d00df_68 : decode cJ5_setLength_d00df 68 = .ok (.if_icmp .le 8, 3) := by decide +kernel
theorem dJ5_setLength_d00df_71 : decode cJ5_setLength_d00df 71 = .ok (.aload_n 0, 1) := by decide +kernel
theorem dJ5_setLength_d00df_72 : decode cJ5_setLength_d00df 72 = .ok (.iconst 1, 1) := by decide +kernel
theorem dJ5_setLength_d00df_73 : decode cJ5_setLength_d00df 73 = .ok (.putfield 73, 3) := by decide +kernel
theorem dJ5_setLength_d00df_76 : decode cJ5_setLength_d00df 76 = .ok (.aload_n 0, 1) := by decide +kernel
theorem dJ5_setLength_d00df_77 : decode cJ5_setLength_d00df 77 = .ok (.iload_n 1, 1) := by decide +kernel
theorem dJ5_setLength_d00df_78 : decode cJ5_setLength_d00df 78 = .ok (.putfield 79, 3) := by decide +kernel
theorem dJ5_setLength_d00df_81 : decode cJ5_setLength_d00df 81 = .ok (.return_, 1) := by decide +kernel
set_option maxRecDepth 100000 in
set_option maxHeartbeats 4000000 in
theorem j_J5_length_8abf5 (l : Launch) (D : va_G) (cI cB : ClassId) (t bt : Nat) (ml cn : Int32) (bs : Nat → Int32) : JW (S := Unit) l yJ5_length_8abf5 cJ5_length_8abf5 1 (some .int) ({ frames := 0, cells := 0, slots := 0, locals := 0 } : Room) D cI cB [.ref t] [(t, .inr (1, [.ref bt, .int 0, .int ml, .int cn])), (bt, .inl (cB, 16, .inl bs))] zT (fun _ => some (.int cn)) (fun _ => True) (fun _ => [(t, .inr (1, [.ref bt, .int 0, .int ml, .int cn])), (bt, .inl (cB, 16, .inl bs))]) 0 0 := by
  refine bodyJ (by decide +kernel) (Nat.le_of_ble_eq_true rfl) (fun p e s m args below meth c ls A ZZ => ?_)
  obtain ⟨FX, hr, hlk, hK, hP, hD, hS, hA, hz, hnm, hl⟩ := ZZ
  have hl : lv_has ls 1 [(0, .ref t)] := hl
  have hP : va_P D KL [(t, .inr (1, [.ref bt, .int 0, .int ml, .int cn])), (bt, .inl (cB, 16, .inl bs))] s.heap := hP
  refine lv_aload_n FX.1 FX.2.1 dJ5_length_8abf5_0 rfl (lv_at hl 0 rfl) ?_
  refine va_get (D := D) (ci := 1) (v := .int cn) (C := RJ4) (T := TJ4) (N := 4) FX.1 FX.2.1 FX.2.2.2.2 inJ4 FX.2.2.2.1 hK hP 0 rfl rfl 3 (by decide) (FX.2.2.2.2 _ fl_RJ5_79) (fun _ h9 => h9) rfl dJ5_length_8abf5_1 ?_
  exact retJi () FX hr hlk dJ5_length_8abf5_4 rfl hP hK hD hS (by decide) (by decide) rfl trivial
set_option maxRecDepth 100000 in
set_option maxHeartbeats 4000000 in
theorem j_J5_isLatin1_aae02 (l : Launch) (D : va_G) (cI cB : ClassId) (t bt : Nat) (ml cn : Int32) (bs : Nat → Int32) : JW (S := Unit) l yJ5_isLatin1_aae02 cJ5_isLatin1_aae02 1 (some .boolean) ({ frames := 0, cells := 0, slots := 0, locals := 0 } : Room) D cI cB [.ref t] [(t, .inr (1, [.ref bt, .int 0, .int ml, .int cn])), (bt, .inl (cB, 16, .inl bs))] zC (fun _ => some (.int 1)) (fun _ => True) (fun _ => [(t, .inr (1, [.ref bt, .int 0, .int ml, .int cn])), (bt, .inl (cB, 16, .inl bs))]) 0 0 := by
  refine bodyJ (by decide +kernel) (Nat.le_of_ble_eq_true rfl) (fun p e s m args below meth c ls A ZZ => ?_)
  obtain ⟨FX, hr, hlk, hK, hP, hD, hS, hA, hz, hnm, hl⟩ := ZZ
  have hl : lv_has ls 1 [(0, .ref t)] := hl
  have hP : va_P D KL [(t, .inr (1, [.ref bt, .int 0, .int ml, .int cn])), (bt, .inl (cB, 16, .inl bs))] s.heap := hP
  refine va_gets FX.1 FX.2.1 hz hS FX.2.2.2.1 (FX.2.2.2.2 _ fl_RJ5_18) (fun _ h9 => h9) dJ5_isLatin1_aae02_0 ?_
  refine lv_if_eq (tgt := 17) FX.1 FX.2.1 dJ5_isLatin1_aae02_3 (by decide) (fun c_1 => ?_) (fun c_1 => ?_)
  · exact absurd c_1 (by decide)
  · refine lv_aload_n FX.1 FX.2.1 dJ5_isLatin1_aae02_6 rfl (lv_at hl 0 rfl) ?_
    refine va_get (D := D) (ci := 1) (v := .int 0) (C := RJ4) (T := TJ4) (N := 4) FX.1 FX.2.1 FX.2.2.2.2 inJ4 FX.2.2.2.1 hK hP 0 rfl rfl 1 (by decide) (FX.2.2.2.2 _ fl_RJ5_22) (fun _ h9 => h9) rfl dJ5_isLatin1_aae02_7 ?_
    refine lv_if_ne (tgt := 17) FX.1 FX.2.1 dJ5_isLatin1_aae02_10 (by decide) (fun c_2 => ?_) (fun c_2 => ?_)
    · exact absurd c_2 (by decide)
    · refine lv_iconst (v := 1) FX.1 FX.2.1 dJ5_isLatin1_aae02_13 (by decide) ?_
      refine lv_goto (tgt := 18) FX.1 FX.2.1 dJ5_isLatin1_aae02_14 (by decide) ?_
      exact retJi () FX hr hlk dJ5_isLatin1_aae02_18 rfl hP hK hD hS (by decide) (by decide) rfl trivial
set_option maxRecDepth 100000 in
set_option maxHeartbeats 4000000 in
theorem j_J5_getValue_6d5f1 (l : Launch) (D : va_G) (cI cB : ClassId) (t bt : Nat) (ml cn : Int32) (bs : Nat → Int32) : JW (S := Unit) l yJ5_getValue_6d5f1 cJ5_getValue_6d5f1 1 (some (.array .byte)) ({ frames := 0, cells := 0, slots := 0, locals := 0 } : Room) D cI cB [.ref t] [(t, .inr (1, [.ref bt, .int 0, .int ml, .int cn])), (bt, .inl (cB, 16, .inl bs))] zT (fun _ => some (.ref bt)) (fun _ => True) (fun _ => [(t, .inr (1, [.ref bt, .int 0, .int ml, .int cn])), (bt, .inl (cB, 16, .inl bs))]) 0 0 := by
  refine bodyJ (by decide +kernel) (Nat.le_of_ble_eq_true rfl) (fun p e s m args below meth c ls A ZZ => ?_)
  obtain ⟨FX, hr, hlk, hK, hP, hD, hS, hA, hz, hnm, hl⟩ := ZZ
  have hl : lv_has ls 1 [(0, .ref t)] := hl
  have hP : va_P D KL [(t, .inr (1, [.ref bt, .int 0, .int ml, .int cn])), (bt, .inl (cB, 16, .inl bs))] s.heap := hP
  refine lv_aload_n FX.1 FX.2.1 dJ5_getValue_6d5f1_0 rfl (lv_at hl 0 rfl) ?_
  refine va_get (D := D) (ci := 1) (v := .ref bt) (C := RJ4) (T := TJ4) (N := 4) FX.1 FX.2.1 FX.2.2.2.2 inJ4 FX.2.2.2.1 hK hP 0 rfl rfl 0 (by decide) (FX.2.2.2.2 _ fl_RJ5_15) (fun _ h9 => h9) rfl dJ5_getValue_6d5f1_1 ?_
  exact retJa () FX hr (Or.inr ⟨_, rfl⟩) hlk dJ5_getValue_6d5f1_4 hP hK hD hS (by decide) (by decide) rfl trivial
set_option maxRecDepth 100000 in
set_option maxHeartbeats 4000000 in
theorem j_J4_length_8abf5 (l : Launch) (D : va_G) (cI cB : ClassId) (t bt : Nat) (ml cn : Int32) (bs : Nat → Int32) : JW (S := Unit) l yJ4_length_8abf5 cJ4_length_8abf5 1 (some .int) ({ frames := 1, cells := 0, slots := 0, locals := 20 } : Room) D cI cB [.ref t] [(t, .inr (1, [.ref bt, .int 0, .int ml, .int cn])), (bt, .inl (cB, 16, .inl bs))] zT (fun _ => some (.int cn)) (fun _ => True) (fun _ => [(t, .inr (1, [.ref bt, .int 0, .int ml, .int cn])), (bt, .inl (cB, 16, .inl bs))]) 0 0 := by
  refine bodyJ (by decide +kernel) (Nat.le_of_ble_eq_true rfl) (fun p e s m args below meth c ls A ZZ => ?_)
  obtain ⟨FX, hr, hlk, hK, hP, hD, hS, hA, hz, hnm, hl⟩ := ZZ
  have hl : lv_has ls 1 [(0, .ref t)] := hl
  have hP : va_P D KL [(t, .inr (1, [.ref bt, .int 0, .int ml, .int cn])), (bt, .inl (cB, 16, .inl bs))] s.heap := hP
  refine lv_aload_n FX.1 FX.2.1 dJ4_length_8abf5_0 rfl (lv_at hl 0 rfl) ?_
  refine c_J (W0 := [(t, .inr (1, [.ref bt, .int 0, .int ml, .int cn])), (bt, .inl (cB, 16, .inl bs))]) (wr := []) (wsN := fun _ => [(t, .inr (1, [.ref bt, .int 0, .int ml, .int cn])), (bt, .inl (cB, 16, .inl bs))]) (va_runSU (hK.1 1 _ rfl).2 FX ((j_J5_length_8abf5 l D cI cB t bt ml cn bs) s.heap.size) (my_cwSU FX.2.2.2.2 mp_J5_length_8abf5 ml_RJ4_343 (RMok.mk)) ⟨PJ.blind zT_ok, (my_recv (i0 := 0) (ci := 1) hK hP rfl rfl rfl), fun U hU hW => ⟨rfl, my_preJ zT_ok trivial hS hA hK hP hD [0, 1] rfl rfl U hU hW⟩⟩ rfl rfl hl.1 rfl (lv_room (Nat.le_of_ble_eq_true rfl)) dJ4_length_8abf5_1 (by decide)) hP hD hS hA [0, 1] rfl [] rfl (by decide) [0, 1] (fun _ => rfl) rfl (fun u1 H locs hp_1 hP hD hS => ?_)
  have hP : va_P D KL [(t, .inr (1, [.ref bt, .int 0, .int ml, .int cn])), (bt, .inl (cB, 16, .inl bs))] H := hP
  have hD : va_D A [(t, .inr (1, [.ref bt, .int 0, .int ml, .int cn])), (bt, .inl (cB, 16, .inl bs))] := hD
  refine W.eq (g2 := F0 m 4 ls [.int cn]) rfl ?_
  exact retJi () FX hr hlk dJ4_length_8abf5_4 rfl hP hK hD hS (by decide) (by decide) rfl trivial
set_option maxRecDepth 100000 in
set_option maxHeartbeats 4000000 in
theorem j_J5_ensureCapacityInternal_d00df (l : Launch) (D : va_G) (cI cB : ClassId) (t bt : Nat) (ml cn : Int32) (bs : Nat → Int32) (q : Int32) (hq : q.toInt ≤ 16 ∧ 0 ≤ q.toInt) : JW (S := Unit) l yJ5_ensureCapacityInternal_d00df cJ5_ensureCapacityInternal_d00df 3 none ({ frames := 0, cells := 0, slots := 0, locals := 0 } : Room) D cI cB [.ref t, .int q] [(t, .inr (1, [.ref bt, .int 0, .int ml, .int cn])), (bt, .inl (cB, 16, .inl bs))] zT (fun _ => none) (fun _ => True) (fun _ => [(t, .inr (1, [.ref bt, .int 0, .int ml, .int cn])), (bt, .inl (cB, 16, .inl bs))]) 0 0 := by
  refine bodyJ (by decide +kernel) (Nat.le_of_ble_eq_true rfl) (fun p e s m args below meth c ls A ZZ => ?_)
  obtain ⟨FX, hr, hlk, hK, hP, hD, hS, hA, hz, hnm, hl⟩ := ZZ
  have hl : lv_has ls 3 [(0, .ref t), (1, .int q)] := hl
  have hP : va_P D KL [(t, .inr (1, [.ref bt, .int 0, .int ml, .int cn])), (bt, .inl (cB, 16, .inl bs))] s.heap := hP
  refine lv_aload_n FX.1 FX.2.1 dJ5_ensureCapacityInternal_d00df_0 rfl (lv_at hl 0 rfl) ?_
  refine va_get (D := D) (ci := 1) (v := .ref bt) (C := RJ4) (T := TJ4) (N := 4) FX.1 FX.2.1 FX.2.2.2.2 inJ4 FX.2.2.2.1 hK hP 0 rfl rfl 0 (by decide) (FX.2.2.2.2 _ fl_RJ5_15) (fun _ h9 => h9) rfl dJ5_ensureCapacityInternal_d00df_1 ?_
  refine va_alen FX.1 FX.2.1 hK hP 1 1 rfl rfl (v := 16) (by rfl) dJ5_ensureCapacityInternal_d00df_4 ?_
  refine lv_aload_n FX.1 FX.2.1 dJ5_ensureCapacityInternal_d00df_5 rfl (lv_at hl 0 rfl) ?_
  refine va_get (D := D) (ci := 1) (v := .int 0) (C := RJ4) (T := TJ4) (N := 4) FX.1 FX.2.1 FX.2.2.2.2 inJ4 FX.2.2.2.1 hK hP 0 rfl rfl 1 (by decide) (FX.2.2.2.2 _ fl_RJ5_22) (fun _ h9 => h9) rfl dJ5_ensureCapacityInternal_d00df_6 ?_
  refine p_ishr0 FX dJ5_ensureCapacityInternal_d00df_9 ?_
  refine lv_istore_n (lv' := [(2, .int 16), (0, .ref t), (1, .int q)]) FX.1 FX.2.1 dJ5_ensureCapacityInternal_d00df_10 rfl hl (by decide) rfl (fun ls hl => ?_)
  refine lv_iload_n FX.1 FX.2.1 dJ5_ensureCapacityInternal_d00df_11 rfl (lv_at hl 2 rfl) ?_
  refine lv_iload_n FX.1 FX.2.1 dJ5_ensureCapacityInternal_d00df_12 rfl (lv_at hl 0 rfl) ?_
  refine lv_isub FX.1 FX.2.1 dJ5_ensureCapacityInternal_d00df_13 ?_
  refine lv_if_le (tgt := 38) FX.1 FX.2.1 dJ5_ensureCapacityInternal_d00df_14 (by decide) (fun c_1 => ?_) (fun c_1 => ?_)
  · exact retJv () FX hr hlk dJ5_ensureCapacityInternal_d00df_38 hP hK hD hS (by decide) (by decide) rfl trivial
  · exact absurd (ens16 hq) c_1
set_option maxRecDepth 100000 in
set_option maxHeartbeats 4000000 in
theorem j_J5_setLength_d00df (l : Launch) (D : va_G) (cI cB : ClassId) (t bt : Nat) (ml cn : Int32) (bs : Nat → Int32) (hc : 0 ≤ cn) : JW (S := Int32) l yJ5_setLength_d00df cJ5_setLength_d00df 2 none ({ frames := 1, cells := 0, slots := 0, locals := 22 } : Room) D cI cB [.ref t, .int 0] [(t, .inr (1, [.ref bt, .int 0, .int ml, .int cn])), (bt, .inl (cB, 16, .inl bs))] zT (fun u => none) (fun u => True) (fun u => [(t, .inr (1, [.ref bt, .int 0, .int u, .int 0])), (bt, .inl (cB, 16, .inl bs))]) 0 0 := by
  refine bodyJ (by decide +kernel) (Nat.le_of_ble_eq_true rfl) (fun p e s m args below meth c ls A ZZ => ?_)
  obtain ⟨FX, hr, hlk, hK, hP, hD, hS, hA, hz, hnm, hl⟩ := ZZ
  have hl : lv_has ls 2 [(0, .ref t), (1, .int 0)] := hl
  have hP : va_P D KL [(t, .inr (1, [.ref bt, .int 0, .int ml, .int cn])), (bt, .inl (cB, 16, .inl bs))] s.heap := hP
  refine lv_iload_n FX.1 FX.2.1 dJ5_setLength_d00df_0 rfl (lv_at hl 1 rfl) ?_
  refine lv_if_ge (tgt := 13) FX.1 FX.2.1 dJ5_setLength_d00df_1 (by decide) (fun c_1 => ?_) (fun c_1 => ?_)
  · refine lv_aload_n FX.1 FX.2.1 dJ5_setLength_d00df_13 rfl (lv_at hl 0 rfl) ?_
    refine lv_iload_n FX.1 FX.2.1 dJ5_setLength_d00df_14 rfl (lv_at hl 1 rfl) ?_
    refine c_J (W0 := [(t, .inr (1, [.ref bt, .int 0, .int ml, .int cn])), (bt, .inl (cB, 16, .inl bs))]) (wr := []) (wsN := fun _ => [(t, .inr (1, [.ref bt, .int 0, .int ml, .int cn])), (bt, .inl (cB, 16, .inl bs))]) (va_runU FX ((j_J5_ensureCapacityInternal_d00df l D cI cB t bt ml cn bs 0 (by decide)) s.heap.size) (my_cwU FX.2.2.2.2 mu_J5_ensureCapacityInternal_d00df ml_RJ5_100 (RMok.mk)) ⟨PJ.blind zT_ok, (my_recv (i0 := 0) (ci := 1) hK hP rfl rfl rfl), fun U hU hW => ⟨rfl, my_preJ zT_ok trivial hS hA hK hP hD [0, 1] rfl rfl U hU hW⟩⟩ rfl rfl hl.1 rfl (lv_room (Nat.le_of_ble_eq_true rfl)) dJ5_setLength_d00df_15 (by decide)) hP hD hS hA [0, 1] rfl [] rfl (by decide) [0, 1] (fun _ => rfl) rfl (fun u1 H locs hp_1 hP hD hS => ?_)
    have hP : va_P D KL [(t, .inr (1, [.ref bt, .int 0, .int ml, .int cn])), (bt, .inl (cB, 16, .inl bs))] H := hP
    have hD : va_D A [(t, .inr (1, [.ref bt, .int 0, .int ml, .int cn])), (bt, .inl (cB, 16, .inl bs))] := hD
    refine W.eq (g2 := F0 m 18 ls []) rfl ?_
    refine lv_aload_n FX.1 FX.2.1 dJ5_setLength_d00df_18 rfl (lv_at hl 0 rfl) ?_
    refine va_get (D := D) (ci := 1) (v := .int cn) (C := RJ4) (T := TJ4) (N := 4) FX.1 FX.2.1 FX.2.2.2.2 inJ4 FX.2.2.2.1 hK hP 0 rfl rfl 3 (by decide) (FX.2.2.2.2 _ fl_RJ5_79) (fun _ h9 => h9) rfl dJ5_setLength_d00df_19 ?_
    refine lv_iload_n FX.1 FX.2.1 dJ5_setLength_d00df_22 rfl (lv_at hl 1 rfl) ?_
    refine lv_icmp_ge (tgt := 63) FX.1 FX.2.1 dJ5_setLength_d00df_23 (by decide) (fun c_2 => ?_) (fun c_2 => ?_)
    · refine lv_aload_n FX.1 FX.2.1 dJ5_setLength_d00df_63 rfl (lv_at hl 0 rfl) ?_
      refine va_get (D := D) (ci := 1) (v := .int cn) (C := RJ4) (T := TJ4) (N := 4) FX.1 FX.2.1 FX.2.2.2.2 inJ4 FX.2.2.2.1 hK hP 0 rfl rfl 3 (by decide) (FX.2.2.2.2 _ fl_RJ5_79) (fun _ h9 => h9) rfl dJ5_setLength_d00df_64 ?_
      refine lv_iload_n FX.1 FX.2.1 dJ5_setLength_d00df_67 rfl (lv_at hl 1 rfl) ?_
      refine lv_icmp_le (tgt := 76) FX.1 FX.2.1 dJ5_setLength_d00df_68 (by decide) (fun c_3 => ?_) (fun c_3 => ?_)
      · refine lv_aload_n FX.1 FX.2.1 dJ5_setLength_d00df_76 rfl (lv_at hl 0 rfl) ?_
        refine lv_iload_n FX.1 FX.2.1 dJ5_setLength_d00df_77 rfl (lv_at hl 1 rfl) ?_
        refine p_put (wsN := [(t, .inr (1, [.ref bt, .int 0, .int ml, .int 0])), (bt, .inl (cB, 16, .inl bs))]) (ci := 1) (v := .int 0) (ty := .int) FX inJ4 tyJ4_ok nmJ4 hK hP hD hS 0 rfl rfl 3 (by decide) (FX.2.2.2.2 _ fl_RJ5_79) rfl (by decide +kernel) rfl rfl (Nat.le_of_ble_eq_true rfl) dJ5_setLength_d00df_78 rfl (fun H locs hP hD hS => ?_)
        exact retJv ml FX hr hlk dJ5_setLength_d00df_81 hP hK hD hS (by decide) (by decide) rfl trivial
      · refine lv_aload_n FX.1 FX.2.1 dJ5_setLength_d00df_71 rfl (lv_at hl 0 rfl) ?_
        refine lv_iconst (v := 1) FX.1 FX.2.1 dJ5_setLength_d00df_72 (by decide) ?_
        refine p_put (wsN := [(t, .inr (1, [.ref bt, .int 0, .int 1, .int cn])), (bt, .inl (cB, 16, .inl bs))]) (ci := 1) (v := .int 1) (ty := .boolean) FX inJ4 tyJ4_ok nmJ4 hK hP hD hS 0 rfl rfl 2 (by decide) (FX.2.2.2.2 _ fl_RJ5_73) rfl (by decide +kernel) rfl rfl (Nat.le_of_ble_eq_true rfl) dJ5_setLength_d00df_73 rfl (fun H locs hP hD hS => ?_)
        refine lv_aload_n FX.1 FX.2.1 dJ5_setLength_d00df_76 rfl (lv_at hl 0 rfl) ?_
        refine lv_iload_n FX.1 FX.2.1 dJ5_setLength_d00df_77 rfl (lv_at hl 1 rfl) ?_
        refine p_put (wsN := [(t, .inr (1, [.ref bt, .int 0, .int 1, .int 0])), (bt, .inl (cB, 16, .inl bs))]) (ci := 1) (v := .int 0) (ty := .int) FX inJ4 tyJ4_ok nmJ4 hK hP hD hS 0 rfl rfl 3 (by decide) (FX.2.2.2.2 _ fl_RJ5_79) rfl (by decide +kernel) rfl rfl (Nat.le_of_ble_eq_true rfl) dJ5_setLength_d00df_78 rfl (fun H locs hP hD hS => ?_)
        exact retJv 1 FX hr hlk dJ5_setLength_d00df_81 hP hK hD hS (by decide) (by decide) rfl trivial
    · exact absurd hc c_2
  · exact absurd c_1 (by decide)
set_option maxRecDepth 100000 in
set_option maxHeartbeats 4000000 in
theorem j_J4_setLength_d00df (l : Launch) (D : va_G) (cI cB : ClassId) (t bt : Nat) (ml cn : Int32) (bs : Nat → Int32) (hc : 0 ≤ cn) : JW (S := Int32) l yJ4_setLength_d00df cJ4_setLength_d00df 2 none ({ frames := 2, cells := 0, slots := 0, locals := 43 } : Room) D cI cB [.ref t, .int 0] [(t, .inr (1, [.ref bt, .int 0, .int ml, .int cn])), (bt, .inl (cB, 16, .inl bs))] zT (fun u => none) (fun u => True) (fun u => [(t, .inr (1, [.ref bt, .int 0, .int u, .int 0])), (bt, .inl (cB, 16, .inl bs))]) 0 0 := by
  refine bodyJ (by decide +kernel) (Nat.le_of_ble_eq_true rfl) (fun p e s m args below meth c ls A ZZ => ?_)
  obtain ⟨FX, hr, hlk, hK, hP, hD, hS, hA, hz, hnm, hl⟩ := ZZ
  have hl : lv_has ls 2 [(0, .ref t), (1, .int 0)] := hl
  have hP : va_P D KL [(t, .inr (1, [.ref bt, .int 0, .int ml, .int cn])), (bt, .inl (cB, 16, .inl bs))] s.heap := hP
  refine lv_aload_n FX.1 FX.2.1 dJ4_setLength_d00df_0 rfl (lv_at hl 0 rfl) ?_
  refine lv_iload_n FX.1 FX.2.1 dJ4_setLength_d00df_1 rfl (lv_at hl 1 rfl) ?_
  refine c_J (W0 := [(t, .inr (1, [.ref bt, .int 0, .int ml, .int cn])), (bt, .inl (cB, 16, .inl bs))]) (wr := []) (wsN := fun u1 => [(t, .inr (1, [.ref bt, .int 0, .int u1, .int 0])), (bt, .inl (cB, 16, .inl bs))]) (va_runSU (hK.1 1 _ rfl).2 FX ((j_J5_setLength_d00df l D cI cB t bt ml cn bs hc) s.heap.size) (my_cwSU FX.2.2.2.2 mp_J5_setLength_d00df ml_RJ4_333 (RMok.mk)) ⟨PJ.blind zT_ok, (my_recv (i0 := 0) (ci := 1) hK hP rfl rfl rfl), fun U hU hW => ⟨rfl, my_preJ zT_ok trivial hS hA hK hP hD [0, 1] rfl rfl U hU hW⟩⟩ rfl rfl hl.1 rfl (lv_room (Nat.le_of_ble_eq_true rfl)) dJ4_setLength_d00df_2 (by decide)) hP hD hS hA [0, 1] rfl [] rfl (by decide) [0, 1] (fun _ => rfl) rfl (fun u1 H locs hp_1 hP hD hS => ?_)
  have hP : va_P D KL [(t, .inr (1, [.ref bt, .int 0, .int u1, .int 0])), (bt, .inl (cB, 16, .inl bs))] H := hP
  have hD : va_D A [(t, .inr (1, [.ref bt, .int 0, .int u1, .int 0])), (bt, .inl (cB, 16, .inl bs))] := hD
  refine W.eq (g2 := F0 m 5 ls []) rfl ?_
  exact retJv u1 FX hr hlk dJ4_setLength_d00df_5 hP hK hD hS (by decide) (by decide) rfl trivial
set_option maxRecDepth 100000 in
set_option maxHeartbeats 4000000 in
theorem j_J0_coder_7d493 (l : Launch) (D : va_G) (cI cB : ClassId) (sa sv sn : Nat) (sf : Nat → Int32) : JW (S := Unit) l yJ0_coder_7d493 cJ0_coder_7d493 1 (some .byte) ({ frames := 0, cells := 0, slots := 0, locals := 0 } : Room) D cI cB [.ref sa] [] (zAnd zC (zS sa sv sn sf)) (fun _ => some (.int 0)) (fun _ => True) (fun _ => []) 0 0 := by
  refine bodyJ (by decide +kernel) (Nat.le_of_ble_eq_true rfl) (fun p e s m args below meth c ls A ZZ => ?_)
  obtain ⟨FX, hr, hlk, hK, hP, hD, hS, hA, hz, hnm, hl⟩ := ZZ
  have hl : lv_has ls 1 [(0, .ref sa)] := hl
  have hP : va_P D KL [] s.heap := hP
  refine va_gets FX.1 FX.2.1 hz.1 hS FX.2.2.2.1 (FX.2.2.2.2 _ fl_RJ0_38) (fun _ h9 => h9) dJ0_coder_7d493_0 ?_
  refine lv_if_eq (tgt := 13) FX.1 FX.2.1 dJ0_coder_7d493_3 (by decide) (fun c_1 => ?_) (fun c_1 => ?_)
  · exact absurd c_1 (by decide)
  · refine lv_aload_n FX.1 FX.2.1 dJ0_coder_7d493_6 rfl (lv_at hl 0 rfl) ?_
    refine vk_getf FX.1 FX.2.1 (hz.2).2.1 hS FX.2.2.2.1 (FX.2.2.2.2 _ fl_RJ0_15) (fun _ h9 => h9) dJ0_coder_7d493_7 ?_
    refine lv_goto (tgt := 14) FX.1 FX.2.1 dJ0_coder_7d493_10 (by decide) ?_
    exact retJi () FX hr hlk dJ0_coder_7d493_14 rfl hP hK hD hS (by decide) (by decide) rfl trivial
set_option maxRecDepth 100000 in
set_option maxHeartbeats 4000000 in
theorem j_J0_length_8abf5 (l : Launch) (D : va_G) (cI cB : ClassId) (sa sv sn : Nat) (sf : Nat → Int32) : JW (S := Unit) l yJ0_length_8abf5 cJ0_length_8abf5 1 (some .int) ({ frames := 1, cells := 0, slots := 0, locals := 20 } : Room) D cI cB [.ref sa] [] (zAnd zC (zS sa sv sn sf)) (fun _ => some (.int (nI sn))) (fun _ => True) (fun _ => []) 0 0 := by
  refine bodyJ (by decide +kernel) (Nat.le_of_ble_eq_true rfl) (fun p e s m args below meth c ls A ZZ => ?_)
  obtain ⟨FX, hr, hlk, hK, hP, hD, hS, hA, hz, hnm, hl⟩ := ZZ
  have hl : lv_has ls 1 [(0, .ref sa)] := hl
  have hP : va_P D KL [] s.heap := hP
  refine lv_aload_n FX.1 FX.2.1 dJ0_length_8abf5_0 rfl (lv_at hl 0 rfl) ?_
  refine vk_getf FX.1 FX.2.1 (hz.2).2.2.1 hS FX.2.2.2.1 (FX.2.2.2.2 _ fl_RJ0_9) (fun _ h9 => h9) dJ0_length_8abf5_1 ?_
  refine va_tlen FX.1 FX.2.1 (hz.2).2.2.2 hS (v := nI sn) rfl dJ0_length_8abf5_4 ?_
  refine lv_aload_n FX.1 FX.2.1 dJ0_length_8abf5_5 rfl (lv_at hl 0 rfl) ?_
  refine c_J (W0 := []) (wr := []) (wsN := fun _ => []) (va_runV FX ((j_J0_coder_7d493 l D cI cB sa sv sn sf) s.heap.size) (my_cwV FX.2.2.2.2 mi_J0_coder_7d493 ml_RJ0_335 (RMok.mk)) ⟨PJ.blind (zAnd_ok zC_ok zS_ok), (zS_recv hz.2 hS), fun U hU hW => ⟨rfl, my_preJ (zAnd_ok zC_ok zS_ok) ⟨hz.1, hz.2⟩ hS hA hK hP hD [] rfl rfl U hU hW⟩⟩ rfl rfl hl.1 rfl (lv_room (Nat.le_of_ble_eq_true rfl)) dJ0_length_8abf5_6 (by decide)) hP hD hS hA [] rfl [] rfl (by decide) [] (fun _ => rfl) rfl (fun u1 H locs hp_1 hP hD hS => ?_)
  have hP : va_P D KL [] H := hP
  have hD : va_D A [] := hD
  refine W.eq (g2 := F0 m 9 ls [.int 0, .int (nI sn)]) rfl ?_
  refine p_ishr0 FX dJ0_length_8abf5_9 ?_
  exact retJi () FX hr hlk dJ0_length_8abf5_10 rfl hP hK hD hS (by decide) (by decide) rfl trivial
set_option maxRecDepth 100000 in
set_option maxHeartbeats 4000000 in
theorem j_J5_inflateIfNeededFor_a7421 (l : Launch) (D : va_G) (cI cB : ClassId) (t bt : Nat) (ml cn : Int32) (bs : Nat → Int32) (sa sv sn : Nat) (sf : Nat → Int32) : JW (S := Unit) l yJ5_inflateIfNeededFor_a7421 cJ5_inflateIfNeededFor_a7421 2 none ({ frames := 1, cells := 0, slots := 0, locals := 20 } : Room) D cI cB [.ref t, .ref sa] [(t, .inr (1, [.ref bt, .int 0, .int ml, .int cn])), (bt, .inl (cB, 16, .inl bs))] (zAnd zC (zS sa sv sn sf)) (fun _ => none) (fun _ => True) (fun _ => [(t, .inr (1, [.ref bt, .int 0, .int ml, .int cn])), (bt, .inl (cB, 16, .inl bs))]) 0 0 := by
  refine bodyJ (by decide +kernel) (Nat.le_of_ble_eq_true rfl) (fun p e s m args below meth c ls A ZZ => ?_)
  obtain ⟨FX, hr, hlk, hK, hP, hD, hS, hA, hz, hnm, hl⟩ := ZZ
  have hl : lv_has ls 2 [(0, .ref t), (1, .ref sa)] := hl
  have hP : va_P D KL [(t, .inr (1, [.ref bt, .int 0, .int ml, .int cn])), (bt, .inl (cB, 16, .inl bs))] s.heap := hP
  refine va_gets FX.1 FX.2.1 hz.1 hS FX.2.2.2.1 (FX.2.2.2.2 _ fl_RJ5_18) (fun _ h9 => h9) dJ5_inflateIfNeededFor_a7421_0 ?_
  refine lv_if_eq (tgt := 21) FX.1 FX.2.1 dJ5_inflateIfNeededFor_a7421_3 (by decide) (fun c_1 => ?_) (fun c_1 => ?_)
  · exact absurd c_1 (by decide)
  · refine lv_aload_n FX.1 FX.2.1 dJ5_inflateIfNeededFor_a7421_6 rfl (lv_at hl 0 rfl) ?_
    refine va_get (D := D) (ci := 1) (v := .int 0) (C := RJ4) (T := TJ4) (N := 4) FX.1 FX.2.1 FX.2.2.2.2 inJ4 FX.2.2.2.1 hK hP 0 rfl rfl 1 (by decide) (FX.2.2.2.2 _ fl_RJ5_22) (fun _ h9 => h9) rfl dJ5_inflateIfNeededFor_a7421_7 ?_
    refine lv_aload_n FX.1 FX.2.1 dJ5_inflateIfNeededFor_a7421_10 rfl (lv_at hl 1 rfl) ?_
    refine c_J (W0 := []) (wr := [(t, .inr (1, [.ref bt, .int 0, .int ml, .int cn])), (bt, .inl (cB, 16, .inl bs))]) (wsN := fun _ => [(t, .inr (1, [.ref bt, .int 0, .int ml, .int cn])), (bt, .inl (cB, 16, .inl bs))]) (va_runV FX ((j_J0_coder_7d493 l D cI cB sa sv sn sf) s.heap.size) (my_cwV FX.2.2.2.2 mi_J0_coder_7d493 ml_RJ5_40 (RMok.mk)) ⟨PJ.blind (zAnd_ok zC_ok zS_ok), (zS_recv hz.2 hS), fun U hU hW => ⟨rfl, my_preJ (zAnd_ok zC_ok zS_ok) ⟨hz.1, hz.2⟩ hS hA hK hP hD [] rfl rfl U hU hW⟩⟩ rfl rfl hl.1 rfl (lv_room (Nat.le_of_ble_eq_true rfl)) dJ5_inflateIfNeededFor_a7421_11 (by decide)) hP hD hS hA [] rfl [0, 1] rfl (by decide) [0, 1] (fun _ => rfl) rfl (fun u1 H locs hp_1 hP hD hS => ?_)
    have hP : va_P D KL [(t, .inr (1, [.ref bt, .int 0, .int ml, .int cn])), (bt, .inl (cB, 16, .inl bs))] H := hP
    have hD : va_D A [(t, .inr (1, [.ref bt, .int 0, .int ml, .int cn])), (bt, .inl (cB, 16, .inl bs))] := hD
    refine W.eq (g2 := F0 m 14 ls [.int 0, .int 0]) rfl ?_
    refine lv_icmp_eq (tgt := 21) FX.1 FX.2.1 dJ5_inflateIfNeededFor_a7421_14 (by decide) (fun c_2 => ?_) (fun c_2 => ?_)
    · exact retJv () FX hr hlk dJ5_inflateIfNeededFor_a7421_21 hP hK hD hS (by decide) (by decide) rfl trivial
    · exact absurd c_2 (by decide)
set_option maxRecDepth 100000 in
set_option maxHeartbeats 4000000 in
theorem j_J0_getBytes_840e7 (l : Launch) (D : va_G) (cI cB : ClassId) (sa sv sn : Nat) (sf : Nat → Int32) (bt : Nat) (bs : Nat → Int32) (hn : sn ≤ 16) (hf : sb_Fit sf) (hb : sb_Fit bs) : JW (S := Nat → Int32) l yJ0_getBytes_840e7 cJ0_getBytes_840e7 4 none ({ frames := 1, cells := 0, slots := 0, locals := 60 } : Room) D cI cB [.ref sa, .ref bt, .int 0, .int 0] [(bt, .inl (cB, 16, .inl bs))] (zAnd zC (zS sa sv sn sf)) (fun u => none) (fun u => sb_Fit u ∧ TL sn u sf) (fun u => [(bt, .inl (cB, 16, .inl u))]) 0 0 := by
  refine bodyJ (by decide +kernel) (Nat.le_of_ble_eq_true rfl) (fun p e s m args below meth c ls A ZZ => ?_)
  obtain ⟨FX, hr, hlk, hK, hP, hD, hS, hA, hz, hnm, hl⟩ := ZZ
  have hl : lv_has ls 4 [(0, .ref sa), (1, .ref bt), (2, .int 0), (3, .int 0)] := hl
  have hP : va_P D KL [(bt, .inl (cB, 16, .inl bs))] s.heap := hP
  refine lv_aload_n FX.1 FX.2.1 dJ0_getBytes_840e7_0 rfl (lv_at hl 0 rfl) ?_
  refine c_J (W0 := []) (wr := [(bt, .inl (cB, 16, .inl bs))]) (wsN := fun _ => [(bt, .inl (cB, 16, .inl bs))]) (va_runV FX ((j_J0_coder_7d493 l D cI cB sa sv sn sf) s.heap.size) (my_cwV FX.2.2.2.2 mi_J0_coder_7d493 ml_RJ0_335 (RMok.mk)) ⟨PJ.blind (zAnd_ok zC_ok zS_ok), (zS_recv hz.2 hS), fun U hU hW => ⟨rfl, my_preJ (zAnd_ok zC_ok zS_ok) ⟨hz.1, hz.2⟩ hS hA hK hP hD [] rfl rfl U hU hW⟩⟩ rfl rfl hl.1 rfl (lv_room (Nat.le_of_ble_eq_true rfl)) dJ0_getBytes_840e7_1 (by decide)) hP hD hS hA [] rfl [0] rfl (by decide) [0] (fun _ => rfl) rfl (fun u1 H locs hp_1 hP hD hS => ?_)
  have hP : va_P D KL [(bt, .inl (cB, 16, .inl bs))] H := hP
  have hD : va_D A [(bt, .inl (cB, 16, .inl bs))] := hD
  refine W.eq (g2 := F0 m 4 ls [.int 0]) rfl ?_
  refine lv_iload_n FX.1 FX.2.1 dJ0_getBytes_840e7_4 rfl (lv_at hl 3 rfl) ?_
  refine lv_icmp_ne (tgt := 28) FX.1 FX.2.1 dJ0_getBytes_840e7_5 (by decide) (fun c_1 => ?_) (fun c_1 => ?_)
  · exact absurd c_1 (by decide)
  · refine lv_aload_n FX.1 FX.2.1 dJ0_getBytes_840e7_8 rfl (lv_at hl 0 rfl) ?_
    refine vk_getf FX.1 FX.2.1 (hz.2).2.2.1 hS FX.2.2.2.1 (FX.2.2.2.2 _ fl_RJ0_9) (fun _ h9 => h9) dJ0_getBytes_840e7_9 ?_
    refine lv_iconst (v := 0) FX.1 FX.2.1 dJ0_getBytes_840e7_12 (by decide) ?_
    refine lv_aload_n FX.1 FX.2.1 dJ0_getBytes_840e7_13 rfl (lv_at hl 1 rfl) ?_
    refine lv_iload_n FX.1 FX.2.1 dJ0_getBytes_840e7_14 rfl (lv_at hl 2 rfl) ?_
    refine lv_iload_n FX.1 FX.2.1 dJ0_getBytes_840e7_15 rfl (lv_at hl 3 rfl) ?_
    refine p_ishl0 FX dJ0_getBytes_840e7_16 ?_
    refine lv_aload_n FX.1 FX.2.1 dJ0_getBytes_840e7_17 rfl (lv_at hl 0 rfl) ?_
    refine vk_getf FX.1 FX.2.1 (hz.2).2.2.1 hS FX.2.2.2.1 (FX.2.2.2.2 _ fl_RJ0_9) (fun _ h9 => h9) dJ0_getBytes_840e7_18 ?_
    refine va_tlen FX.1 FX.2.1 (hz.2).2.2.2 hS (v := nI sn) rfl dJ0_getBytes_840e7_21 ?_
    refine vk_copyt FX.1 FX.2.1 (FX.2.2.1.trans hl.1.symm) FX.2.2.2.1 (FX.2.2.2.2 _ ml_RJ0_212) (FX.2.2.2.2 _ acp_n) (FX.2.2.2.2 _ acp_s) (FX.2.2.2.2 _ acp_i) hK hP hD hS (hz.2).2.2.2 0 1 rfl rfl (by decide) (by decide) (nI_pos (by omega)) (by rw [nI_clamp (by omega)]; show 0 + sn ≤ sn; omega) (by rw [nI_clamp (by omega)]; show 0 + sn ≤ 16; omega) (fun i _ => hf _) (by decide) (by decide) dJ0_getBytes_840e7_22 (fun H locs hP hD hS => ?_)
    have hP : va_P D KL [(bt, .inl (cB, 16, .inl (va_cpy (sf) bs ((0 : Int32).toNatClampNeg) ((0 : Int32).toNatClampNeg) ((nI sn).toNatClampNeg))))] H := hP
    have hD : va_D A [(bt, .inl (cB, 16, .inl (va_cpy (sf) bs ((0 : Int32).toNatClampNeg) ((0 : Int32).toNatClampNeg) ((nI sn).toNatClampNeg))))] := hD
    refine lv_goto (tgt := 43) FX.1 FX.2.1 dJ0_getBytes_840e7_25 (by decide) ?_
    exact retJv (va_cpy (sf) bs ((0 : Int32).toNatClampNeg) ((0 : Int32).toNatClampNeg) ((nI sn).toNatClampNeg)) FX hr hlk dJ0_getBytes_840e7_43 hP hK hD hS (by decide) (by decide) rfl ⟨sb_fitC hf hb, TL_cpyC (by omega)⟩
set_option maxRecDepth 100000 in
set_option maxHeartbeats 4000000 in
theorem j_J5_putStringAt_47b60 (l : Launch) (D : va_G) (cI cB : ClassId) (t bt : Nat) (ml cn : Int32) (bs : Nat → Int32) (sa sv sn : Nat) (sf : Nat → Int32) (hn : sn ≤ 16) (hf : sb_Fit sf) (hb : sb_Fit bs) : JW (S := Nat → Int32) l yJ5_putStringAt_47b60 cJ5_putStringAt_47b60 3 none ({ frames := 2, cells := 0, slots := 0, locals := 83 } : Room) D cI cB [.ref t, .int 0, .ref sa] [(t, .inr (1, [.ref bt, .int 0, .int ml, .int cn])), (bt, .inl (cB, 16, .inl bs))] (zAnd zC (zS sa sv sn sf)) (fun u => none) (fun u => sb_Fit u ∧ TL sn u sf) (fun u => [(t, .inr (1, [.ref bt, .int 0, .int ml, .int cn])), (bt, .inl (cB, 16, .inl u))]) 0 0 := by
  refine bodyJ (by decide +kernel) (Nat.le_of_ble_eq_true rfl) (fun p e s m args below meth c ls A ZZ => ?_)
  obtain ⟨FX, hr, hlk, hK, hP, hD, hS, hA, hz, hnm, hl⟩ := ZZ
  have hl : lv_has ls 3 [(0, .ref t), (1, .int 0), (2, .ref sa)] := hl
  have hP : va_P D KL [(t, .inr (1, [.ref bt, .int 0, .int ml, .int cn])), (bt, .inl (cB, 16, .inl bs))] s.heap := hP
  refine lv_aload_n FX.1 FX.2.1 dJ5_putStringAt_47b60_0 rfl (lv_at hl 0 rfl) ?_
  refine lv_aload_n FX.1 FX.2.1 dJ5_putStringAt_47b60_1 rfl (lv_at hl 2 rfl) ?_
  refine c_J (W0 := [(t, .inr (1, [.ref bt, .int 0, .int ml, .int cn])), (bt, .inl (cB, 16, .inl bs))]) (wr := []) (wsN := fun _ => [(t, .inr (1, [.ref bt, .int 0, .int ml, .int cn])), (bt, .inl (cB, 16, .inl bs))]) (va_runU FX ((j_J5_inflateIfNeededFor_a7421 l D cI cB t bt ml cn bs sa sv sn sf) s.heap.size) (my_cwU FX.2.2.2.2 mu_J5_inflateIfNeededFor_a7421 ml_RJ5_397 (RMok.mk)) ⟨PJ.blind (zAnd_ok zC_ok zS_ok), (my_recv (i0 := 0) (ci := 1) hK hP rfl rfl rfl), fun U hU hW => ⟨rfl, my_preJ (zAnd_ok zC_ok zS_ok) ⟨hz.1, hz.2⟩ hS hA hK hP hD [0, 1] rfl rfl U hU hW⟩⟩ rfl rfl hl.1 rfl (lv_room (Nat.le_of_ble_eq_true rfl)) dJ5_putStringAt_47b60_2 (by decide)) hP hD hS hA [0, 1] rfl [] rfl (by decide) [0, 1] (fun _ => rfl) rfl (fun u1 H locs hp_1 hP hD hS => ?_)
  have hP : va_P D KL [(t, .inr (1, [.ref bt, .int 0, .int ml, .int cn])), (bt, .inl (cB, 16, .inl bs))] H := hP
  have hD : va_D A [(t, .inr (1, [.ref bt, .int 0, .int ml, .int cn])), (bt, .inl (cB, 16, .inl bs))] := hD
  refine W.eq (g2 := F0 m 5 ls []) rfl ?_
  refine lv_aload_n FX.1 FX.2.1 dJ5_putStringAt_47b60_5 rfl (lv_at hl 2 rfl) ?_
  refine lv_aload_n FX.1 FX.2.1 dJ5_putStringAt_47b60_6 rfl (lv_at hl 0 rfl) ?_
  refine va_get (D := D) (ci := 1) (v := .ref bt) (C := RJ4) (T := TJ4) (N := 4) FX.1 FX.2.1 FX.2.2.2.2 inJ4 FX.2.2.2.1 hK hP 0 rfl rfl 0 (by decide) (FX.2.2.2.2 _ fl_RJ5_15) (fun _ h9 => h9) rfl dJ5_putStringAt_47b60_7 ?_
  refine lv_iload_n FX.1 FX.2.1 dJ5_putStringAt_47b60_10 rfl (lv_at hl 1 rfl) ?_
  refine lv_aload_n FX.1 FX.2.1 dJ5_putStringAt_47b60_11 rfl (lv_at hl 0 rfl) ?_
  refine va_get (D := D) (ci := 1) (v := .int 0) (C := RJ4) (T := TJ4) (N := 4) FX.1 FX.2.1 FX.2.2.2.2 inJ4 FX.2.2.2.1 hK hP 0 rfl rfl 1 (by decide) (FX.2.2.2.2 _ fl_RJ5_22) (fun _ h9 => h9) rfl dJ5_putStringAt_47b60_12 ?_
  refine c_J (W0 := [(bt, .inl (cB, 16, .inl bs))]) (wr := [(t, .inr (1, [.ref bt, .int 0, .int ml, .int cn]))]) (wsN := fun u2 => [(t, .inr (1, [.ref bt, .int 0, .int ml, .int cn])), (bt, .inl (cB, 16, .inl u2))]) (va_runV FX ((j_J0_getBytes_840e7 l D cI cB sa sv sn sf bt bs hn hf hb) H.size) (my_cwV FX.2.2.2.2 mi_J0_getBytes_840e7 ml_RJ5_399 (RMok.mk)) ⟨PJ.blind (zAnd_ok zC_ok zS_ok), (zS_recv hz.2 hS), fun U hU hW => ⟨rfl, my_preJ (zAnd_ok zC_ok zS_ok) ⟨hz.1, hz.2⟩ hS hA hK hP hD [1] rfl rfl U hU hW⟩⟩ rfl rfl hl.1 rfl (lv_room (Nat.le_of_ble_eq_true rfl)) dJ5_putStringAt_47b60_15 (by decide)) hP hD hS hA [1] rfl [0] rfl (by decide) [0, 1] (fun _ => rfl) rfl (fun u2 H locs hp_2 hP hD hS => ?_)
  have hP : va_P D KL [(t, .inr (1, [.ref bt, .int 0, .int ml, .int cn])), (bt, .inl (cB, 16, .inl u2))] H := hP
  have hD : va_D A [(t, .inr (1, [.ref bt, .int 0, .int ml, .int cn])), (bt, .inl (cB, 16, .inl u2))] := hD
  refine W.eq (g2 := F0 m 18 ls []) rfl ?_
  exact retJv u2 FX hr hlk dJ5_putStringAt_47b60_18 hP hK hD hS (by decide) (by decide) rfl hp_2
set_option maxRecDepth 100000 in
set_option maxHeartbeats 4000000 in
theorem j_J5_append_cf1ce (l : Launch) (D : va_G) (cI cB : ClassId) (t bt : Nat) (ml : Int32) (bs : Nat → Int32) (sa sv sn : Nat) (sf : Nat → Int32) (hn : sn ≤ 16) (hf : sb_Fit sf) (hb : sb_Fit bs) : JW (S := Nat → Int32) l yJ5_append_cf1ce cJ5_append_cf1ce 3 (some (.object "java/lang/AbstractStringBuilder")) ({ frames := 3, cells := 0, slots := 0, locals := 105 } : Room) D cI cB [.ref t, .ref sa] [(t, .inr (1, [.ref bt, .int 0, .int ml, .int 0])), (bt, .inl (cB, 16, .inl bs))] (zAnd zC (zS sa sv sn sf)) (fun u => some (.ref t)) (fun u => sb_Fit u ∧ TL sn u sf) (fun u => [(t, .inr (1, [.ref bt, .int 0, .int ml, .int (nI sn)])), (bt, .inl (cB, 16, .inl u))]) 0 0 := by
  refine bodyJ (by decide +kernel) (Nat.le_of_ble_eq_true rfl) (fun p e s m args below meth c ls A ZZ => ?_)
  obtain ⟨FX, hr, hlk, hK, hP, hD, hS, hA, hz, hnm, hl⟩ := ZZ
  have hl : lv_has ls 3 [(0, .ref t), (1, .ref sa)] := hl
  have hP : va_P D KL [(t, .inr (1, [.ref bt, .int 0, .int ml, .int 0])), (bt, .inl (cB, 16, .inl bs))] s.heap := hP
  refine lv_aload_n FX.1 FX.2.1 dJ5_append_cf1ce_0 rfl (lv_at hl 1 rfl) ?_
  refine lv_ifnonnull (tgt := 9) FX.1 FX.2.1 dJ5_append_cf1ce_1 (by decide) ?_
  refine lv_aload_n FX.1 FX.2.1 dJ5_append_cf1ce_9 rfl (lv_at hl 1 rfl) ?_
  refine c_J (W0 := []) (wr := [(t, .inr (1, [.ref bt, .int 0, .int ml, .int 0])), (bt, .inl (cB, 16, .inl bs))]) (wsN := fun _ => [(t, .inr (1, [.ref bt, .int 0, .int ml, .int 0])), (bt, .inl (cB, 16, .inl bs))]) (va_runV FX ((j_J0_length_8abf5 l D cI cB sa sv sn sf) s.heap.size) (my_cwV FX.2.2.2.2 mi_J0_length_8abf5 ml_RJ5_32 (RMok.mk)) ⟨PJ.blind (zAnd_ok zC_ok zS_ok), (zS_recv hz.2 hS), fun U hU hW => ⟨rfl, my_preJ (zAnd_ok zC_ok zS_ok) ⟨hz.1, hz.2⟩ hS hA hK hP hD [] rfl rfl U hU hW⟩⟩ rfl rfl hl.1 rfl (lv_room (Nat.le_of_ble_eq_true rfl)) dJ5_append_cf1ce_10 (by decide)) hP hD hS hA [] rfl [0, 1] rfl (by decide) [0, 1] (fun _ => rfl) rfl (fun u1 H locs hp_1 hP hD hS => ?_)
  have hP : va_P D KL [(t, .inr (1, [.ref bt, .int 0, .int ml, .int 0])), (bt, .inl (cB, 16, .inl bs))] H := hP
  have hD : va_D A [(t, .inr (1, [.ref bt, .int 0, .int ml, .int 0])), (bt, .inl (cB, 16, .inl bs))] := hD
  refine W.eq (g2 := F0 m 13 ls [.int (nI sn)]) rfl ?_
  refine lv_istore_n (lv' := [(2, .int (nI sn)), (0, .ref t), (1, .ref sa)]) FX.1 FX.2.1 dJ5_append_cf1ce_13 rfl hl (by decide) rfl (fun ls hl => ?_)
  refine lv_aload_n FX.1 FX.2.1 dJ5_append_cf1ce_14 rfl (lv_at hl 1 rfl) ?_
  refine lv_aload_n FX.1 FX.2.1 dJ5_append_cf1ce_15 rfl (lv_at hl 1 rfl) ?_
  refine va_get (D := D) (ci := 1) (v := .int 0) (C := RJ4) (T := TJ4) (N := 4) FX.1 FX.2.1 FX.2.2.2.2 inJ4 FX.2.2.2.1 hK hP 0 rfl rfl 3 (by decide) (FX.2.2.2.2 _ fl_RJ5_79) (fun _ h9 => h9) rfl dJ5_append_cf1ce_16 ?_
  refine lv_iload_n FX.1 FX.2.1 dJ5_append_cf1ce_19 rfl (lv_at hl 0 rfl) ?_
  refine lv_iadd FX.1 FX.2.1 dJ5_append_cf1ce_20 ?_
  refine W.eq (g2 := F0 m 21 ls [.int (nI sn), .ref t]) (by rw [Int32.zero_add]) ?_
  refine c_J (W0 := [(t, .inr (1, [.ref bt, .int 0, .int ml, .int 0])), (bt, .inl (cB, 16, .inl bs))]) (wr := []) (wsN := fun _ => [(t, .inr (1, [.ref bt, .int 0, .int ml, .int 0])), (bt, .inl (cB, 16, .inl bs))]) (va_runU FX ((j_J5_ensureCapacityInternal_d00df l D cI cB t bt ml 0 bs (nI sn) (nI16 hn)) H.size) (my_cwU FX.2.2.2.2 mu_J5_ensureCapacityInternal_d00df ml_RJ5_100 (RMok.mk)) ⟨PJ.blind zT_ok, (my_recv (i0 := 0) (ci := 1) hK hP rfl rfl rfl), fun U hU hW => ⟨rfl, my_preJ zT_ok trivial hS hA hK hP hD [0, 1] rfl rfl U hU hW⟩⟩ rfl rfl hl.1 rfl (lv_room (Nat.le_of_ble_eq_true rfl)) dJ5_append_cf1ce_21 (by decide)) hP hD hS hA [0, 1] rfl [] rfl (by decide) [0, 1] (fun _ => rfl) rfl (fun u2 H locs hp_2 hP hD hS => ?_)
  have hP : va_P D KL [(t, .inr (1, [.ref bt, .int 0, .int ml, .int 0])), (bt, .inl (cB, 16, .inl bs))] H := hP
  have hD : va_D A [(t, .inr (1, [.ref bt, .int 0, .int ml, .int 0])), (bt, .inl (cB, 16, .inl bs))] := hD
  refine W.eq (g2 := F0 m 24 ls []) rfl ?_
  refine lv_aload_n FX.1 FX.2.1 dJ5_append_cf1ce_24 rfl (lv_at hl 1 rfl) ?_
  refine lv_aload_n FX.1 FX.2.1 dJ5_append_cf1ce_25 rfl (lv_at hl 1 rfl) ?_
  refine va_get (D := D) (ci := 1) (v := .int 0) (C := RJ4) (T := TJ4) (N := 4) FX.1 FX.2.1 FX.2.2.2.2 inJ4 FX.2.2.2.1 hK hP 0 rfl rfl 3 (by decide) (FX.2.2.2.2 _ fl_RJ5_79) (fun _ h9 => h9) rfl dJ5_append_cf1ce_26 ?_
  refine lv_aload_n FX.1 FX.2.1 dJ5_append_cf1ce_29 rfl (lv_at hl 2 rfl) ?_
  refine c_J (W0 := [(t, .inr (1, [.ref bt, .int 0, .int ml, .int 0])), (bt, .inl (cB, 16, .inl bs))]) (wr := []) (wsN := fun u3 => [(t, .inr (1, [.ref bt, .int 0, .int ml, .int 0])), (bt, .inl (cB, 16, .inl u3))]) (va_runU FX ((j_J5_putStringAt_47b60 l D cI cB t bt ml 0 bs sa sv sn sf hn hf hb) H.size) (my_cwU FX.2.2.2.2 mu_J5_putStringAt_47b60 ml_RJ5_208 (RMok.mk)) ⟨PJ.blind (zAnd_ok zC_ok zS_ok), (my_recv (i0 := 0) (ci := 1) hK hP rfl rfl rfl), fun U hU hW => ⟨rfl, my_preJ (zAnd_ok zC_ok zS_ok) ⟨hz.1, hz.2⟩ hS hA hK hP hD [0, 1] rfl rfl U hU hW⟩⟩ rfl rfl hl.1 rfl (lv_room (Nat.le_of_ble_eq_true rfl)) dJ5_append_cf1ce_30 (by decide)) hP hD hS hA [0, 1] rfl [] rfl (by decide) [0, 1] (fun _ => rfl) rfl (fun u3 H locs hp_3 hP hD hS => ?_)
  have hP : va_P D KL [(t, .inr (1, [.ref bt, .int 0, .int ml, .int 0])), (bt, .inl (cB, 16, .inl u3))] H := hP
  have hD : va_D A [(t, .inr (1, [.ref bt, .int 0, .int ml, .int 0])), (bt, .inl (cB, 16, .inl u3))] := hD
  refine W.eq (g2 := F0 m 33 ls []) rfl ?_
  refine lv_aload_n FX.1 FX.2.1 dJ5_append_cf1ce_33 rfl (lv_at hl 1 rfl) ?_
  refine lv_dup FX.1 FX.2.1 dJ5_append_cf1ce_34 rfl ?_
  refine va_get (D := D) (ci := 1) (v := .int 0) (C := RJ4) (T := TJ4) (N := 4) FX.1 FX.2.1 FX.2.2.2.2 inJ4 FX.2.2.2.1 hK hP 0 rfl rfl 3 (by decide) (FX.2.2.2.2 _ fl_RJ5_79) (fun _ h9 => h9) rfl dJ5_append_cf1ce_35 ?_
  refine lv_iload_n FX.1 FX.2.1 dJ5_append_cf1ce_38 rfl (lv_at hl 0 rfl) ?_
  refine lv_iadd FX.1 FX.2.1 dJ5_append_cf1ce_39 ?_
  refine W.eq (g2 := F0 m 40 ls [.int (nI sn), .ref t]) (by rw [Int32.zero_add]) ?_
  refine p_put (wsN := [(t, .inr (1, [.ref bt, .int 0, .int ml, .int (nI sn)])), (bt, .inl (cB, 16, .inl u3))]) (ci := 1) (v := .int (nI sn)) (ty := .int) FX inJ4 tyJ4_ok nmJ4 hK hP hD hS 0 rfl rfl 3 (by decide) (FX.2.2.2.2 _ fl_RJ5_79) rfl (by decide +kernel) rfl rfl (Nat.le_of_ble_eq_true rfl) dJ5_append_cf1ce_40 rfl (fun H locs hP hD hS => ?_)
  refine lv_aload_n FX.1 FX.2.1 dJ5_append_cf1ce_43 rfl (lv_at hl 1 rfl) ?_
  exact retJa u3 FX hr (Or.inl ⟨_, rfl⟩) hlk dJ5_append_cf1ce_44 hP hK hD hS (by decide) (by decide) rfl hp_3
set_option maxRecDepth 100000 in
set_option maxHeartbeats 4000000 in
theorem j_J4_append_15ec4 (l : Launch) (D : va_G) (cI cB : ClassId) (t bt : Nat) (ml : Int32) (bs : Nat → Int32) (sa sv sn : Nat) (sf : Nat → Int32) (hn : sn ≤ 16) (hf : sb_Fit sf) (hb : sb_Fit bs) : JW (S := Nat → Int32) l yJ4_append_15ec4 cJ4_append_15ec4 2 (some (.object "java/lang/StringBuilder")) ({ frames := 4, cells := 0, slots := 0, locals := 127 } : Room) D cI cB [.ref t, .ref sa] [(t, .inr (1, [.ref bt, .int 0, .int ml, .int 0])), (bt, .inl (cB, 16, .inl bs))] (zAnd zC (zS sa sv sn sf)) (fun u => some (.ref t)) (fun u => sb_Fit u ∧ TL sn u sf) (fun u => [(t, .inr (1, [.ref bt, .int 0, .int ml, .int (nI sn)])), (bt, .inl (cB, 16, .inl u))]) 0 0 := by
  refine bodyJ (by decide +kernel) (Nat.le_of_ble_eq_true rfl) (fun p e s m args below meth c ls A ZZ => ?_)
  obtain ⟨FX, hr, hlk, hK, hP, hD, hS, hA, hz, hnm, hl⟩ := ZZ
  have hl : lv_has ls 2 [(0, .ref t), (1, .ref sa)] := hl
  have hP : va_P D KL [(t, .inr (1, [.ref bt, .int 0, .int ml, .int 0])), (bt, .inl (cB, 16, .inl bs))] s.heap := hP
  refine lv_aload_n FX.1 FX.2.1 dJ4_append_15ec4_0 rfl (lv_at hl 0 rfl) ?_
  refine lv_aload_n FX.1 FX.2.1 dJ4_append_15ec4_1 rfl (lv_at hl 1 rfl) ?_
  refine c_J (W0 := [(t, .inr (1, [.ref bt, .int 0, .int ml, .int 0])), (bt, .inl (cB, 16, .inl bs))]) (wr := []) (wsN := fun u1 => [(t, .inr (1, [.ref bt, .int 0, .int ml, .int (nI sn)])), (bt, .inl (cB, 16, .inl u1))]) (va_runSU (hK.1 1 _ rfl).2 FX ((j_J5_append_cf1ce l D cI cB t bt ml bs sa sv sn sf hn hf hb) s.heap.size) (my_cwSU FX.2.2.2.2 mp_J5_append_cf1ce ml_RJ4_29 (RMok.mk)) ⟨PJ.blind (zAnd_ok zC_ok zS_ok), (my_recv (i0 := 0) (ci := 1) hK hP rfl rfl rfl), fun U hU hW => ⟨rfl, my_preJ (zAnd_ok zC_ok zS_ok) ⟨hz.1, hz.2⟩ hS hA hK hP hD [0, 1] rfl rfl U hU hW⟩⟩ rfl rfl hl.1 rfl (lv_room (Nat.le_of_ble_eq_true rfl)) dJ4_append_15ec4_2 (by decide)) hP hD hS hA [0, 1] rfl [] rfl (by decide) [0, 1] (fun _ => rfl) rfl (fun u1 H locs hp_1 hP hD hS => ?_)
  have hP : va_P D KL [(t, .inr (1, [.ref bt, .int 0, .int ml, .int (nI sn)])), (bt, .inl (cB, 16, .inl u1))] H := hP
  have hD : va_D A [(t, .inr (1, [.ref bt, .int 0, .int ml, .int (nI sn)])), (bt, .inl (cB, 16, .inl u1))] := hD
  refine W.eq (g2 := F0 m 5 ls [.ref t]) rfl ?_
  refine lv_pop FX.1 FX.2.1 dJ4_append_15ec4_5 rfl ?_
  refine lv_aload_n FX.1 FX.2.1 dJ4_append_15ec4_6 rfl (lv_at hl 0 rfl) ?_
  exact retJa u1 FX hr (Or.inl ⟨_, rfl⟩) hlk dJ4_append_15ec4_7 hP hK hD hS (by decide) (by decide) rfl hp_1

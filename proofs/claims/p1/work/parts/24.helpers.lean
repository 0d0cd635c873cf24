set_option maxRecDepth 20000 in
theorem ml_RL_7 : Cond.methodLink RL 7 yX0_fill ∈ bigW := bt3 138 rfl rfl
set_option maxRecDepth 20000 in
theorem mi_X0_fill : MIv RX0 yX0_fill cX0_fill 4 (some .int) 2 := ⟨⟨bt3 141 rfl rfl, bt1 1 rfl rfl, by decide, by decide, by decide +kernel⟩, bt3 139 rfl rfl, bt3 140 rfl rfl⟩
set_option maxRecDepth 20000 in
theorem cl_RL_19 : Cond.classLink RL 19 "java/lang/IndexOutOfBoundsException" ∈ bigW := bt3 136 rfl rfl
set_option maxRecDepth 20000 in
theorem cl_RL_21 : Cond.classLink RL 21 "java/lang/IllegalArgumentException" ∈ bigW := bt3 137 rfl rfl
set_option maxRecDepth 20000 in
theorem ml_RL_23 : Cond.methodLink RL 23 yX0_empty ∈ bigW := bt3 149 rfl rfl
set_option maxRecDepth 20000 in
theorem mi_X0_empty : MIv RX0 yX0_empty cX0_empty 3 (some .int) 1 := ⟨⟨bt3 152 rfl rfl, bt1 1 rfl rfl, by decide, by decide, by decide +kernel⟩, bt3 150 rfl rfl, bt3 151 rfl rfl⟩
set_option maxRecDepth 20000 in
theorem ml_RL_27 : Cond.methodLink RL 27 yX0_fillMaybe ∈ bigW := bt3 156 rfl rfl
set_option maxRecDepth 20000 in
theorem mi_X0_fillMaybe : MIv RX0 yX0_fillMaybe cX0_fillMaybe 4 (some .int) 3 := ⟨⟨bt3 159 rfl rfl, bt1 1 rfl rfl, by decide, by decide, by decide +kernel⟩, bt3 157 rfl rfl, bt3 158 rfl rfl⟩
set_option maxRecDepth 20000 in
theorem ml_RL_31 : Cond.methodLink RL 31 yX0_copy ∈ bigW := bt3 163 rfl rfl
set_option maxRecDepth 20000 in
theorem mi_X0_copy : MIv RX0 yX0_copy cX0_copy 3 (some .int) 2 := ⟨⟨bt3 166 rfl rfl, bt1 1 rfl rfl, by decide, by decide, by decide +kernel⟩, bt3 164 rfl rfl, bt3 165 rfl rfl⟩
set_option maxRecDepth 20000 in
theorem ml_RL_34 : Cond.methodLink RL 34 yX0_map ∈ bigW := bt3 170 rfl rfl
set_option maxRecDepth 20000 in
theorem mi_X0_map : MIv RX0 yX0_map cX0_map 5 (some .int) 4 := ⟨⟨bt3 173 rfl rfl, bt1 1 rfl rfl, by decide, by decide, by decide +kernel⟩, bt3 171 rfl rfl, bt3 172 rfl rfl⟩
set_option maxRecDepth 20000 in
theorem ml_RL_38 : Cond.methodLink RL 38 yX0_turn ∈ bigW := bt3 177 rfl rfl
set_option maxRecDepth 20000 in
theorem mi_X0_turn : MIv RX0 yX0_turn cX0_turn 5 (some .int) 4 := ⟨⟨bt3 180 rfl rfl, bt1 1 rfl rfl, by decide, by decide, by decide +kernel⟩, bt3 178 rfl rfl, bt3 179 rfl rfl⟩
set_option maxRecDepth 20000 in
theorem ml_RL_41 : Cond.methodLink RL 41 yX0_filter ∈ bigW := bt3 184 rfl rfl
set_option maxRecDepth 20000 in
theorem mi_X0_filter : MIv RX0 yX0_filter cX0_filter 5 (some .int) 4 := ⟨⟨bt3 187 rfl rfl, bt1 1 rfl rfl, by decide, by decide, by decide +kernel⟩, bt3 185 rfl rfl, bt3 186 rfl rfl⟩
set_option maxRecDepth 20000 in
theorem ml_RL_44 : Cond.methodLink RL 44 yX0_or ∈ bigW := bt3 191 rfl rfl
set_option maxRecDepth 20000 in
theorem mi_X0_or : MIv RX0 yX0_or cX0_or 4 (some .int) 3 := ⟨⟨bt3 194 rfl rfl, bt1 1 rfl rfl, by decide, by decide, by decide +kernel⟩, bt3 192 rfl rfl, bt3 193 rfl rfl⟩
set_option maxRecDepth 20000 in
theorem ml_RL_48 : Cond.methodLink RL 48 yX0_wrap ∈ bigW := bt3 198 rfl rfl
set_option maxRecDepth 20000 in
theorem mi_X0_wrap : MIv RX0 yX0_wrap cX0_wrap 3 (some .int) 2 := ⟨⟨bt3 201 rfl rfl, bt1 1 rfl rfl, by decide, by decide, by decide +kernel⟩, bt3 199 rfl rfl, bt3 200 rfl rfl⟩
set_option maxRecDepth 20000 in
theorem ml_RL_51 : Cond.methodLink RL 51 yX0_both ∈ bigW := bt3 205 rfl rfl
set_option maxRecDepth 20000 in
theorem mi_X0_both : MIv RX0 yX0_both cX0_both 7 (some .int) 5 := ⟨⟨bt3 208 rfl rfl, bt1 1 rfl rfl, by decide, by decide, by decide +kernel⟩, bt3 206 rfl rfl, bt3 207 rfl rfl⟩
set_option maxRecDepth 20000 in
theorem ml_RL_55 : Cond.methodLink RL 55 yX0_take ∈ bigW := bt3 212 rfl rfl
set_option maxRecDepth 20000 in
theorem mi_X0_take : MIv RX0 yX0_take cX0_take 2 (some .int) 1 := ⟨⟨bt3 215 rfl rfl, bt1 1 rfl rfl, by decide, by decide, by decide +kernel⟩, bt3 213 rfl rfl, bt3 214 rfl rfl⟩
set_option maxRecDepth 20000 in
theorem ml_RL_58 : Cond.methodLink RL 58 yX0_takeOrLeave ∈ bigW := bt3 223 rfl rfl
set_option maxRecDepth 20000 in
theorem mi_X0_takeOrLeave : MIv RX0 yX0_takeOrLeave cX0_takeOrLeave 2 (some .int) 1 := ⟨⟨bt3 226 rfl rfl, bt1 1 rfl rfl, by decide, by decide, by decide +kernel⟩, bt3 224 rfl rfl, bt3 225 rfl rfl⟩
set_option maxRecDepth 20000 in
theorem ml_RL_61 : Cond.methodLink RL 61 yX0_get ∈ bigW := bt3 230 rfl rfl
set_option maxRecDepth 20000 in
theorem mi_X0_get : MIv RX0 yX0_get cX0_get 2 (some .int) 1 := ⟨⟨bt3 233 rfl rfl, bt1 1 rfl rfl, by decide, by decide, by decide +kernel⟩, bt3 231 rfl rfl, bt3 232 rfl rfl⟩
set_option maxRecDepth 20000 in
theorem ml_RL_64 : Cond.methodLink RL 64 yX0_orElse ∈ bigW := bt4 1 rfl rfl
set_option maxRecDepth 20000 in
theorem mi_X0_orElse : MIv RX0 yX0_orElse cX0_orElse 3 (some .int) 2 := ⟨⟨bt4 4 rfl rfl, bt1 1 rfl rfl, by decide, by decide, by decide +kernel⟩, bt4 2 rfl rfl, bt4 3 rfl rfl⟩
set_option maxRecDepth 20000 in
theorem ml_RL_67 : Cond.methodLink RL 67 yX0_orElseGet ∈ bigW := bt4 8 rfl rfl
set_option maxRecDepth 20000 in
theorem mi_X0_orElseGet : MIv RX0 yX0_orElseGet cX0_orElseGet 4 (some .int) 2 := ⟨⟨bt4 11 rfl rfl, bt1 1 rfl rfl, by decide, by decide, by decide +kernel⟩, bt4 9 rfl rfl, bt4 10 rfl rfl⟩
set_option maxRecDepth 20000 in
theorem ml_RL_70 : Cond.methodLink RL 70 yX0_orElseThrow ∈ bigW := bt4 16 rfl rfl
set_option maxRecDepth 20000 in
theorem mi_X0_orElseThrow : MIv RX0 yX0_orElseThrow cX0_orElseThrow 2 (some .int) 1 := ⟨⟨bt4 19 rfl rfl, bt1 1 rfl rfl, by decide, by decide, by decide +kernel⟩, bt4 17 rfl rfl, bt4 18 rfl rfl⟩
set_option maxRecDepth 20000 in
theorem cl_RL_73 : Cond.classLink RL 73 "java/lang/IllegalStateException" ∈ bigW := bt4 15 rfl rfl
set_option maxRecDepth 20000 in
theorem ml_RL_75 : Cond.methodLink RL 75 yX0_isFull ∈ bigW := bt4 39 rfl rfl
set_option maxRecDepth 20000 in
theorem mi_X0_isFull : MIv RX0 yX0_isFull cX0_isFull 2 (some .boolean) 1 := ⟨⟨bt4 42 rfl rfl, bt1 1 rfl rfl, by decide, by decide, by decide +kernel⟩, bt4 40 rfl rfl, bt4 41 rfl rfl⟩
set_option maxRecDepth 20000 in
theorem ml_RL_79 : Cond.methodLink RL 79 yX0_isEmpty ∈ bigW := bt4 46 rfl rfl
set_option maxRecDepth 20000 in
theorem mi_X0_isEmpty : MIv RX0 yX0_isEmpty cX0_isEmpty 2 (some .boolean) 1 := ⟨⟨bt4 49 rfl rfl, bt1 1 rfl rfl, by decide, by decide, by decide +kernel⟩, bt4 47 rfl rfl, bt4 48 rfl rfl⟩
set_option maxRecDepth 20000 in
theorem ml_RL_82 : Cond.methodLink RL 82 yX0_isLike ∈ bigW := bt4 53 rfl rfl
set_option maxRecDepth 20000 in
theorem ml_RL_86 : Cond.methodLink RL 86 yX0_code ∈ bigW := bt4 57 rfl rfl
set_option maxRecDepth 20000 in
theorem mi_X0_code : MIv RX0 yX0_code cX0_code 2 (some .int) 1 := ⟨⟨bt4 60 rfl rfl, bt1 1 rfl rfl, by decide, by decide, by decide +kernel⟩, bt4 58 rfl rfl, bt4 59 rfl rfl⟩
set_option maxRecDepth 20000 in
theorem ml_RL_89 : Cond.methodLink RL 89 yX0_fillPlain ∈ bigW := bt4 64 rfl rfl
set_option maxRecDepth 20000 in
theorem mi_X0_fillPlain : MIv RX0 yX0_fillPlain cX0_fillPlain 4 (some .int) 2 := ⟨⟨bt4 67 rfl rfl, bt1 1 rfl rfl, by decide, by decide, by decide +kernel⟩, bt4 65 rfl rfl, bt4 66 rfl rfl⟩
set_option maxRecDepth 20000 in
theorem ml_RL_92 : Cond.methodLink RL 92 yX0_emptyPlain ∈ bigW := bt4 75 rfl rfl
set_option maxRecDepth 20000 in
theorem mi_X0_emptyPlain : MIv RX0 yX0_emptyPlain cX0_emptyPlain 3 (some .int) 1 := ⟨⟨bt4 78 rfl rfl, bt1 1 rfl rfl, by decide, by decide, by decide +kernel⟩, bt4 76 rfl rfl, bt4 77 rfl rfl⟩
set_option maxRecDepth 20000 in
theorem ml_RL_95 : Cond.methodLink RL 95 yX0_getPlain ∈ bigW := bt4 82 rfl rfl
set_option maxRecDepth 20000 in
theorem mi_X0_getPlain : MIv RX0 yX0_getPlain cX0_getPlain 2 (some .int) 1 := ⟨⟨bt4 85 rfl rfl, bt1 1 rfl rfl, by decide, by decide, by decide +kernel⟩, bt4 83 rfl rfl, bt4 84 rfl rfl⟩
set_option maxRecDepth 20000 in
theorem ml_RL_98 : Cond.methodLink RL 98 yX0_orElsePlain ∈ bigW := bt4 89 rfl rfl
set_option maxRecDepth 20000 in
theorem mi_X0_orElsePlain : MIv RX0 yX0_orElsePlain cX0_orElsePlain 3 (some .int) 2 := ⟨⟨bt4 92 rfl rfl, bt1 1 rfl rfl, by decide, by decide, by decide +kernel⟩, bt4 90 rfl rfl, bt4 91 rfl rfl⟩
set_option maxRecDepth 20000 in
theorem ml_RL_101 : Cond.methodLink RL 101 yX0_isFullPlain ∈ bigW := bt4 96 rfl rfl
set_option maxRecDepth 20000 in
theorem mi_X0_isFullPlain : MIv RX0 yX0_isFullPlain cX0_isFullPlain 2 (some .boolean) 1 := ⟨⟨bt4 99 rfl rfl, bt1 1 rfl rfl, by decide, by decide, by decide +kernel⟩, bt4 97 rfl rfl, bt4 98 rfl rfl⟩
set_option maxRecDepth 20000 in
theorem ml_RL_104 : Cond.methodLink RL 104 yX0_takePlain ∈ bigW := bt4 103 rfl rfl
set_option maxRecDepth 20000 in
theorem mi_X0_takePlain : MIv RX0 yX0_takePlain cX0_takePlain 2 (some .int) 1 := ⟨⟨bt4 106 rfl rfl, bt1 1 rfl rfl, by decide, by decide, by decide +kernel⟩, bt4 104 rfl rfl, bt4 105 rfl rfl⟩
set_option maxRecDepth 20000 in
theorem ml_RL_107 : Cond.methodLink RL 107 yX0_toPlain ∈ bigW := bt4 110 rfl rfl
set_option maxRecDepth 20000 in
theorem mi_X0_toPlain : MIv RX0 yX0_toPlain cX0_toPlain 3 (some .int) 2 := ⟨⟨bt4 113 rfl rfl, bt1 1 rfl rfl, by decide, by decide, by decide +kernel⟩, bt4 111 rfl rfl, bt4 112 rfl rfl⟩
set_option maxRecDepth 20000 in
theorem ml_RL_110 : Cond.methodLink RL 110 yX0_fromPlain ∈ bigW := bt4 117 rfl rfl
set_option maxRecDepth 20000 in
theorem mi_X0_fromPlain : MIv RX0 yX0_fromPlain cX0_fromPlain 3 (some .int) 2 := ⟨⟨bt4 120 rfl rfl, bt1 1 rfl rfl, by decide, by decide, by decide +kernel⟩, bt4 118 rfl rfl, bt4 119 rfl rfl⟩
set_option maxRecDepth 20000 in
theorem ml_RL_113 : Cond.methodLink RL 113 yX0_areLike ∈ bigW := bt4 124 rfl rfl
set_option maxRecDepth 20000 in
theorem ml_RL_116 : Cond.methodLink RL 116 yX0_compare ∈ bigW := bt4 128 rfl rfl
set_option maxRecDepth 20000 in
theorem ml_RL_119 : Cond.methodLink RL 119 yX0_codes ∈ bigW := bt4 132 rfl rfl
set_option maxRecDepth 20000 in
theorem ml_RL_122 : Cond.methodLink RL 122 yX0_codeOf ∈ bigW := bt4 136 rfl rfl
set_option maxRecDepth 20000 in
theorem mi_X0_codeOf : MIv RX0 yX0_codeOf cX0_codeOf 2 (some .int) 1 := ⟨⟨bt4 139 rfl rfl, bt1 1 rfl rfl, by decide, by decide, by decide +kernel⟩, bt4 137 rfl rfl, bt4 138 rfl rfl⟩
set_option maxRecDepth 20000 in
theorem ml_RL_125 : Cond.methodLink RL 125 yX0_must ∈ bigW := bt4 143 rfl rfl
set_option maxRecDepth 20000 in
theorem mi_X0_must : MIv RX0 yX0_must cX0_must 2 (some .int) 1 := ⟨⟨bt4 146 rfl rfl, bt1 1 rfl rfl, by decide, by decide, by decide +kernel⟩, bt4 144 rfl rfl, bt4 145 rfl rfl⟩
set_option maxRecDepth 20000 in
theorem ml_RL_128 : Cond.methodLink RL 128 yX0_mustElse ∈ bigW := bt4 150 rfl rfl
set_option maxRecDepth 20000 in
theorem mi_X0_mustElse : MIv RX0 yX0_mustElse cX0_mustElse 3 (some .int) 2 := ⟨⟨bt4 153 rfl rfl, bt1 1 rfl rfl, by decide, by decide, by decide +kernel⟩, bt4 151 rfl rfl, bt4 152 rfl rfl⟩
set_option maxRecDepth 20000 in
theorem ml_RL_131 : Cond.methodLink RL 131 yX0_isNothing ∈ bigW := bt4 157 rfl rfl
set_option maxRecDepth 20000 in
theorem mi_X0_isNothing : MIv RX0 yX0_isNothing cX0_isNothing 2 (some .boolean) 1 := ⟨⟨bt4 160 rfl rfl, bt1 1 rfl rfl, by decide, by decide, by decide +kernel⟩, bt4 158 rfl rfl, bt4 159 rfl rfl⟩
set_option maxRecDepth 20000 in
theorem ml_RL_134 : Cond.methodLink RL 134 yX0_isSomething ∈ bigW := bt4 164 rfl rfl
set_option maxRecDepth 20000 in
theorem mi_X0_isSomething : MIv RX0 yX0_isSomething cX0_isSomething 2 (some .boolean) 1 := ⟨⟨bt4 167 rfl rfl, bt1 1 rfl rfl, by decide, by decide, by decide +kernel⟩, bt4 165 rfl rfl, bt4 166 rfl rfl⟩
set_option maxRecDepth 20000 in
theorem ml_RL_137 : Cond.methodLink RL 137 yX0_told ∈ bigW := bt4 171 rfl rfl
set_option maxRecDepth 20000 in
theorem mi_X0_told : MIv RX0 yX0_told cX0_told 2 (some (.object "java/lang/String")) 1 := ⟨⟨bt4 174 rfl rfl, bt1 1 rfl rfl, by decide, by decide, by decide +kernel⟩, bt4 172 rfl rfl, bt4 173 rfl rfl⟩
set_option maxRecDepth 20000 in
theorem ml_RL_145 : Cond.methodLink RL 145 yX0_place ∈ bigW := bt4 179 rfl rfl
set_option maxRecDepth 20000 in
theorem mi_X0_place : MIv RX0 yX0_place cX0_place 3 (some .int) 2 := ⟨⟨bt4 182 rfl rfl, bt1 1 rfl rfl, by decide, by decide, by decide +kernel⟩, bt4 180 rfl rfl, bt4 181 rfl rfl⟩
set_option maxRecDepth 20000 in
theorem ml_RL_148 : Cond.methodLink RL 148 yX0_house ∈ bigW := bt4 188 rfl rfl
theorem dL_areLike_0 : decode cL_areLike 0 = .ok (.aload_n 3, 1) := by decide +kernel
theorem dL_areLike_1 : decode cL_areLike 1 = .ok (.aload_n 0, 1) := by decide +kernel
theorem dL_areLike_2 : decode cL_areLike 2 = .ok (.iload_n 1, 1) := by decide +kernel
theorem dL_areLike_3 : decode cL_areLike 3 = .ok (.iload_n 2, 1) := by decide +kernel
theorem dL_areLike_4 : decode cL_areLike 4 = .ok (.invokevirtual 113, 3) := by decide +kernel
theorem dL_areLike_7 : decode cL_areLike 7 = .ok (.ifCond .eq 7, 3) := by decide +kernel
theorem dL_areLike_10 : decode cL_areLike 10 = .ok (.lconst 1, 1) := by decide +kernel
theorem dL_areLike_11 : decode cL_areLike 11 = .ok (.goto 4, 3) := by decide +kernel
theorem dL_areLike_14 : decode cL_areLike 14 = .ok (.lconst 0, 1) := by decide +kernel
theorem dL_areLike_15 : decode cL_areLike 15 = .ok (.putfield 13, 3) := by decide +kernel
theorem dL_areLike_18 : decode cL_areLike 18 = .ok (.goto 7, 3) := by decide +kernel
theorem dL_areLike_21 : decode cL_areLike 21 = .ok (.astore 4, 2) := by decide +kernel
theorem dL_areLike_23 : decode cL_areLike 23 = .ok (.iconst 1, 1) := by decide +kernel
theorem dL_areLike_24 : decode cL_areLike 24 = .ok (.ireturn, 1) := by decide +kernel
theorem dL_areLike_25 : decode cL_areLike 25 = .ok (.iconst 0, 1) := by decide +kernel
theorem dL_areLike_26 : decode cL_areLike 26 = .ok (.ireturn, 1) := by decide +kernel
theorem dL_both_0 : decode cL_both 0 = .ok (.aload 6, 2) := by decide +kernel
theorem dL_both_2 : decode cL_both 2 = .ok (.aload_n 0, 1) := by decide +kernel
theorem dL_both_3 : decode cL_both 3 = .ok (.iload_n 1, 1) := by decide +kernel
theorem dL_both_4 : decode cL_both 4 = .ok (.iload_n 2, 1) := by decide +kernel
theorem dL_both_5 : decode cL_both 5 = .ok (.iload_n 3, 1) := by decide +kernel
theorem dL_both_6 : decode cL_both 6 = .ok (.iload 4, 2) := by decide +kernel
theorem dL_both_8 : decode cL_both 8 = .ok (.iload 5, 2) := by decide +kernel
theorem dL_both_10 : decode cL_both 10 = .ok (.invokevirtual 51, 3) := by decide +kernel
theorem dL_both_13 : decode cL_both 13 = .ok (.i2l, 1) := by decide +kernel
theorem dL_both_14 : decode cL_both 14 = .ok (.putfield 13, 3) := by decide +kernel
theorem dL_both_17 : decode cL_both 17 = .ok (.goto 11, 3) := by decide +kernel
theorem dL_both_20 : decode cL_both 20 = .ok (.astore 7, 2) := by decide +kernel
theorem dL_both_22 : decode cL_both 22 = .ok (.iconst 1, 1) := by decide +kernel
theorem dL_both_23 : decode cL_both 23 = .ok (.ireturn, 1) := by decide +kernel
theorem dL_both_24 : decode cL_both 24 = .ok (.astore 7, 2) := by decide +kernel
theorem dL_both_26 : decode cL_both 26 = .ok (.iconst 2, 1) := by decide +kernel
theorem dL_both_27 : decode cL_both 27 = .ok (.ireturn, 1) := by decide +kernel
theorem dL_both_28 : decode cL_both 28 = .ok (.iconst 0, 1) := by decide +kernel
theorem dL_both_29 : decode cL_both 29 = .ok (.ireturn, 1) := by decide +kernel
theorem dL_code_0 : decode cL_code 0 = .ok (.aload_n 2, 1) := by decide +kernel
theorem dL_code_1 : decode cL_code 1 = .ok (.aload_n 0, 1) := by decide +kernel
theorem dL_code_2 : decode cL_code 2 = .ok (.iload_n 1, 1) := by decide +kernel
theorem dL_code_3 : decode cL_code 3 = .ok (.invokevirtual 86, 3) := by decide +kernel
theorem dL_code_6 : decode cL_code 6 = .ok (.i2l, 1) := by decide +kernel
theorem dL_code_7 : decode cL_code 7 = .ok (.putfield 13, 3) := by decide +kernel
theorem dL_code_10 : decode cL_code 10 = .ok (.goto 6, 3) := by decide +kernel
theorem dL_code_13 : decode cL_code 13 = .ok (.astore_n 3, 1) := by decide +kernel
theorem dL_code_14 : decode cL_code 14 = .ok (.iconst 1, 1) := by decide +kernel
theorem dL_code_15 : decode cL_code 15 = .ok (.ireturn, 1) := by decide +kernel
theorem dL_code_16 : decode cL_code 16 = .ok (.iconst 0, 1) := by decide +kernel
theorem dL_code_17 : decode cL_code 17 = .ok (.ireturn, 1) := by decide +kernel
theorem dL_codeOf_0 : decode cL_codeOf 0 = .ok (.aload_n 2, 1) := by decide +kernel
theorem dL_codeOf_1 : decode cL_codeOf 1 = .ok (.aload_n 0, 1) := by decide +kernel
theorem dL_codeOf_2 : decode cL_codeOf 2 = .ok (.iload_n 1, 1) := by decide +kernel
theorem dL_codeOf_3 : decode cL_codeOf 3 = .ok (.invokevirtual 122, 3) := by decide +kernel
theorem dL_codeOf_6 : decode cL_codeOf 6 = .ok (.i2l, 1) := by decide +kernel
theorem dL_codeOf_7 : decode cL_codeOf 7 = .ok (.putfield 13, 3) := by decide +kernel
theorem dL_codeOf_10 : decode cL_codeOf 10 = .ok (.goto 6, 3) := by decide +kernel
theorem dL_codeOf_13 : decode cL_codeOf 13 = .ok (.astore_n 3, 1) := by decide +kernel
theorem dL_codeOf_14 : decode cL_codeOf 14 = .ok (.iconst 1, 1) := by decide +kernel
theorem dL_codeOf_15 : decode cL_codeOf 15 = .ok (.ireturn, 1) := by decide +kernel
theorem dL_codeOf_16 : decode cL_codeOf 16 = .ok (.iconst 0, 1) := by decide +kernel
theorem dL_codeOf_17 : decode cL_codeOf 17 = .ok (.ireturn, 1) := by decide +kernel
theorem dL_codes_0 : decode cL_codes 0 = .ok (.aload 4, 2) := by decide +kernel
theorem dL_codes_2 : decode cL_codes 2 = .ok (.aload_n 0, 1) := by decide +kernel
theorem dL_codes_3 : decode cL_codes 3 = .ok (.iload_n 1, 1) := by decide +kernel
theorem dL_codes_4 : decode cL_codes 4 = .ok (.iload_n 2, 1) := by decide +kernel
theorem dL_codes_5 : decode cL_codes 5 = .ok (.iload_n 3, 1) := by decide +kernel
theorem dL_codes_6 : decode cL_codes 6 = .ok (.invokevirtual 119, 3) := by decide +kernel
theorem dL_codes_9 : decode cL_codes 9 = .ok (.i2l, 1) := by decide +kernel
theorem dL_codes_10 : decode cL_codes 10 = .ok (.putfield 13, 3) := by decide +kernel
theorem dL_codes_13 : decode cL_codes 13 = .ok (.goto 7, 3) := by decide +kernel
theorem dL_codes_16 : decode cL_codes 16 = .ok (.astore 5, 2) := by decide +kernel
theorem dL_codes_18 : decode cL_codes 18 = .ok (.iconst 1, 1) := by decide +kernel
theorem dL_codes_19 : decode cL_codes 19 = .ok (.ireturn, 1) := by decide +kernel
theorem dL_codes_20 : decode cL_codes 20 = .ok (.iconst 0, 1) := by decide +kernel
theorem dL_codes_21 : decode cL_codes 21 = .ok (.ireturn, 1) := by decide +kernel
theorem dL_compare_0 : decode cL_compare 0 = .ok (.aload 4, 2) := by decide +kernel
theorem dL_compare_2 : decode cL_compare 2 = .ok (.aload_n 0, 1) := by decide +kernel
theorem dL_compare_3 : decode cL_compare 3 = .ok (.iload_n 1, 1) := by decide +kernel
theorem dL_compare_4 : decode cL_compare 4 = .ok (.iload_n 2, 1) := by decide +kernel
theorem dL_compare_5 : decode cL_compare 5 = .ok (.iload_n 3, 1) := by decide +kernel
theorem dL_compare_6 : decode cL_compare 6 = .ok (.invokevirtual 116, 3) := by decide +kernel
theorem dL_compare_9 : decode cL_compare 9 = .ok (.i2l, 1) := by decide +kernel
theorem dL_compare_10 : decode cL_compare 10 = .ok (.putfield 13, 3) := by decide +kernel
theorem dL_compare_13 : decode cL_compare 13 = .ok (.goto 11, 3) := by decide +kernel
theorem dL_compare_16 : decode cL_compare 16 = .ok (.astore 5, 2) := by decide +kernel
theorem dL_compare_18 : decode cL_compare 18 = .ok (.iconst 1, 1) := by decide +kernel
theorem dL_compare_19 : decode cL_compare 19 = .ok (.ireturn, 1) := by decide +kernel
theorem dL_compare_20 : decode cL_compare 20 = .ok (.astore 5, 2) := by decide +kernel
theorem dL_compare_22 : decode cL_compare 22 = .ok (.iconst 2, 1) := by decide +kernel
theorem dL_compare_23 : decode cL_compare 23 = .ok (.ireturn, 1) := by decide +kernel
theorem dL_compare_24 : decode cL_compare 24 = .ok (.iconst 0, 1) := by decide +kernel
theorem dL_compare_25 : decode cL_compare 25 = .ok (.ireturn, 1) := by decide +kernel
theorem dL_copy_0 : decode cL_copy 0 = .ok (.aload_n 3, 1) := by decide +kernel
theorem dL_copy_1 : decode cL_copy 1 = .ok (.aload_n 0, 1) := by decide +kernel
theorem dL_copy_2 : decode cL_copy 2 = .ok (.iload_n 1, 1) := by decide +kernel
theorem dL_copy_3 : decode cL_copy 3 = .ok (.iload_n 2, 1) := by decide +kernel
theorem dL_copy_4 : decode cL_copy 4 = .ok (.invokevirtual 31, 3) := by decide +kernel
theorem dL_copy_7 : decode cL_copy 7 = .ok (.i2l, 1) := by decide +kernel
theorem dL_copy_8 : decode cL_copy 8 = .ok (.putfield 13, 3) := by decide +kernel
theorem dL_copy_11 : decode cL_copy 11 = .ok (.goto 7, 3) := by decide +kernel
theorem dL_copy_14 : decode cL_copy 14 = .ok (.astore 4, 2) := by decide +kernel
theorem dL_copy_16 : decode cL_copy 16 = .ok (.iconst 1, 1) := by decide +kernel
theorem dL_copy_17 : decode cL_copy 17 = .ok (.ireturn, 1) := by decide +kernel
theorem dL_copy_18 : decode cL_copy 18 = .ok (.iconst 0, 1) := by decide +kernel
theorem dL_copy_19 : decode cL_copy 19 = .ok (.ireturn, 1) := by decide +kernel
theorem dL_empty_0 : decode cL_empty 0 = .ok (.aload_n 2, 1) := by decide +kernel
theorem dL_empty_1 : decode cL_empty 1 = .ok (.aload_n 0, 1) := by decide +kernel
theorem dL_empty_2 : decode cL_empty 2 = .ok (.iload_n 1, 1) := by decide +kernel
theorem dL_empty_3 : decode cL_empty 3 = .ok (.invokevirtual 23, 3) := by decide +kernel
theorem dL_empty_6 : decode cL_empty 6 = .ok (.i2l, 1) := by decide +kernel
theorem dL_empty_7 : decode cL_empty 7 = .ok (.putfield 13, 3) := by decide +kernel
theorem dL_empty_10 : decode cL_empty 10 = .ok (.goto 6, 3) := by decide +kernel
theorem dL_empty_13 : decode cL_empty 13 = .ok (.astore_n 3, 1) := by decide +kernel
theorem dL_empty_14 : decode cL_empty 14 = .ok (.iconst 1, 1) := by decide +kernel
theorem dL_empty_15 : decode cL_empty 15 = .ok (.ireturn, 1) := by decide +kernel
theorem dL_empty_16 : decode cL_empty 16 = .ok (.iconst 0, 1) := by decide +kernel
theorem dL_empty_17 : decode cL_empty 17 = .ok (.ireturn, 1) := by decide +kernel
theorem dL_emptyPlain_0 : decode cL_emptyPlain 0 = .ok (.aload_n 2, 1) := by decide +kernel
theorem dL_emptyPlain_1 : decode cL_emptyPlain 1 = .ok (.aload_n 0, 1) := by decide +kernel
theorem dL_emptyPlain_2 : decode cL_emptyPlain 2 = .ok (.iload_n 1, 1) := by decide +kernel
theorem dL_emptyPlain_3 : decode cL_emptyPlain 3 = .ok (.invokevirtual 92, 3) := by decide +kernel
theorem dL_emptyPlain_6 : decode cL_emptyPlain 6 = .ok (.i2l, 1) := by decide +kernel
theorem dL_emptyPlain_7 : decode cL_emptyPlain 7 = .ok (.putfield 13, 3) := by decide +kernel
theorem dL_emptyPlain_10 : decode cL_emptyPlain 10 = .ok (.goto 6, 3) := by decide +kernel
theorem dL_emptyPlain_13 : decode cL_emptyPlain 13 = .ok (.astore_n 3, 1) := by decide +kernel
theorem dL_emptyPlain_14 : decode cL_emptyPlain 14 = .ok (.iconst 1, 1) := by decide +kernel
theorem dL_emptyPlain_15 : decode cL_emptyPlain 15 = .ok (.ireturn, 1) := by decide +kernel
theorem dL_emptyPlain_16 : decode cL_emptyPlain 16 = .ok (.iconst 0, 1) := by decide +kernel
theorem dL_emptyPlain_17 : decode cL_emptyPlain 17 = .ok (.ireturn, 1) := by decide +kernel
theorem dL_fill_0 : decode cL_fill 0 = .ok (.aload_n 3, 1) := by decide +kernel
theorem dL_fill_1 : decode cL_fill 1 = .ok (.aload_n 0, 1) := by decide +kernel
theorem dL_fill_2 : decode cL_fill 2 = .ok (.iload_n 1, 1) := by decide +kernel
theorem dL_fill_3 : decode cL_fill 3 = .ok (.iload_n 2, 1) := by decide +kernel
theorem dL_fill_4 : decode cL_fill 4 = .ok (.invokevirtual 7, 3) := by decide +kernel
theorem dL_fill_7 : decode cL_fill 7 = .ok (.i2l, 1) := by decide +kernel
theorem dL_fill_8 : decode cL_fill 8 = .ok (.putfield 13, 3) := by decide +kernel
theorem dL_fill_11 : decode cL_fill 11 = .ok (.goto 11, 3) := by decide +kernel
theorem dL_fill_14 : decode cL_fill 14 = .ok (.astore 4, 2) := by decide +kernel
theorem dL_fill_16 : decode cL_fill 16 = .ok (.iconst 1, 1) := by decide +kernel
theorem dL_fill_17 : decode cL_fill 17 = .ok (.ireturn, 1) := by decide +kernel
theorem dL_fill_18 : decode cL_fill 18 = .ok (.astore 4, 2) := by decide +kernel
theorem dL_fill_20 : decode cL_fill 20 = .ok (.iconst 2, 1) := by decide +kernel
theorem dL_fill_21 : decode cL_fill 21 = .ok (.ireturn, 1) := by decide +kernel
theorem dL_fill_22 : decode cL_fill 22 = .ok (.iconst 0, 1) := by decide +kernel
theorem dL_fill_23 : decode cL_fill 23 = .ok (.ireturn, 1) := by decide +kernel
theorem dL_fillMaybe_0 : decode cL_fillMaybe 0 = .ok (.aload 4, 2) := by decide +kernel
theorem dL_fillMaybe_2 : decode cL_fillMaybe 2 = .ok (.aload_n 0, 1) := by decide +kernel
theorem dL_fillMaybe_3 : decode cL_fillMaybe 3 = .ok (.iload_n 1, 1) := by decide +kernel
theorem dL_fillMaybe_4 : decode cL_fillMaybe 4 = .ok (.iload_n 2, 1) := by decide +kernel
theorem dL_fillMaybe_5 : decode cL_fillMaybe 5 = .ok (.iload_n 3, 1) := by decide +kernel
theorem dL_fillMaybe_6 : decode cL_fillMaybe 6 = .ok (.invokevirtual 27, 3) := by decide +kernel
theorem dL_fillMaybe_9 : decode cL_fillMaybe 9 = .ok (.i2l, 1) := by decide +kernel
theorem dL_fillMaybe_10 : decode cL_fillMaybe 10 = .ok (.putfield 13, 3) := by decide +kernel
theorem dL_fillMaybe_13 : decode cL_fillMaybe 13 = .ok (.goto 11, 3) := by decide +kernel
theorem dL_fillMaybe_16 : decode cL_fillMaybe 16 = .ok (.astore 5, 2) := by decide +kernel
theorem dL_fillMaybe_18 : decode cL_fillMaybe 18 = .ok (.iconst 1, 1) := by decide +kernel
theorem dL_fillMaybe_19 : decode cL_fillMaybe 19 = .ok (.ireturn, 1) := by decide +kernel
theorem dL_fillMaybe_20 : decode cL_fillMaybe 20 = .ok (.astore 5, 2) := by decide +kernel
theorem dL_fillMaybe_22 : decode cL_fillMaybe 22 = .ok (.iconst 2, 1) := by decide +kernel
theorem dL_fillMaybe_23 : decode cL_fillMaybe 23 = .ok (.ireturn, 1) := by decide +kernel
theorem dL_fillMaybe_24 : decode cL_fillMaybe 24 = .ok (.iconst 0, 1) := by decide +kernel
theorem dL_fillMaybe_25 : decode cL_fillMaybe 25 = .ok (.ireturn, 1) := by decide +kernel
theorem dL_fillPlain_0 : decode cL_fillPlain 0 = .ok (.aload_n 3, 1) := by decide +kernel
theorem dL_fillPlain_1 : decode cL_fillPlain 1 = .ok (.aload_n 0, 1) := by decide +kernel
theorem dL_fillPlain_2 : decode cL_fillPlain 2 = .ok (.iload_n 1, 1) := by decide +kernel
theorem dL_fillPlain_3 : decode cL_fillPlain 3 = .ok (.iload_n 2, 1) := by decide +kernel
theorem dL_fillPlain_4 : decode cL_fillPlain 4 = .ok (.invokevirtual 89, 3) := by decide +kernel
theorem dL_fillPlain_7 : decode cL_fillPlain 7 = .ok (.i2l, 1) := by decide +kernel
theorem dL_fillPlain_8 : decode cL_fillPlain 8 = .ok (.putfield 13, 3) := by decide +kernel
theorem dL_fillPlain_11 : decode cL_fillPlain 11 = .ok (.goto 11, 3) := by decide +kernel
theorem dL_fillPlain_14 : decode cL_fillPlain 14 = .ok (.astore 4, 2) := by decide +kernel
theorem dL_fillPlain_16 : decode cL_fillPlain 16 = .ok (.iconst 1, 1) := by decide +kernel
theorem dL_fillPlain_17 : decode cL_fillPlain 17 = .ok (.ireturn, 1) := by decide +kernel
theorem dL_fillPlain_18 : decode cL_fillPlain 18 = .ok (.astore 4, 2) := by decide +kernel
theorem dL_fillPlain_20 : decode cL_fillPlain 20 = .ok (.iconst 2, 1) := by decide +kernel
theorem dL_fillPlain_21 : decode cL_fillPlain 21 = .ok (.ireturn, 1) := by decide +kernel
theorem dL_fillPlain_22 : decode cL_fillPlain 22 = .ok (.iconst 0, 1) := by decide +kernel
theorem dL_fillPlain_23 : decode cL_fillPlain 23 = .ok (.ireturn, 1) := by decide +kernel
theorem dL_filter_0 : decode cL_filter 0 = .ok (.aload 5, 2) := by decide +kernel
theorem dL_filter_2 : decode cL_filter 2 = .ok (.aload_n 0, 1) := by decide +kernel
theorem dL_filter_3 : decode cL_filter 3 = .ok (.iload_n 1, 1) := by decide +kernel
theorem dL_filter_4 : decode cL_filter 4 = .ok (.iload_n 2, 1) := by decide +kernel
theorem dL_filter_5 : decode cL_filter 5 = .ok (.iload_n 3, 1) := by decide +kernel
theorem dL_filter_6 : decode cL_filter 6 = .ok (.iload 4, 2) := by decide +kernel
theorem dL_filter_8 : decode cL_filter 8 = .ok (.invokevirtual 41, 3) := by decide +kernel
theorem dL_filter_11 : decode cL_filter 11 = .ok (.i2l, 1) := by decide +kernel
theorem dL_filter_12 : decode cL_filter 12 = .ok (.putfield 13, 3) := by decide +kernel
theorem dL_filter_15 : decode cL_filter 15 = .ok (.goto 11, 3) := by decide +kernel
theorem dL_filter_18 : decode cL_filter 18 = .ok (.astore 6, 2) := by decide +kernel
theorem dL_filter_20 : decode cL_filter 20 = .ok (.iconst 1, 1) := by decide +kernel
theorem dL_filter_21 : decode cL_filter 21 = .ok (.ireturn, 1) := by decide +kernel
theorem dL_filter_22 : decode cL_filter 22 = .ok (.astore 6, 2) := by decide +kernel
theorem dL_filter_24 : decode cL_filter 24 = .ok (.iconst 2, 1) := by decide +kernel
theorem dL_filter_25 : decode cL_filter 25 = .ok (.ireturn, 1) := by decide +kernel
theorem dL_filter_26 : decode cL_filter 26 = .ok (.iconst 0, 1) := by decide +kernel
theorem dL_filter_27 : decode cL_filter 27 = .ok (.ireturn, 1) := by decide +kernel
theorem dL_fromPlain_0 : decode cL_fromPlain 0 = .ok (.aload_n 3, 1) := by decide +kernel
theorem dL_fromPlain_1 : decode cL_fromPlain 1 = .ok (.aload_n 0, 1) := by decide +kernel
theorem dL_fromPlain_2 : decode cL_fromPlain 2 = .ok (.iload_n 1, 1) := by decide +kernel
theorem dL_fromPlain_3 : decode cL_fromPlain 3 = .ok (.iload_n 2, 1) := by decide +kernel
theorem dL_fromPlain_4 : decode cL_fromPlain 4 = .ok (.invokevirtual 110, 3) := by decide +kernel
theorem dL_fromPlain_7 : decode cL_fromPlain 7 = .ok (.i2l, 1) := by decide +kernel
theorem dL_fromPlain_8 : decode cL_fromPlain 8 = .ok (.putfield 13, 3) := by decide +kernel
theorem dL_fromPlain_11 : decode cL_fromPlain 11 = .ok (.goto 7, 3) := by decide +kernel
theorem dL_fromPlain_14 : decode cL_fromPlain 14 = .ok (.astore 4, 2) := by decide +kernel
theorem dL_fromPlain_16 : decode cL_fromPlain 16 = .ok (.iconst 1, 1) := by decide +kernel
theorem dL_fromPlain_17 : decode cL_fromPlain 17 = .ok (.ireturn, 1) := by decide +kernel
theorem dL_fromPlain_18 : decode cL_fromPlain 18 = .ok (.iconst 0, 1) := by decide +kernel
theorem dL_fromPlain_19 : decode cL_fromPlain 19 = .ok (.ireturn, 1) := by decide +kernel
theorem dL_get_0 : decode cL_get 0 = .ok (.aload_n 2, 1) := by decide +kernel
theorem dL_get_1 : decode cL_get 1 = .ok (.aload_n 0, 1) := by decide +kernel
theorem dL_get_2 : decode cL_get 2 = .ok (.iload_n 1, 1) := by decide +kernel
theorem dL_get_3 : decode cL_get 3 = .ok (.invokevirtual 61, 3) := by decide +kernel
theorem dL_get_6 : decode cL_get 6 = .ok (.i2l, 1) := by decide +kernel
theorem dL_get_7 : decode cL_get 7 = .ok (.putfield 13, 3) := by decide +kernel
theorem dL_get_10 : decode cL_get 10 = .ok (.goto 6, 3) := by decide +kernel
theorem dL_get_13 : decode cL_get 13 = .ok (.astore_n 3, 1) := by decide +kernel
theorem dL_get_14 : decode cL_get 14 = .ok (.iconst 1, 1) := by decide +kernel
theorem dL_get_15 : decode cL_get 15 = .ok (.ireturn, 1) := by decide +kernel
theorem dL_get_16 : decode cL_get 16 = .ok (.iconst 0, 1) := by decide +kernel
theorem dL_get_17 : decode cL_get 17 = .ok (.ireturn, 1) := by decide +kernel
theorem dL_getPlain_0 : decode cL_getPlain 0 = .ok (.aload_n 2, 1) := by decide +kernel
theorem dL_getPlain_1 : decode cL_getPlain 1 = .ok (.aload_n 0, 1) := by decide +kernel
theorem dL_getPlain_2 : decode cL_getPlain 2 = .ok (.iload_n 1, 1) := by decide +kernel
theorem dL_getPlain_3 : decode cL_getPlain 3 = .ok (.invokevirtual 95, 3) := by decide +kernel
theorem dL_getPlain_6 : decode cL_getPlain 6 = .ok (.i2l, 1) := by decide +kernel
theorem dL_getPlain_7 : decode cL_getPlain 7 = .ok (.putfield 13, 3) := by decide +kernel
theorem dL_getPlain_10 : decode cL_getPlain 10 = .ok (.goto 6, 3) := by decide +kernel
theorem dL_getPlain_13 : decode cL_getPlain 13 = .ok (.astore_n 3, 1) := by decide +kernel
theorem dL_getPlain_14 : decode cL_getPlain 14 = .ok (.iconst 1, 1) := by decide +kernel
theorem dL_getPlain_15 : decode cL_getPlain 15 = .ok (.ireturn, 1) := by decide +kernel
theorem dL_getPlain_16 : decode cL_getPlain 16 = .ok (.iconst 0, 1) := by decide +kernel
theorem dL_getPlain_17 : decode cL_getPlain 17 = .ok (.ireturn, 1) := by decide +kernel
theorem dL_house_0 : decode cL_house 0 = .ok (.aload_n 2, 1) := by decide +kernel
theorem dL_house_1 : decode cL_house 1 = .ok (.aload_n 0, 1) := by decide +kernel
theorem dL_house_2 : decode cL_house 2 = .ok (.iload_n 1, 1) := by decide +kernel
theorem dL_house_3 : decode cL_house 3 = .ok (.invokevirtual 148, 3) := by decide +kernel
theorem dL_house_6 : decode cL_house 6 = .ok (.i2l, 1) := by decide +kernel
theorem dL_house_7 : decode cL_house 7 = .ok (.putfield 13, 3) := by decide +kernel
theorem dL_house_10 : decode cL_house 10 = .ok (.goto 6, 3) := by decide +kernel
theorem dL_house_13 : decode cL_house 13 = .ok (.astore_n 3, 1) := by decide +kernel
theorem dL_house_14 : decode cL_house 14 = .ok (.iconst 1, 1) := by decide +kernel
theorem dL_house_15 : decode cL_house 15 = .ok (.ireturn, 1) := by decide +kernel
theorem dL_house_16 : decode cL_house 16 = .ok (.iconst 0, 1) := by decide +kernel
theorem dL_house_17 : decode cL_house 17 = .ok (.ireturn, 1) := by decide +kernel
theorem dL_isEmpty_0 : decode cL_isEmpty 0 = .ok (.aload_n 2, 1) := by decide +kernel
theorem dL_isEmpty_1 : decode cL_isEmpty 1 = .ok (.aload_n 0, 1) := by decide +kernel
theorem dL_isEmpty_2 : decode cL_isEmpty 2 = .ok (.iload_n 1, 1) := by decide +kernel
theorem dL_isEmpty_3 : decode cL_isEmpty 3 = .ok (.invokevirtual 79, 3) := by decide +kernel
theorem dL_isEmpty_6 : decode cL_isEmpty 6 = .ok (.ifCond .eq 7, 3) := by decide +kernel
theorem dL_isEmpty_9 : decode cL_isEmpty 9 = .ok (.lconst 1, 1) := by decide +kernel
theorem dL_isEmpty_10 : decode cL_isEmpty 10 = .ok (.goto 4, 3) := by decide +kernel
theorem dL_isEmpty_13 : decode cL_isEmpty 13 = .ok (.lconst 0, 1) := by decide +kernel
theorem dL_isEmpty_14 : decode cL_isEmpty 14 = .ok (.putfield 13, 3) := by decide +kernel
theorem dL_isEmpty_17 : decode cL_isEmpty 17 = .ok (.goto 6, 3) := by decide +kernel
theorem dL_isEmpty_20 : decode cL_isEmpty 20 = .ok (.astore_n 3, 1) := by decide +kernel
theorem dL_isEmpty_21 : decode cL_isEmpty 21 = .ok (.iconst 1, 1) := by decide +kernel
theorem dL_isEmpty_22 : decode cL_isEmpty 22 = .ok (.ireturn, 1) := by decide +kernel
theorem dL_isEmpty_23 : decode cL_isEmpty 23 = .ok (.iconst 0, 1) := by decide +kernel
theorem dL_isEmpty_24 : decode cL_isEmpty 24 = .ok (.ireturn, 1) := by decide +kernel
theorem dL_isFull_0 : decode cL_isFull 0 = .ok (.aload_n 2, 1) := by decide +kernel
theorem dL_isFull_1 : decode cL_isFull 1 = .ok (.aload_n 0, 1) := by decide +kernel
theorem dL_isFull_2 : decode cL_isFull 2 = .ok (.iload_n 1, 1) := by decide +kernel
theorem dL_isFull_3 : decode cL_isFull 3 = .ok (.invokevirtual 75, 3) := by decide +kernel
theorem dL_isFull_6 : decode cL_isFull 6 = .ok (.ifCond .eq 7, 3) := by decide +kernel
theorem dL_isFull_9 : decode cL_isFull 9 = .ok (.lconst 1, 1) := by decide +kernel
theorem dL_isFull_10 : decode cL_isFull 10 = .ok (.goto 4, 3) := by decide +kernel
theorem dL_isFull_13 : decode cL_isFull 13 = .ok (.lconst 0, 1) := by decide +kernel
theorem dL_isFull_14 : decode cL_isFull 14 = .ok (.putfield 13, 3) := by decide +kernel
theorem dL_isFull_17 : decode cL_isFull 17 = .ok (.goto 6, 3) := by decide +kernel
theorem dL_isFull_20 : decode cL_isFull 20 = .ok (.astore_n 3, 1) := by decide +kernel
theorem dL_isFull_21 : decode cL_isFull 21 = .ok (.iconst 1, 1) := by decide +kernel
theorem dL_isFull_22 : decode cL_isFull 22 = .ok (.ireturn, 1) := by decide +kernel
theorem dL_isFull_23 : decode cL_isFull 23 = .ok (.iconst 0, 1) := by decide +kernel
theorem dL_isFull_24 : decode cL_isFull 24 = .ok (.ireturn, 1) := by decide +kernel
theorem dL_isFullPlain_0 : decode cL_isFullPlain 0 = .ok (.aload_n 2, 1) := by decide +kernel
theorem dL_isFullPlain_1 : decode cL_isFullPlain 1 = .ok (.aload_n 0, 1) := by decide +kernel
theorem dL_isFullPlain_2 : decode cL_isFullPlain 2 = .ok (.iload_n 1, 1) := by decide +kernel
theorem dL_isFullPlain_3 : decode cL_isFullPlain 3 = .ok (.invokevirtual 101, 3) := by decide +kernel
theorem dL_isFullPlain_6 : decode cL_isFullPlain 6 = .ok (.ifCond .eq 7, 3) := by decide +kernel
theorem dL_isFullPlain_9 : decode cL_isFullPlain 9 = .ok (.lconst 1, 1) := by decide +kernel
theorem dL_isFullPlain_10 : decode cL_isFullPlain 10 = .ok (.goto 4, 3) := by decide +kernel
theorem dL_isFullPlain_13 : decode cL_isFullPlain 13 = .ok (.lconst 0, 1) := by decide +kernel
theorem dL_isFullPlain_14 : decode cL_isFullPlain 14 = .ok (.putfield 13, 3) := by decide +kernel
theorem dL_isFullPlain_17 : decode cL_isFullPlain 17 = .ok (.goto 6, 3) := by decide +kernel
theorem dL_isFullPlain_20 : decode cL_isFullPlain 20 = .ok (.astore_n 3, 1) := by decide +kernel
theorem dL_isFullPlain_21 : decode cL_isFullPlain 21 = .ok (.iconst 1, 1) := by decide +kernel
theorem dL_isFullPlain_22 : decode cL_isFullPlain 22 = .ok (.ireturn, 1) := by decide +kernel
theorem dL_isFullPlain_23 : decode cL_isFullPlain 23 = .ok (.iconst 0, 1) := by decide +kernel
theorem dL_isFullPlain_24 : decode cL_isFullPlain 24 = .ok (.ireturn, 1) := by decide +kernel
theorem dL_isLike_0 : decode cL_isLike 0 = .ok (.aload_n 3, 1) := by decide +kernel
theorem dL_isLike_1 : decode cL_isLike 1 = .ok (.aload_n 0, 1) := by decide +kernel
theorem dL_isLike_2 : decode cL_isLike 2 = .ok (.iload_n 1, 1) := by decide +kernel
theorem dL_isLike_3 : decode cL_isLike 3 = .ok (.iload_n 2, 1) := by decide +kernel
theorem dL_isLike_4 : decode cL_isLike 4 = .ok (.invokevirtual 82, 3) := by decide +kernel
theorem dL_isLike_7 : decode cL_isLike 7 = .ok (.ifCond .eq 7, 3) := by decide +kernel
theorem dL_isLike_10 : decode cL_isLike 10 = .ok (.lconst 1, 1) := by decide +kernel
theorem dL_isLike_11 : decode cL_isLike 11 = .ok (.goto 4, 3) := by decide +kernel
theorem dL_isLike_14 : decode cL_isLike 14 = .ok (.lconst 0, 1) := by decide +kernel
theorem dL_isLike_15 : decode cL_isLike 15 = .ok (.putfield 13, 3) := by decide +kernel
theorem dL_isLike_18 : decode cL_isLike 18 = .ok (.goto 7, 3) := by decide +kernel
theorem dL_isLike_21 : decode cL_isLike 21 = .ok (.astore 4, 2) := by decide +kernel
theorem dL_isLike_23 : decode cL_isLike 23 = .ok (.iconst 1, 1) := by decide +kernel
theorem dL_isLike_24 : decode cL_isLike 24 = .ok (.ireturn, 1) := by decide +kernel
theorem dL_isLike_25 : decode cL_isLike 25 = .ok (.iconst 0, 1) := by decide +kernel
theorem dL_isLike_26 : decode cL_isLike 26 = .ok (.ireturn, 1) := by decide +kernel
theorem dL_isNothing_0 : decode cL_isNothing 0 = .ok (.aload_n 2, 1) := by decide +kernel
theorem dL_isNothing_1 : decode cL_isNothing 1 = .ok (.aload_n 0, 1) := by decide +kernel
theorem dL_isNothing_2 : decode cL_isNothing 2 = .ok (.iload_n 1, 1) := by decide +kernel
theorem dL_isNothing_3 : decode cL_isNothing 3 = .ok (.invokevirtual 131, 3) := by decide +kernel
theorem dL_isNothing_6 : decode cL_isNothing 6 = .ok (.ifCond .eq 7, 3) := by decide +kernel
theorem dL_isNothing_9 : decode cL_isNothing 9 = .ok (.lconst 1, 1) := by decide +kernel
theorem dL_isNothing_10 : decode cL_isNothing 10 = .ok (.goto 4, 3) := by decide +kernel
theorem dL_isNothing_13 : decode cL_isNothing 13 = .ok (.lconst 0, 1) := by decide +kernel
theorem dL_isNothing_14 : decode cL_isNothing 14 = .ok (.putfield 13, 3) := by decide +kernel
theorem dL_isNothing_17 : decode cL_isNothing 17 = .ok (.goto 6, 3) := by decide +kernel
theorem dL_isNothing_20 : decode cL_isNothing 20 = .ok (.astore_n 3, 1) := by decide +kernel
theorem dL_isNothing_21 : decode cL_isNothing 21 = .ok (.iconst 1, 1) := by decide +kernel
theorem dL_isNothing_22 : decode cL_isNothing 22 = .ok (.ireturn, 1) := by decide +kernel
theorem dL_isNothing_23 : decode cL_isNothing 23 = .ok (.iconst 0, 1) := by decide +kernel
theorem dL_isNothing_24 : decode cL_isNothing 24 = .ok (.ireturn, 1) := by decide +kernel
theorem dL_isSomething_0 : decode cL_isSomething 0 = .ok (.aload_n 2, 1) := by decide +kernel
theorem dL_isSomething_1 : decode cL_isSomething 1 = .ok (.aload_n 0, 1) := by decide +kernel
theorem dL_isSomething_2 : decode cL_isSomething 2 = .ok (.iload_n 1, 1) := by decide +kernel
theorem dL_isSomething_3 : decode cL_isSomething 3 = .ok (.invokevirtual 134, 3) := by decide +kernel
theorem dL_isSomething_6 : decode cL_isSomething 6 = .ok (.ifCond .eq 7, 3) := by decide +kernel
theorem dL_isSomething_9 : decode cL_isSomething 9 = .ok (.lconst 1, 1) := by decide +kernel
theorem dL_isSomething_10 : decode cL_isSomething 10 = .ok (.goto 4, 3) := by decide +kernel
theorem dL_isSomething_13 : decode cL_isSomething 13 = .ok (.lconst 0, 1) := by decide +kernel
theorem dL_isSomething_14 : decode cL_isSomething 14 = .ok (.putfield 13, 3) := by decide +kernel
theorem dL_isSomething_17 : decode cL_isSomething 17 = .ok (.goto 6, 3) := by decide +kernel
theorem dL_isSomething_20 : decode cL_isSomething 20 = .ok (.astore_n 3, 1) := by decide +kernel
theorem dL_isSomething_21 : decode cL_isSomething 21 = .ok (.iconst 1, 1) := by decide +kernel
theorem dL_isSomething_22 : decode cL_isSomething 22 = .ok (.ireturn, 1) := by decide +kernel
theorem dL_isSomething_23 : decode cL_isSomething 23 = .ok (.iconst 0, 1) := by decide +kernel
theorem dL_isSomething_24 : decode cL_isSomething 24 = .ok (.ireturn, 1) := by decide +kernel
theorem dL_map_0 : decode cL_map 0 = .ok (.aload 5, 2) := by decide +kernel
theorem dL_map_2 : decode cL_map 2 = .ok (.aload_n 0, 1) := by decide +kernel
theorem dL_map_3 : decode cL_map 3 = .ok (.iload_n 1, 1) := by decide +kernel
theorem dL_map_4 : decode cL_map 4 = .ok (.iload_n 2, 1) := by decide +kernel
theorem dL_map_5 : decode cL_map 5 = .ok (.iload_n 3, 1) := by decide +kernel
theorem dL_map_6 : decode cL_map 6 = .ok (.iload 4, 2) := by decide +kernel
theorem dL_map_8 : decode cL_map 8 = .ok (.invokevirtual 34, 3) := by decide +kernel
theorem dL_map_11 : decode cL_map 11 = .ok (.i2l, 1) := by decide +kernel
theorem dL_map_12 : decode cL_map 12 = .ok (.putfield 13, 3) := by decide +kernel
theorem dL_map_15 : decode cL_map 15 = .ok (.goto 11, 3) := by decide +kernel
theorem dL_map_18 : decode cL_map 18 = .ok (.astore 6, 2) := by decide +kernel
theorem dL_map_20 : decode cL_map 20 = .ok (.iconst 1, 1) := by decide +kernel
theorem dL_map_21 : decode cL_map 21 = .ok (.ireturn, 1) := by decide +kernel
theorem dL_map_22 : decode cL_map 22 = .ok (.astore 6, 2) := by decide +kernel
theorem dL_map_24 : decode cL_map 24 = .ok (.iconst 2, 1) := by decide +kernel
theorem dL_map_25 : decode cL_map 25 = .ok (.ireturn, 1) := by decide +kernel
theorem dL_map_26 : decode cL_map 26 = .ok (.iconst 0, 1) := by decide +kernel
theorem dL_map_27 : decode cL_map 27 = .ok (.ireturn, 1) := by decide +kernel
theorem dL_must_0 : decode cL_must 0 = .ok (.aload_n 2, 1) := by decide +kernel
theorem dL_must_1 : decode cL_must 1 = .ok (.aload_n 0, 1) := by decide +kernel
theorem dL_must_2 : decode cL_must 2 = .ok (.iload_n 1, 1) := by decide +kernel
theorem dL_must_3 : decode cL_must 3 = .ok (.invokevirtual 125, 3) := by decide +kernel
theorem dL_must_6 : decode cL_must 6 = .ok (.i2l, 1) := by decide +kernel
theorem dL_must_7 : decode cL_must 7 = .ok (.putfield 13, 3) := by decide +kernel
theorem dL_must_10 : decode cL_must 10 = .ok (.goto 6, 3) := by decide +kernel
theorem dL_must_13 : decode cL_must 13 = .ok (.astore_n 3, 1) := by decide +kernel
theorem dL_must_14 : decode cL_must 14 = .ok (.iconst 1, 1) := by decide +kernel
theorem dL_must_15 : decode cL_must 15 = .ok (.ireturn, 1) := by decide +kernel
theorem dL_must_16 : decode cL_must 16 = .ok (.iconst 0, 1) := by decide +kernel
theorem dL_must_17 : decode cL_must 17 = .ok (.ireturn, 1) := by decide +kernel
theorem dL_mustElse_0 : decode cL_mustElse 0 = .ok (.aload_n 3, 1) := by decide +kernel
theorem dL_mustElse_1 : decode cL_mustElse 1 = .ok (.aload_n 0, 1) := by decide +kernel
theorem dL_mustElse_2 : decode cL_mustElse 2 = .ok (.iload_n 1, 1) := by decide +kernel
theorem dL_mustElse_3 : decode cL_mustElse 3 = .ok (.iload_n 2, 1) := by decide +kernel
theorem dL_mustElse_4 : decode cL_mustElse 4 = .ok (.invokevirtual 128, 3) := by decide +kernel
theorem dL_mustElse_7 : decode cL_mustElse 7 = .ok (.i2l, 1) := by decide +kernel
theorem dL_mustElse_8 : decode cL_mustElse 8 = .ok (.putfield 13, 3) := by decide +kernel
theorem dL_mustElse_11 : decode cL_mustElse 11 = .ok (.goto 11, 3) := by decide +kernel
theorem dL_mustElse_14 : decode cL_mustElse 14 = .ok (.astore 4, 2) := by decide +kernel
theorem dL_mustElse_16 : decode cL_mustElse 16 = .ok (.iconst 1, 1) := by decide +kernel
theorem dL_mustElse_17 : decode cL_mustElse 17 = .ok (.ireturn, 1) := by decide +kernel
theorem dL_mustElse_18 : decode cL_mustElse 18 = .ok (.astore 4, 2) := by decide +kernel
theorem dL_mustElse_20 : decode cL_mustElse 20 = .ok (.iconst 2, 1) := by decide +kernel
theorem dL_mustElse_21 : decode cL_mustElse 21 = .ok (.ireturn, 1) := by decide +kernel
theorem dL_mustElse_22 : decode cL_mustElse 22 = .ok (.iconst 0, 1) := by decide +kernel
theorem dL_mustElse_23 : decode cL_mustElse 23 = .ok (.ireturn, 1) := by decide +kernel
theorem dL_or_0 : decode cL_or 0 = .ok (.aload 4, 2) := by decide +kernel
theorem dL_or_2 : decode cL_or 2 = .ok (.aload_n 0, 1) := by decide +kernel
theorem dL_or_3 : decode cL_or 3 = .ok (.iload_n 1, 1) := by decide +kernel
theorem dL_or_4 : decode cL_or 4 = .ok (.iload_n 2, 1) := by decide +kernel
theorem dL_or_5 : decode cL_or 5 = .ok (.iload_n 3, 1) := by decide +kernel
theorem dL_or_6 : decode cL_or 6 = .ok (.invokevirtual 44, 3) := by decide +kernel
theorem dL_or_9 : decode cL_or 9 = .ok (.i2l, 1) := by decide +kernel
theorem dL_or_10 : decode cL_or 10 = .ok (.putfield 13, 3) := by decide +kernel
theorem dL_or_13 : decode cL_or 13 = .ok (.goto 7, 3) := by decide +kernel
theorem dL_or_16 : decode cL_or 16 = .ok (.astore 5, 2) := by decide +kernel
theorem dL_or_18 : decode cL_or 18 = .ok (.iconst 1, 1) := by decide +kernel
theorem dL_or_19 : decode cL_or 19 = .ok (.ireturn, 1) := by decide +kernel
theorem dL_or_20 : decode cL_or 20 = .ok (.iconst 0, 1) := by decide +kernel
theorem dL_or_21 : decode cL_or 21 = .ok (.ireturn, 1) := by decide +kernel
theorem dL_orElse_0 : decode cL_orElse 0 = .ok (.aload_n 3, 1) := by decide +kernel
theorem dL_orElse_1 : decode cL_orElse 1 = .ok (.aload_n 0, 1) := by decide +kernel
theorem dL_orElse_2 : decode cL_orElse 2 = .ok (.iload_n 1, 1) := by decide +kernel
theorem dL_orElse_3 : decode cL_orElse 3 = .ok (.iload_n 2, 1) := by decide +kernel
theorem dL_orElse_4 : decode cL_orElse 4 = .ok (.invokevirtual 64, 3) := by decide +kernel
theorem dL_orElse_7 : decode cL_orElse 7 = .ok (.i2l, 1) := by decide +kernel
theorem dL_orElse_8 : decode cL_orElse 8 = .ok (.putfield 13, 3) := by decide +kernel
theorem dL_orElse_11 : decode cL_orElse 11 = .ok (.goto 11, 3) := by decide +kernel
theorem dL_orElse_14 : decode cL_orElse 14 = .ok (.astore 4, 2) := by decide +kernel
theorem dL_orElse_16 : decode cL_orElse 16 = .ok (.iconst 1, 1) := by decide +kernel
theorem dL_orElse_17 : decode cL_orElse 17 = .ok (.ireturn, 1) := by decide +kernel
theorem dL_orElse_18 : decode cL_orElse 18 = .ok (.astore 4, 2) := by decide +kernel
theorem dL_orElse_20 : decode cL_orElse 20 = .ok (.iconst 2, 1) := by decide +kernel
theorem dL_orElse_21 : decode cL_orElse 21 = .ok (.ireturn, 1) := by decide +kernel
theorem dL_orElse_22 : decode cL_orElse 22 = .ok (.iconst 0, 1) := by decide +kernel
theorem dL_orElse_23 : decode cL_orElse 23 = .ok (.ireturn, 1) := by decide +kernel
theorem dL_orElseGet_0 : decode cL_orElseGet 0 = .ok (.aload_n 3, 1) := by decide +kernel
theorem dL_orElseGet_1 : decode cL_orElseGet 1 = .ok (.aload_n 0, 1) := by decide +kernel
theorem dL_orElseGet_2 : decode cL_orElseGet 2 = .ok (.iload_n 1, 1) := by decide +kernel
theorem dL_orElseGet_3 : decode cL_orElseGet 3 = .ok (.iload_n 2, 1) := by decide +kernel
theorem dL_orElseGet_4 : decode cL_orElseGet 4 = .ok (.invokevirtual 67, 3) := by decide +kernel
theorem dL_orElseGet_7 : decode cL_orElseGet 7 = .ok (.i2l, 1) := by decide +kernel
theorem dL_orElseGet_8 : decode cL_orElseGet 8 = .ok (.putfield 13, 3) := by decide +kernel
theorem dL_orElseGet_11 : decode cL_orElseGet 11 = .ok (.goto 11, 3) := by decide +kernel
theorem dL_orElseGet_14 : decode cL_orElseGet 14 = .ok (.astore 4, 2) := by decide +kernel
theorem dL_orElseGet_16 : decode cL_orElseGet 16 = .ok (.iconst 1, 1) := by decide +kernel
theorem dL_orElseGet_17 : decode cL_orElseGet 17 = .ok (.ireturn, 1) := by decide +kernel
theorem dL_orElseGet_18 : decode cL_orElseGet 18 = .ok (.astore 4, 2) := by decide +kernel
theorem dL_orElseGet_20 : decode cL_orElseGet 20 = .ok (.iconst 2, 1) := by decide +kernel
theorem dL_orElseGet_21 : decode cL_orElseGet 21 = .ok (.ireturn, 1) := by decide +kernel
theorem dL_orElseGet_22 : decode cL_orElseGet 22 = .ok (.iconst 0, 1) := by decide +kernel
theorem dL_orElseGet_23 : decode cL_orElseGet 23 = .ok (.ireturn, 1) := by decide +kernel
theorem dL_orElsePlain_0 : decode cL_orElsePlain 0 = .ok (.aload_n 3, 1) := by decide +kernel
theorem dL_orElsePlain_1 : decode cL_orElsePlain 1 = .ok (.aload_n 0, 1) := by decide +kernel
theorem dL_orElsePlain_2 : decode cL_orElsePlain 2 = .ok (.iload_n 1, 1) := by decide +kernel
theorem dL_orElsePlain_3 : decode cL_orElsePlain 3 = .ok (.iload_n 2, 1) := by decide +kernel
theorem dL_orElsePlain_4 : decode cL_orElsePlain 4 = .ok (.invokevirtual 98, 3) := by decide +kernel
theorem dL_orElsePlain_7 : decode cL_orElsePlain 7 = .ok (.i2l, 1) := by decide +kernel
theorem dL_orElsePlain_8 : decode cL_orElsePlain 8 = .ok (.putfield 13, 3) := by decide +kernel
theorem dL_orElsePlain_11 : decode cL_orElsePlain 11 = .ok (.goto 11, 3) := by decide +kernel
theorem dL_orElsePlain_14 : decode cL_orElsePlain 14 = .ok (.astore 4, 2) := by decide +kernel
theorem dL_orElsePlain_16 : decode cL_orElsePlain 16 = .ok (.iconst 1, 1) := by decide +kernel
theorem dL_orElsePlain_17 : decode cL_orElsePlain 17 = .ok (.ireturn, 1) := by decide +kernel
theorem dL_orElsePlain_18 : decode cL_orElsePlain 18 = .ok (.astore 4, 2) := by decide +kernel
theorem dL_orElsePlain_20 : decode cL_orElsePlain 20 = .ok (.iconst 2, 1) := by decide +kernel
theorem dL_orElsePlain_21 : decode cL_orElsePlain 21 = .ok (.ireturn, 1) := by decide +kernel
theorem dL_orElsePlain_22 : decode cL_orElsePlain 22 = .ok (.iconst 0, 1) := by decide +kernel
theorem dL_orElsePlain_23 : decode cL_orElsePlain 23 = .ok (.ireturn, 1) := by decide +kernel
theorem dL_orElseThrow_0 : decode cL_orElseThrow 0 = .ok (.aload_n 2, 1) := by decide +kernel
theorem dL_orElseThrow_1 : decode cL_orElseThrow 1 = .ok (.aload_n 0, 1) := by decide +kernel
theorem dL_orElseThrow_2 : decode cL_orElseThrow 2 = .ok (.iload_n 1, 1) := by decide +kernel
theorem dL_orElseThrow_3 : decode cL_orElseThrow 3 = .ok (.invokevirtual 70, 3) := by decide +kernel
theorem dL_orElseThrow_6 : decode cL_orElseThrow 6 = .ok (.i2l, 1) := by decide +kernel
theorem dL_orElseThrow_7 : decode cL_orElseThrow 7 = .ok (.putfield 13, 3) := by decide +kernel
theorem dL_orElseThrow_10 : decode cL_orElseThrow 10 = .ok (.goto 9, 3) := by decide +kernel
theorem dL_orElseThrow_13 : decode cL_orElseThrow 13 = .ok (.astore_n 3, 1) := by decide +kernel
theorem dL_orElseThrow_14 : decode cL_orElseThrow 14 = .ok (.iconst 1, 1) := by decide +kernel
theorem dL_orElseThrow_15 : decode cL_orElseThrow 15 = .ok (.ireturn, 1) := by decide +kernel
theorem dL_orElseThrow_16 : decode cL_orElseThrow 16 = .ok (.astore_n 3, 1) := by decide +kernel
theorem dL_orElseThrow_17 : decode cL_orElseThrow 17 = .ok (.iconst 2, 1) := by decide +kernel
theorem dL_orElseThrow_18 : decode cL_orElseThrow 18 = .ok (.ireturn, 1) := by decide +kernel
theorem dL_orElseThrow_19 : decode cL_orElseThrow 19 = .ok (.iconst 0, 1) := by decide +kernel
theorem dL_orElseThrow_20 : decode cL_orElseThrow 20 = .ok (.ireturn, 1) := by decide +kernel
theorem dL_place_0 : decode cL_place 0 = .ok (.aload_n 3, 1) := by decide +kernel
theorem dL_place_1 : decode cL_place 1 = .ok (.aload_n 0, 1) := by decide +kernel
theorem dL_place_2 : decode cL_place 2 = .ok (.iload_n 1, 1) := by decide +kernel
theorem dL_place_3 : decode cL_place 3 = .ok (.iload_n 2, 1) := by decide +kernel
theorem dL_place_4 : decode cL_place 4 = .ok (.invokevirtual 145, 3) := by decide +kernel
theorem dL_place_7 : decode cL_place 7 = .ok (.i2l, 1) := by decide +kernel
theorem dL_place_8 : decode cL_place 8 = .ok (.putfield 13, 3) := by decide +kernel
theorem dL_place_11 : decode cL_place 11 = .ok (.goto 11, 3) := by decide +kernel
theorem dL_place_14 : decode cL_place 14 = .ok (.astore 4, 2) := by decide +kernel
theorem dL_place_16 : decode cL_place 16 = .ok (.iconst 1, 1) := by decide +kernel
theorem dL_place_17 : decode cL_place 17 = .ok (.ireturn, 1) := by decide +kernel
theorem dL_place_18 : decode cL_place 18 = .ok (.astore 4, 2) := by decide +kernel
theorem dL_place_20 : decode cL_place 20 = .ok (.iconst 2, 1) := by decide +kernel
theorem dL_place_21 : decode cL_place 21 = .ok (.ireturn, 1) := by decide +kernel
theorem dL_place_22 : decode cL_place 22 = .ok (.iconst 0, 1) := by decide +kernel
theorem dL_place_23 : decode cL_place 23 = .ok (.ireturn, 1) := by decide +kernel
theorem dL_take_0 : decode cL_take 0 = .ok (.aload_n 2, 1) := by decide +kernel
theorem dL_take_1 : decode cL_take 1 = .ok (.aload_n 0, 1) := by decide +kernel
theorem dL_take_2 : decode cL_take 2 = .ok (.iload_n 1, 1) := by decide +kernel
theorem dL_take_3 : decode cL_take 3 = .ok (.invokevirtual 55, 3) := by decide +kernel
theorem dL_take_6 : decode cL_take 6 = .ok (.i2l, 1) := by decide +kernel
theorem dL_take_7 : decode cL_take 7 = .ok (.putfield 13, 3) := by decide +kernel
theorem dL_take_10 : decode cL_take 10 = .ok (.goto 6, 3) := by decide +kernel
theorem dL_take_13 : decode cL_take 13 = .ok (.astore_n 3, 1) := by decide +kernel
theorem dL_take_14 : decode cL_take 14 = .ok (.iconst 1, 1) := by decide +kernel
theorem dL_take_15 : decode cL_take 15 = .ok (.ireturn, 1) := by decide +kernel
theorem dL_take_16 : decode cL_take 16 = .ok (.iconst 0, 1) := by decide +kernel
theorem dL_take_17 : decode cL_take 17 = .ok (.ireturn, 1) := by decide +kernel
theorem dL_takeOrLeave_0 : decode cL_takeOrLeave 0 = .ok (.aload_n 2, 1) := by decide +kernel
theorem dL_takeOrLeave_1 : decode cL_takeOrLeave 1 = .ok (.aload_n 0, 1) := by decide +kernel
theorem dL_takeOrLeave_2 : decode cL_takeOrLeave 2 = .ok (.iload_n 1, 1) := by decide +kernel
theorem dL_takeOrLeave_3 : decode cL_takeOrLeave 3 = .ok (.invokevirtual 58, 3) := by decide +kernel
theorem dL_takeOrLeave_6 : decode cL_takeOrLeave 6 = .ok (.i2l, 1) := by decide +kernel
theorem dL_takeOrLeave_7 : decode cL_takeOrLeave 7 = .ok (.putfield 13, 3) := by decide +kernel
theorem dL_takeOrLeave_10 : decode cL_takeOrLeave 10 = .ok (.goto 6, 3) := by decide +kernel
theorem dL_takeOrLeave_13 : decode cL_takeOrLeave 13 = .ok (.astore_n 3, 1) := by decide +kernel
theorem dL_takeOrLeave_14 : decode cL_takeOrLeave 14 = .ok (.iconst 1, 1) := by decide +kernel
theorem dL_takeOrLeave_15 : decode cL_takeOrLeave 15 = .ok (.ireturn, 1) := by decide +kernel
theorem dL_takeOrLeave_16 : decode cL_takeOrLeave 16 = .ok (.iconst 0, 1) := by decide +kernel
theorem dL_takeOrLeave_17 : decode cL_takeOrLeave 17 = .ok (.ireturn, 1) := by decide +kernel
theorem dL_takePlain_0 : decode cL_takePlain 0 = .ok (.aload_n 2, 1) := by decide +kernel
theorem dL_takePlain_1 : decode cL_takePlain 1 = .ok (.aload_n 0, 1) := by decide +kernel
theorem dL_takePlain_2 : decode cL_takePlain 2 = .ok (.iload_n 1, 1) := by decide +kernel
theorem dL_takePlain_3 : decode cL_takePlain 3 = .ok (.invokevirtual 104, 3) := by decide +kernel
theorem dL_takePlain_6 : decode cL_takePlain 6 = .ok (.i2l, 1) := by decide +kernel
theorem dL_takePlain_7 : decode cL_takePlain 7 = .ok (.putfield 13, 3) := by decide +kernel
theorem dL_takePlain_10 : decode cL_takePlain 10 = .ok (.goto 6, 3) := by decide +kernel
theorem dL_takePlain_13 : decode cL_takePlain 13 = .ok (.astore_n 3, 1) := by decide +kernel
theorem dL_takePlain_14 : decode cL_takePlain 14 = .ok (.iconst 1, 1) := by decide +kernel
theorem dL_takePlain_15 : decode cL_takePlain 15 = .ok (.ireturn, 1) := by decide +kernel
theorem dL_takePlain_16 : decode cL_takePlain 16 = .ok (.iconst 0, 1) := by decide +kernel
theorem dL_takePlain_17 : decode cL_takePlain 17 = .ok (.ireturn, 1) := by decide +kernel
theorem dL_toPlain_0 : decode cL_toPlain 0 = .ok (.aload_n 3, 1) := by decide +kernel
theorem dL_toPlain_1 : decode cL_toPlain 1 = .ok (.aload_n 0, 1) := by decide +kernel
theorem dL_toPlain_2 : decode cL_toPlain 2 = .ok (.iload_n 1, 1) := by decide +kernel
theorem dL_toPlain_3 : decode cL_toPlain 3 = .ok (.iload_n 2, 1) := by decide +kernel
theorem dL_toPlain_4 : decode cL_toPlain 4 = .ok (.invokevirtual 107, 3) := by decide +kernel
theorem dL_toPlain_7 : decode cL_toPlain 7 = .ok (.i2l, 1) := by decide +kernel
theorem dL_toPlain_8 : decode cL_toPlain 8 = .ok (.putfield 13, 3) := by decide +kernel
theorem dL_toPlain_11 : decode cL_toPlain 11 = .ok (.goto 7, 3) := by decide +kernel
theorem dL_toPlain_14 : decode cL_toPlain 14 = .ok (.astore 4, 2) := by decide +kernel
theorem dL_toPlain_16 : decode cL_toPlain 16 = .ok (.iconst 1, 1) := by decide +kernel
theorem dL_toPlain_17 : decode cL_toPlain 17 = .ok (.ireturn, 1) := by decide +kernel
theorem dL_toPlain_18 : decode cL_toPlain 18 = .ok (.iconst 0, 1) := by decide +kernel
theorem dL_toPlain_19 : decode cL_toPlain 19 = .ok (.ireturn, 1) := by decide +kernel
theorem dL_told_0 : decode cL_told 0 = .ok (.aload_n 2, 1) := by decide +kernel
theorem dL_told_1 : decode cL_told 1 = .ok (.aload_n 0, 1) := by decide +kernel
theorem dL_told_2 : decode cL_told 2 = .ok (.iload_n 1, 1) := by decide +kernel
theorem dL_told_3 : decode cL_told 3 = .ok (.invokevirtual 137, 3) := by decide +kernel
theorem dL_told_6 : decode cL_told 6 = .ok (.putfield 141, 3) := by decide +kernel
theorem dL_told_9 : decode cL_told 9 = .ok (.goto 6, 3) := by decide +kernel
theorem dL_told_12 : decode cL_told 12 = .ok (.astore_n 3, 1) := by decide +kernel
theorem dL_told_13 : decode cL_told 13 = .ok (.iconst 1, 1) := by decide +kernel
theorem dL_told_14 : decode cL_told 14 = .ok (.ireturn, 1) := by decide +kernel
theorem dL_told_15 : decode cL_told 15 = .ok (.iconst 0, 1) := by decide +kernel
theorem dL_told_16 : decode cL_told 16 = .ok (.ireturn, 1) := by decide +kernel
theorem dL_turn_0 : decode cL_turn 0 = .ok (.aload 5, 2) := by decide +kernel
theorem dL_turn_2 : decode cL_turn 2 = .ok (.aload_n 0, 1) := by decide +kernel
theorem dL_turn_3 : decode cL_turn 3 = .ok (.iload_n 1, 1) := by decide +kernel
theorem dL_turn_4 : decode cL_turn 4 = .ok (.iload_n 2, 1) := by decide +kernel
theorem dL_turn_5 : decode cL_turn 5 = .ok (.iload_n 3, 1) := by decide +kernel
theorem dL_turn_6 : decode cL_turn 6 = .ok (.iload 4, 2) := by decide +kernel
theorem dL_turn_8 : decode cL_turn 8 = .ok (.invokevirtual 38, 3) := by decide +kernel
theorem dL_turn_11 : decode cL_turn 11 = .ok (.i2l, 1) := by decide +kernel
theorem dL_turn_12 : decode cL_turn 12 = .ok (.putfield 13, 3) := by decide +kernel
theorem dL_turn_15 : decode cL_turn 15 = .ok (.goto 11, 3) := by decide +kernel
theorem dL_turn_18 : decode cL_turn 18 = .ok (.astore 6, 2) := by decide +kernel
theorem dL_turn_20 : decode cL_turn 20 = .ok (.iconst 1, 1) := by decide +kernel
theorem dL_turn_21 : decode cL_turn 21 = .ok (.ireturn, 1) := by decide +kernel
theorem dL_turn_22 : decode cL_turn 22 = .ok (.astore 6, 2) := by decide +kernel
theorem dL_turn_24 : decode cL_turn 24 = .ok (.iconst 2, 1) := by decide +kernel
theorem dL_turn_25 : decode cL_turn 25 = .ok (.ireturn, 1) := by decide +kernel
theorem dL_turn_26 : decode cL_turn 26 = .ok (.iconst 0, 1) := by decide +kernel
theorem dL_turn_27 : decode cL_turn 27 = .ok (.ireturn, 1) := by decide +kernel
theorem dL_wrap_0 : decode cL_wrap 0 = .ok (.aload_n 3, 1) := by decide +kernel
theorem dL_wrap_1 : decode cL_wrap 1 = .ok (.aload_n 0, 1) := by decide +kernel
theorem dL_wrap_2 : decode cL_wrap 2 = .ok (.iload_n 1, 1) := by decide +kernel
theorem dL_wrap_3 : decode cL_wrap 3 = .ok (.iload_n 2, 1) := by decide +kernel
theorem dL_wrap_4 : decode cL_wrap 4 = .ok (.invokevirtual 48, 3) := by decide +kernel
theorem dL_wrap_7 : decode cL_wrap 7 = .ok (.i2l, 1) := by decide +kernel
theorem dL_wrap_8 : decode cL_wrap 8 = .ok (.putfield 13, 3) := by decide +kernel
theorem dL_wrap_11 : decode cL_wrap 11 = .ok (.goto 7, 3) := by decide +kernel
theorem dL_wrap_14 : decode cL_wrap 14 = .ok (.astore 4, 2) := by decide +kernel
theorem dL_wrap_16 : decode cL_wrap 16 = .ok (.iconst 1, 1) := by decide +kernel
theorem dL_wrap_17 : decode cL_wrap 17 = .ok (.ireturn, 1) := by decide +kernel
theorem dL_wrap_18 : decode cL_wrap 18 = .ok (.iconst 0, 1) := by decide +kernel
theorem dL_wrap_19 : decode cL_wrap 19 = .ok (.ireturn, 1) := by decide +kernel
theorem rg_X0_needBox (b : Int32) : e_X0_needBox b = 0 ∨ e_X0_needBox b = 1 := by
  unfold e_X0_needBox
  repeat' split
  all_goals first | exact Or.inl rfl | exact Or.inr rfl
theorem rg_X0_needPlain (b : Int32) : e_X0_needPlain b = 0 ∨ e_X0_needPlain b = 1 := by
  unfold e_X0_needPlain
  repeat' split
  all_goals first | exact Or.inl rfl | exact Or.inr rfl
theorem rg_X0_needNumber (b : Int32) : e_X0_needNumber b = 0 ∨ e_X0_needNumber b = 2 := by
  unfold e_X0_needNumber
  repeat' split
  all_goals first | exact Or.inl rfl | exact Or.inr rfl
theorem rg_X0_needKind (b k : Int32) : e_X0_needKind b k = 0 ∨ e_X0_needKind b k = 2 := by
  unfold e_X0_needKind
  repeat' split
  all_goals first | exact Or.inl rfl | exact Or.inr rfl
theorem r21 {k : Nat} (h : k = 0 ∨ k = 1) : k = 0 ∨ k = 1 ∨ k = 2 := by omega
theorem r22 {k : Nat} (h : k = 0 ∨ k = 2) : k = 0 ∨ k = 1 ∨ k = 2 := by omega
theorem r31 {k : Nat} (h : k = 0 ∨ k = 1) : k = 0 ∨ k = 1 ∨ k = 3 := by omega
theorem r12 {k : Nat} (h : k = 0 ∨ k = 2) : k = 0 ∨ k = 2 ∨ k = 1 := by omega
def hk_fill (b1 : Int32) (n1 : Int32) : Int32 := if e_X0_fill b1 n1 = 0 then 0 else if e_X0_fill b1 n1 = 1 then 1 else 2
theorem ev_fill (b1 : Int32) (n1 : Int32) : e_X0_fill b1 n1 = 0 ∨ e_X0_fill b1 n1 = 1 ∨ e_X0_fill b1 n1 = 2 := by
  unfold e_X0_fill
  repeat' split
  all_goals first | exact Or.inl rfl | exact r21 (rg_X0_needBox _) | exact r21 (rg_X0_needPlain _) | exact r22 (rg_X0_needNumber _) | exact r22 (rg_X0_needKind _ _) | exact Or.inr (Or.inl rfl) | exact Or.inr (Or.inr rfl)
def hf_fill (b1 : Int32) (n1 : Int32) (f : Nat → Int32) : Nat → Int32 := if e_X0_fill b1 n1 = 0 then wf_X0_fill b1 n1 f else f
def hn_fill (b1 : Int32) (n1 : Int32) (f : Nat → Int32) (n0 : Int64) : Int64 := if e_X0_fill b1 n1 = 0 then (v_X0_fill b1 f).toInt64 else n0
set_option maxRecDepth 100000 in
set_option maxHeartbeats 4000000 in
theorem j_L_fill (l : Launch) (hl0 : l.stackTraces = false) (D : va_G) (cI cB : ClassId) (x bx px t : Nat) (f g : Nat → Int32) (ak su gt lf rf kn : Int32) (q : Nat) (n0 : Int64) (sv : Value) (b1 : Int32) (n1 : Int32) : JH (S := Unit) l yL_fill cL_fill 5 (some .int) [(0, 11, 14, 19), (0, 11, 18, 21)] ({ frames := 8, cells := 1, slots := 6, locals := 133 } : Room) D cI cB [.ref x, .int b1, .int n1, .ref q] [(x, .inr (2, [.ref bx, .ref px, .ref t, .int ak, .int su, .int gt, .int lf, .int rf, .int kn])), (bx, .inl (cI, 6, .inl f)), (px, .inl (cI, 2, .inl g)), (q, .inr (3, [.long n0, sv]))] (zAnd (zAnd zz zN) (zF RL 13 RX1 "n" "J" RL)) (fun _ => some (.int (hk_fill b1 n1))) (fun _ => True) (fun _ => [(x, .inr (2, [.ref bx, .ref px, .ref t, .int ak, .int su, .int gt, .int lf, .int rf, .int kn])), (bx, .inl (cI, 6, .inl (hf_fill b1 n1 f))), (px, .inl (cI, 2, .inl g)), (q, .inr (3, [.long (hn_fill b1 n1 f n0), sv]))]) 1 6 := by
  refine bodyJH (by decide +kernel) (Nat.le_of_ble_eq_true rfl) (fun p e s m args below meth c ls A ZZ => ?_)
  obtain ⟨FX, hr, hlk, hK, hP, hD, hS, hA, hz, htb, hl⟩ := ZZ
  have hl : lv_has ls 5 [(0, .ref x), (1, .int b1), (2, .int n1), (3, .ref q)] := hl
  have hP : va_P D KL [(x, .inr (2, [.ref bx, .ref px, .ref t, .int ak, .int su, .int gt, .int lf, .int rf, .int kn])), (bx, .inl (cI, 6, .inl f)), (px, .inl (cI, 2, .inl g)), (q, .inr (3, [.long n0, sv]))] s.heap := hP
  refine lv_aload_n FX.1 FX.2.1 dL_fill_0 rfl (lv_at hl 3 rfl) ?_
  refine lv_aload_n FX.1 FX.2.1 dL_fill_1 rfl (lv_at hl 0 rfl) ?_
  refine lv_iload_n FX.1 FX.2.1 dL_fill_2 rfl (lv_at hl 1 rfl) ?_
  refine lv_iload_n FX.1 FX.2.1 dL_fill_3 rfl (lv_at hl 2 rfl) ?_
  by_cases hE : e_X0_fill b1 n1 = 0
  · have q_1 : (e_X0_fill b1 n1) = 0 := hE
    refine c_WRV (wr := [(q, .inr (3, [.long n0, sv]))]) (wsN := [(x, .inr (2, [.ref bx, .ref px, .ref t, .int ak, .int su, .int gt, .int lf, .int rf, .int kn])), (bx, .inl (cI, 6, .inl (wf_X0_fill b1 n1 f))), (px, .inl (cI, 2, .inl g)), (q, .inr (3, [.long n0, sv]))]) (i0 := 0) (ci := 2) FX (k_X0_fill l D cI cB x bx px t f g ak su gt lf rf kn b1 n1 q_1) mi_X0_fill rfl ml_RL_7 (RMok.mk) hl.1 rfl (Nat.le_of_ble_eq_true rfl) dL_fill_4 (by decide) hK hP hD hS hA [0, 1, 2] rfl [3] rfl rfl (by decide) [1, 2, 3, 0] rfl rfl rfl rfl rfl (fun H locs hP hD hS => ?_)
    refine lv_i2l (v := (v_X0_fill b1 f).toInt64) FX.1 FX.2.1 dL_fill_7 rfl ?_
    refine p_putN (wsN := [(x, .inr (2, [.ref bx, .ref px, .ref t, .int ak, .int su, .int gt, .int lf, .int rf, .int kn])), (bx, .inl (cI, 6, .inl (wf_X0_fill b1 n1 f))), (px, .inl (cI, 2, .inl g)), (q, .inr (3, [.long ((v_X0_fill b1 f).toInt64), sv]))]) (ci := 3) (v := .long ((v_X0_fill b1 f).toInt64)) (ty := .long) FX inX1 tyX1_ok nmX1 hK hP hD hS 3 rfl rfl 0 (by decide) hz.2 rfl (by decide +kernel) rfl rfl (Nat.le_of_ble_eq_true rfl) dL_fill_8 rfl (fun H locs hP hD hS => ?_)
    refine lv_goto (tgt := 22) FX.1 FX.2.1 dL_fill_11 (by decide) ?_
    refine lv_iconst (v := 0) FX.1 FX.2.1 dL_fill_22 (by decide) ?_
    exact retJi () FX hr hlk dL_fill_23 rfl (by rw [show hf_fill b1 n1 f = wf_X0_fill b1 n1 f from if_pos hE, show hn_fill b1 n1 f n0 = (v_X0_fill b1 f).toInt64 from if_pos hE]; exact hP) hK (by rw [show hf_fill b1 n1 f = wf_X0_fill b1 n1 f from if_pos hE, show hn_fill b1 n1 f n0 = (v_X0_fill b1 f).toInt64 from if_pos hE]; exact hD) hS (by decide) (by decide) (by rw [hk_fill, if_pos hE]) trivial
  · rcases (ev_fill b1 n1) with hV | hV | hV
    · exact absurd hV hE
    · refine c_XV1 (i0 := 0) (ci := 2) (k2 := 1) (h1 := (0, 11, 14, 19)) (hs := [(0, 11, 18, 21)]) FX (x_X0_fill l hl0 D cI cB x bx px t f g ak su gt lf rf kn b1 n1 hE) hV mi_X0_fill rfl ml_RL_7 (RMok.mk) hl.1 rfl (Nat.le_of_ble_eq_true rfl) dL_fill_4 (by decide) hK hP hA [0, 1, 2] rfl rfl rfl rfl hz.1.1 htb (by decide) (by decide) cl_RL_19 (by decide) (fun q9 H locs hP hS => ?_)
      refine lv_astore (lv' := [(4, .ref q9), (0, .ref x), (1, .int b1), (2, .int n1), (3, .ref q)]) FX.1 FX.2.1 dL_fill_14 hl (by decide) rfl (fun ls hl => ?_)
      refine lv_iconst (v := 1) FX.1 FX.2.1 dL_fill_16 (by decide) ?_
      exact retJi () FX hr hlk dL_fill_17 rfl (by rw [show hf_fill b1 n1 f = f from if_neg hE, show hn_fill b1 n1 f n0 = n0 from if_neg hE]; exact hP) hK (by rw [show hf_fill b1 n1 f = f from if_neg hE, show hn_fill b1 n1 f n0 = n0 from if_neg hE]; exact hD) hS (by decide) (by decide) (by rw [hk_fill, if_neg hE, if_pos hV]) trivial
    · refine c_XV2 (i0 := 0) (ci := 2) (k1 := 1) (k2 := 2) (h1 := (0, 11, 14, 19)) (h2 := (0, 11, 18, 21)) (hs := []) FX (x_X0_fill l hl0 D cI cB x bx px t f g ak su gt lf rf kn b1 n1 hE) hV mi_X0_fill rfl ml_RL_7 (RMok.mk) hl.1 rfl (Nat.le_of_ble_eq_true rfl) dL_fill_4 (by decide) hK hP hA [0, 1, 2] rfl rfl rfl rfl hz.1.1 hz.1.2 htb (by decide) cl_RL_19 (by decide) (by decide) (by decide) cl_RL_21 (by decide) (fun q9 H locs hP hS => ?_)
      refine lv_astore (lv' := [(4, .ref q9), (0, .ref x), (1, .int b1), (2, .int n1), (3, .ref q)]) FX.1 FX.2.1 dL_fill_18 hl (by decide) rfl (fun ls hl => ?_)
      refine lv_iconst (v := 2) FX.1 FX.2.1 dL_fill_20 (by decide) ?_
      exact retJi () FX hr hlk dL_fill_21 rfl (by rw [show hf_fill b1 n1 f = f from if_neg hE, show hn_fill b1 n1 f n0 = n0 from if_neg hE]; exact hP) hK (by rw [show hf_fill b1 n1 f = f from if_neg hE, show hn_fill b1 n1 f n0 = n0 from if_neg hE]; exact hD) hS (by decide) (by decide) (by rw [hk_fill, if_neg hE, if_neg (by rw [hV]; decide)]) trivial
def hk_empty (b1 : Int32) : Int32 := if e_X0_empty b1 = 0 then 0 else 1
theorem ev_empty (b1 : Int32) : e_X0_empty b1 = 0 ∨ e_X0_empty b1 = 1 := by
  unfold e_X0_empty
  repeat' split
  all_goals first | exact Or.inl rfl | exact (rg_X0_needBox _) | exact (rg_X0_needPlain _) | exact Or.inr rfl
def hf_empty (b1 : Int32) (f : Nat → Int32) : Nat → Int32 := if e_X0_empty b1 = 0 then wf_X0_empty b1 f else f
def hn_empty (b1 : Int32) (f : Nat → Int32) (n0 : Int64) : Int64 := if e_X0_empty b1 = 0 then (v_X0_empty b1 f).toInt64 else n0
set_option maxRecDepth 100000 in
set_option maxHeartbeats 4000000 in
theorem j_L_empty (l : Launch) (hl0 : l.stackTraces = false) (D : va_G) (cI cB : ClassId) (x bx px t : Nat) (f g : Nat → Int32) (ak su gt lf rf kn : Int32) (q : Nat) (n0 : Int64) (sv : Value) (b1 : Int32) : JH (S := Unit) l yL_empty cL_empty 4 (some .int) [(0, 10, 13, 19)] ({ frames := 8, cells := 1, slots := 6, locals := 132 } : Room) D cI cB [.ref x, .int b1, .ref q] [(x, .inr (2, [.ref bx, .ref px, .ref t, .int ak, .int su, .int gt, .int lf, .int rf, .int kn])), (bx, .inl (cI, 6, .inl f)), (px, .inl (cI, 2, .inl g)), (q, .inr (3, [.long n0, sv]))] (zAnd (zAnd zz zN) (zF RL 13 RX1 "n" "J" RL)) (fun _ => some (.int (hk_empty b1))) (fun _ => True) (fun _ => [(x, .inr (2, [.ref bx, .ref px, .ref t, .int ak, .int su, .int gt, .int lf, .int rf, .int kn])), (bx, .inl (cI, 6, .inl (hf_empty b1 f))), (px, .inl (cI, 2, .inl g)), (q, .inr (3, [.long (hn_empty b1 f n0), sv]))]) 1 6 := by
  refine bodyJH (by decide +kernel) (Nat.le_of_ble_eq_true rfl) (fun p e s m args below meth c ls A ZZ => ?_)
  obtain ⟨FX, hr, hlk, hK, hP, hD, hS, hA, hz, htb, hl⟩ := ZZ
  have hl : lv_has ls 4 [(0, .ref x), (1, .int b1), (2, .ref q)] := hl
  have hP : va_P D KL [(x, .inr (2, [.ref bx, .ref px, .ref t, .int ak, .int su, .int gt, .int lf, .int rf, .int kn])), (bx, .inl (cI, 6, .inl f)), (px, .inl (cI, 2, .inl g)), (q, .inr (3, [.long n0, sv]))] s.heap := hP
  refine lv_aload_n FX.1 FX.2.1 dL_empty_0 rfl (lv_at hl 2 rfl) ?_
  refine lv_aload_n FX.1 FX.2.1 dL_empty_1 rfl (lv_at hl 0 rfl) ?_
  refine lv_iload_n FX.1 FX.2.1 dL_empty_2 rfl (lv_at hl 1 rfl) ?_
  by_cases hE : e_X0_empty b1 = 0
  · have q_1 : (e_X0_empty b1) = 0 := hE
    refine c_WRV (wr := [(q, .inr (3, [.long n0, sv]))]) (wsN := [(x, .inr (2, [.ref bx, .ref px, .ref t, .int ak, .int su, .int gt, .int lf, .int rf, .int kn])), (bx, .inl (cI, 6, .inl (wf_X0_empty b1 f))), (px, .inl (cI, 2, .inl g)), (q, .inr (3, [.long n0, sv]))]) (i0 := 0) (ci := 2) FX (k_X0_empty l D cI cB x bx px t f g ak su gt lf rf kn b1 q_1) mi_X0_empty rfl ml_RL_23 (RMok.mk) hl.1 rfl (Nat.le_of_ble_eq_true rfl) dL_empty_3 (by decide) hK hP hD hS hA [0, 1, 2] rfl [3] rfl rfl (by decide) [1, 2, 3, 0] rfl rfl rfl rfl rfl (fun H locs hP hD hS => ?_)
    refine lv_i2l (v := (v_X0_empty b1 f).toInt64) FX.1 FX.2.1 dL_empty_6 rfl ?_
    refine p_putN (wsN := [(x, .inr (2, [.ref bx, .ref px, .ref t, .int ak, .int su, .int gt, .int lf, .int rf, .int kn])), (bx, .inl (cI, 6, .inl (wf_X0_empty b1 f))), (px, .inl (cI, 2, .inl g)), (q, .inr (3, [.long ((v_X0_empty b1 f).toInt64), sv]))]) (ci := 3) (v := .long ((v_X0_empty b1 f).toInt64)) (ty := .long) FX inX1 tyX1_ok nmX1 hK hP hD hS 3 rfl rfl 0 (by decide) hz.2 rfl (by decide +kernel) rfl rfl (Nat.le_of_ble_eq_true rfl) dL_empty_7 rfl (fun H locs hP hD hS => ?_)
    refine lv_goto (tgt := 16) FX.1 FX.2.1 dL_empty_10 (by decide) ?_
    refine lv_iconst (v := 0) FX.1 FX.2.1 dL_empty_16 (by decide) ?_
    exact retJi () FX hr hlk dL_empty_17 rfl (by rw [show hf_empty b1 f = wf_X0_empty b1 f from if_pos hE, show hn_empty b1 f n0 = (v_X0_empty b1 f).toInt64 from if_pos hE]; exact hP) hK (by rw [show hf_empty b1 f = wf_X0_empty b1 f from if_pos hE, show hn_empty b1 f n0 = (v_X0_empty b1 f).toInt64 from if_pos hE]; exact hD) hS (by decide) (by decide) (by rw [hk_empty, if_pos hE]) trivial
  · rcases (ev_empty b1) with hV | hV
    · exact absurd hV hE
    · refine c_XV1 (i0 := 0) (ci := 2) (k2 := 1) (h1 := (0, 10, 13, 19)) (hs := []) FX (x_X0_empty l hl0 D cI cB x bx px t f g ak su gt lf rf kn b1 hE) hV mi_X0_empty rfl ml_RL_23 (RMok.mk) hl.1 rfl (Nat.le_of_ble_eq_true rfl) dL_empty_3 (by decide) hK hP hA [0, 1, 2] rfl rfl rfl rfl hz.1.1 htb (by decide) (by decide) cl_RL_19 (by decide) (fun q9 H locs hP hS => ?_)
      refine lv_astore_n (lv' := [(3, .ref q9), (0, .ref x), (1, .int b1), (2, .ref q)]) FX.1 FX.2.1 dL_empty_13 rfl hl (by decide) rfl (fun ls hl => ?_)
      refine lv_iconst (v := 1) FX.1 FX.2.1 dL_empty_14 (by decide) ?_
      exact retJi () FX hr hlk dL_empty_15 rfl (by rw [show hf_empty b1 f = f from if_neg hE, show hn_empty b1 f n0 = n0 from if_neg hE]; exact hP) hK (by rw [show hf_empty b1 f = f from if_neg hE, show hn_empty b1 f n0 = n0 from if_neg hE]; exact hD) hS (by decide) (by decide) (by rw [hk_empty, if_neg hE]) trivial
def hk_fillMaybe (b1 : Int32) (n1 : Int32) : Int32 := if e_X0_fillMaybe b1 n1 = 0 then 0 else if e_X0_fillMaybe b1 n1 = 1 then 1 else 2
theorem ev_fillMaybe (b1 : Int32) (n1 : Int32) : e_X0_fillMaybe b1 n1 = 0 ∨ e_X0_fillMaybe b1 n1 = 1 ∨ e_X0_fillMaybe b1 n1 = 2 := by
  unfold e_X0_fillMaybe
  repeat' split
  all_goals first | exact Or.inl rfl | exact r21 (rg_X0_needBox _) | exact r21 (rg_X0_needPlain _) | exact r22 (rg_X0_needNumber _) | exact r22 (rg_X0_needKind _ _) | exact Or.inr (Or.inl rfl) | exact Or.inr (Or.inr rfl)
def hf_fillMaybe (b1 : Int32) (n1 : Int32) (t1 : Int32) (f : Nat → Int32) : Nat → Int32 := if e_X0_fillMaybe b1 n1 = 0 then wf_X0_fillMaybe b1 n1 t1 f else f
def hn_fillMaybe (b1 : Int32) (n1 : Int32) (t1 : Int32) (f : Nat → Int32) (n0 : Int64) : Int64 := if e_X0_fillMaybe b1 n1 = 0 then (v_X0_fillMaybe b1 n1 t1 f).toInt64 else n0
set_option maxRecDepth 100000 in
set_option maxHeartbeats 4000000 in
theorem j_L_fillMaybe (l : Launch) (hl0 : l.stackTraces = false) (D : va_G) (cI cB : ClassId) (x bx px t : Nat) (f g : Nat → Int32) (ak su gt lf rf kn : Int32) (q : Nat) (n0 : Int64) (sv : Value) (b1 : Int32) (n1 : Int32) (t1 : Int32) : JH (S := Unit) l yL_fillMaybe cL_fillMaybe 6 (some .int) [(0, 13, 16, 19), (0, 13, 20, 21)] ({ frames := 8, cells := 1, slots := 6, locals := 133 } : Room) D cI cB [.ref x, .int b1, .int n1, .int t1, .ref q] [(x, .inr (2, [.ref bx, .ref px, .ref t, .int ak, .int su, .int gt, .int lf, .int rf, .int kn])), (bx, .inl (cI, 6, .inl f)), (px, .inl (cI, 2, .inl g)), (q, .inr (3, [.long n0, sv]))] (zAnd (zAnd zz zN) (zF RL 13 RX1 "n" "J" RL)) (fun _ => some (.int (hk_fillMaybe b1 n1))) (fun _ => True) (fun _ => [(x, .inr (2, [.ref bx, .ref px, .ref t, .int ak, .int su, .int gt, .int lf, .int rf, .int kn])), (bx, .inl (cI, 6, .inl (hf_fillMaybe b1 n1 t1 f))), (px, .inl (cI, 2, .inl g)), (q, .inr (3, [.long (hn_fillMaybe b1 n1 t1 f n0), sv]))]) 1 6 := by
  refine bodyJH (by decide +kernel) (Nat.le_of_ble_eq_true rfl) (fun p e s m args below meth c ls A ZZ => ?_)
  obtain ⟨FX, hr, hlk, hK, hP, hD, hS, hA, hz, htb, hl⟩ := ZZ
  have hl : lv_has ls 6 [(0, .ref x), (1, .int b1), (2, .int n1), (3, .int t1), (4, .ref q)] := hl
  have hP : va_P D KL [(x, .inr (2, [.ref bx, .ref px, .ref t, .int ak, .int su, .int gt, .int lf, .int rf, .int kn])), (bx, .inl (cI, 6, .inl f)), (px, .inl (cI, 2, .inl g)), (q, .inr (3, [.long n0, sv]))] s.heap := hP
  refine lv_aload FX.1 FX.2.1 dL_fillMaybe_0 (lv_at hl 4 rfl) ?_
  refine lv_aload_n FX.1 FX.2.1 dL_fillMaybe_2 rfl (lv_at hl 0 rfl) ?_
  refine lv_iload_n FX.1 FX.2.1 dL_fillMaybe_3 rfl (lv_at hl 1 rfl) ?_
  refine lv_iload_n FX.1 FX.2.1 dL_fillMaybe_4 rfl (lv_at hl 2 rfl) ?_
  refine lv_iload_n FX.1 FX.2.1 dL_fillMaybe_5 rfl (lv_at hl 3 rfl) ?_
  by_cases hE : e_X0_fillMaybe b1 n1 = 0
  · have q_1 : (e_X0_fillMaybe b1 n1) = 0 := hE
    refine c_WRV (wr := [(q, .inr (3, [.long n0, sv]))]) (wsN := [(x, .inr (2, [.ref bx, .ref px, .ref t, .int ak, .int su, .int gt, .int lf, .int rf, .int kn])), (bx, .inl (cI, 6, .inl (wf_X0_fillMaybe b1 n1 t1 f))), (px, .inl (cI, 2, .inl g)), (q, .inr (3, [.long n0, sv]))]) (i0 := 0) (ci := 2) FX (k_X0_fillMaybe l D cI cB x bx px t f g ak su gt lf rf kn b1 n1 t1 q_1) mi_X0_fillMaybe rfl ml_RL_27 (RMok.mk) hl.1 rfl (Nat.le_of_ble_eq_true rfl) dL_fillMaybe_6 (by decide) hK hP hD hS hA [0, 1, 2] rfl [3] rfl rfl (by decide) [1, 2, 3, 0] rfl rfl rfl rfl rfl (fun H locs hP hD hS => ?_)
    refine lv_i2l (v := (v_X0_fillMaybe b1 n1 t1 f).toInt64) FX.1 FX.2.1 dL_fillMaybe_9 rfl ?_
    refine p_putN (wsN := [(x, .inr (2, [.ref bx, .ref px, .ref t, .int ak, .int su, .int gt, .int lf, .int rf, .int kn])), (bx, .inl (cI, 6, .inl (wf_X0_fillMaybe b1 n1 t1 f))), (px, .inl (cI, 2, .inl g)), (q, .inr (3, [.long ((v_X0_fillMaybe b1 n1 t1 f).toInt64), sv]))]) (ci := 3) (v := .long ((v_X0_fillMaybe b1 n1 t1 f).toInt64)) (ty := .long) FX inX1 tyX1_ok nmX1 hK hP hD hS 3 rfl rfl 0 (by decide) hz.2 rfl (by decide +kernel) rfl rfl (Nat.le_of_ble_eq_true rfl) dL_fillMaybe_10 rfl (fun H locs hP hD hS => ?_)
    refine lv_goto (tgt := 24) FX.1 FX.2.1 dL_fillMaybe_13 (by decide) ?_
    refine lv_iconst (v := 0) FX.1 FX.2.1 dL_fillMaybe_24 (by decide) ?_
    exact retJi () FX hr hlk dL_fillMaybe_25 rfl (by rw [show hf_fillMaybe b1 n1 t1 f = wf_X0_fillMaybe b1 n1 t1 f from if_pos hE, show hn_fillMaybe b1 n1 t1 f n0 = (v_X0_fillMaybe b1 n1 t1 f).toInt64 from if_pos hE]; exact hP) hK (by rw [show hf_fillMaybe b1 n1 t1 f = wf_X0_fillMaybe b1 n1 t1 f from if_pos hE, show hn_fillMaybe b1 n1 t1 f n0 = (v_X0_fillMaybe b1 n1 t1 f).toInt64 from if_pos hE]; exact hD) hS (by decide) (by decide) (by rw [hk_fillMaybe, if_pos hE]) trivial
  · rcases (ev_fillMaybe b1 n1) with hV | hV | hV
    · exact absurd hV hE
    · refine c_XV1 (i0 := 0) (ci := 2) (k2 := 1) (h1 := (0, 13, 16, 19)) (hs := [(0, 13, 20, 21)]) FX (x_X0_fillMaybe l hl0 D cI cB x bx px t f g ak su gt lf rf kn b1 n1 t1 hE) hV mi_X0_fillMaybe rfl ml_RL_27 (RMok.mk) hl.1 rfl (Nat.le_of_ble_eq_true rfl) dL_fillMaybe_6 (by decide) hK hP hA [0, 1, 2] rfl rfl rfl rfl hz.1.1 htb (by decide) (by decide) cl_RL_19 (by decide) (fun q9 H locs hP hS => ?_)
      refine lv_astore (lv' := [(5, .ref q9), (0, .ref x), (1, .int b1), (2, .int n1), (3, .int t1), (4, .ref q)]) FX.1 FX.2.1 dL_fillMaybe_16 hl (by decide) rfl (fun ls hl => ?_)
      refine lv_iconst (v := 1) FX.1 FX.2.1 dL_fillMaybe_18 (by decide) ?_
      exact retJi () FX hr hlk dL_fillMaybe_19 rfl (by rw [show hf_fillMaybe b1 n1 t1 f = f from if_neg hE, show hn_fillMaybe b1 n1 t1 f n0 = n0 from if_neg hE]; exact hP) hK (by rw [show hf_fillMaybe b1 n1 t1 f = f from if_neg hE, show hn_fillMaybe b1 n1 t1 f n0 = n0 from if_neg hE]; exact hD) hS (by decide) (by decide) (by rw [hk_fillMaybe, if_neg hE, if_pos hV]) trivial
    · refine c_XV2 (i0 := 0) (ci := 2) (k1 := 1) (k2 := 2) (h1 := (0, 13, 16, 19)) (h2 := (0, 13, 20, 21)) (hs := []) FX (x_X0_fillMaybe l hl0 D cI cB x bx px t f g ak su gt lf rf kn b1 n1 t1 hE) hV mi_X0_fillMaybe rfl ml_RL_27 (RMok.mk) hl.1 rfl (Nat.le_of_ble_eq_true rfl) dL_fillMaybe_6 (by decide) hK hP hA [0, 1, 2] rfl rfl rfl rfl hz.1.1 hz.1.2 htb (by decide) cl_RL_19 (by decide) (by decide) (by decide) cl_RL_21 (by decide) (fun q9 H locs hP hS => ?_)
      refine lv_astore (lv' := [(5, .ref q9), (0, .ref x), (1, .int b1), (2, .int n1), (3, .int t1), (4, .ref q)]) FX.1 FX.2.1 dL_fillMaybe_20 hl (by decide) rfl (fun ls hl => ?_)
      refine lv_iconst (v := 2) FX.1 FX.2.1 dL_fillMaybe_22 (by decide) ?_
      exact retJi () FX hr hlk dL_fillMaybe_23 rfl (by rw [show hf_fillMaybe b1 n1 t1 f = f from if_neg hE, show hn_fillMaybe b1 n1 t1 f n0 = n0 from if_neg hE]; exact hP) hK (by rw [show hf_fillMaybe b1 n1 t1 f = f from if_neg hE, show hn_fillMaybe b1 n1 t1 f n0 = n0 from if_neg hE]; exact hD) hS (by decide) (by decide) (by rw [hk_fillMaybe, if_neg hE, if_neg (by rw [hV]; decide)]) trivial
def hk_copy (b1 : Int32) (b2 : Int32) : Int32 := if e_X0_copy b1 b2 = 0 then 0 else 1
theorem ev_copy (b1 : Int32) (b2 : Int32) : e_X0_copy b1 b2 = 0 ∨ e_X0_copy b1 b2 = 1 := by
  unfold e_X0_copy
  repeat' split
  all_goals first | exact Or.inl rfl | exact (rg_X0_needBox _) | exact (rg_X0_needPlain _) | exact Or.inr rfl
def hf_copy (b1 : Int32) (b2 : Int32) (f : Nat → Int32) : Nat → Int32 := if e_X0_copy b1 b2 = 0 then wf_X0_copy b1 b2 f else f
def hn_copy (b1 : Int32) (b2 : Int32) (f : Nat → Int32) (n0 : Int64) : Int64 := if e_X0_copy b1 b2 = 0 then (v_X0_copy b1 b2 f).toInt64 else n0
set_option maxRecDepth 100000 in
set_option maxHeartbeats 4000000 in
theorem j_L_copy (l : Launch) (hl0 : l.stackTraces = false) (D : va_G) (cI cB : ClassId) (x bx px t : Nat) (f g : Nat → Int32) (ak su gt lf rf kn : Int32) (q : Nat) (n0 : Int64) (sv : Value) (b1 : Int32) (b2 : Int32) : JH (S := Unit) l yL_copy cL_copy 5 (some .int) [(0, 11, 14, 19)] ({ frames := 8, cells := 1, slots := 6, locals := 132 } : Room) D cI cB [.ref x, .int b1, .int b2, .ref q] [(x, .inr (2, [.ref bx, .ref px, .ref t, .int ak, .int su, .int gt, .int lf, .int rf, .int kn])), (bx, .inl (cI, 6, .inl f)), (px, .inl (cI, 2, .inl g)), (q, .inr (3, [.long n0, sv]))] (zAnd (zAnd zz zN) (zF RL 13 RX1 "n" "J" RL)) (fun _ => some (.int (hk_copy b1 b2))) (fun _ => True) (fun _ => [(x, .inr (2, [.ref bx, .ref px, .ref t, .int ak, .int su, .int gt, .int lf, .int rf, .int kn])), (bx, .inl (cI, 6, .inl (hf_copy b1 b2 f))), (px, .inl (cI, 2, .inl g)), (q, .inr (3, [.long (hn_copy b1 b2 f n0), sv]))]) 1 6 := by
  refine bodyJH (by decide +kernel) (Nat.le_of_ble_eq_true rfl) (fun p e s m args below meth c ls A ZZ => ?_)
  obtain ⟨FX, hr, hlk, hK, hP, hD, hS, hA, hz, htb, hl⟩ := ZZ
  have hl : lv_has ls 5 [(0, .ref x), (1, .int b1), (2, .int b2), (3, .ref q)] := hl
  have hP : va_P D KL [(x, .inr (2, [.ref bx, .ref px, .ref t, .int ak, .int su, .int gt, .int lf, .int rf, .int kn])), (bx, .inl (cI, 6, .inl f)), (px, .inl (cI, 2, .inl g)), (q, .inr (3, [.long n0, sv]))] s.heap := hP
  refine lv_aload_n FX.1 FX.2.1 dL_copy_0 rfl (lv_at hl 3 rfl) ?_
  refine lv_aload_n FX.1 FX.2.1 dL_copy_1 rfl (lv_at hl 0 rfl) ?_
  refine lv_iload_n FX.1 FX.2.1 dL_copy_2 rfl (lv_at hl 1 rfl) ?_
  refine lv_iload_n FX.1 FX.2.1 dL_copy_3 rfl (lv_at hl 2 rfl) ?_
  by_cases hE : e_X0_copy b1 b2 = 0
  · have q_1 : (e_X0_copy b1 b2) = 0 := hE
    refine c_WRV (wr := [(q, .inr (3, [.long n0, sv]))]) (wsN := [(x, .inr (2, [.ref bx, .ref px, .ref t, .int ak, .int su, .int gt, .int lf, .int rf, .int kn])), (bx, .inl (cI, 6, .inl (wf_X0_copy b1 b2 f))), (px, .inl (cI, 2, .inl g)), (q, .inr (3, [.long n0, sv]))]) (i0 := 0) (ci := 2) FX (k_X0_copy l D cI cB x bx px t f g ak su gt lf rf kn b1 b2 q_1) mi_X0_copy rfl ml_RL_31 (RMok.mk) hl.1 rfl (Nat.le_of_ble_eq_true rfl) dL_copy_4 (by decide) hK hP hD hS hA [0, 1, 2] rfl [3] rfl rfl (by decide) [1, 2, 3, 0] rfl rfl rfl rfl rfl (fun H locs hP hD hS => ?_)
    refine lv_i2l (v := (v_X0_copy b1 b2 f).toInt64) FX.1 FX.2.1 dL_copy_7 rfl ?_
    refine p_putN (wsN := [(x, .inr (2, [.ref bx, .ref px, .ref t, .int ak, .int su, .int gt, .int lf, .int rf, .int kn])), (bx, .inl (cI, 6, .inl (wf_X0_copy b1 b2 f))), (px, .inl (cI, 2, .inl g)), (q, .inr (3, [.long ((v_X0_copy b1 b2 f).toInt64), sv]))]) (ci := 3) (v := .long ((v_X0_copy b1 b2 f).toInt64)) (ty := .long) FX inX1 tyX1_ok nmX1 hK hP hD hS 3 rfl rfl 0 (by decide) hz.2 rfl (by decide +kernel) rfl rfl (Nat.le_of_ble_eq_true rfl) dL_copy_8 rfl (fun H locs hP hD hS => ?_)
    refine lv_goto (tgt := 18) FX.1 FX.2.1 dL_copy_11 (by decide) ?_
    refine lv_iconst (v := 0) FX.1 FX.2.1 dL_copy_18 (by decide) ?_
    exact retJi () FX hr hlk dL_copy_19 rfl (by rw [show hf_copy b1 b2 f = wf_X0_copy b1 b2 f from if_pos hE, show hn_copy b1 b2 f n0 = (v_X0_copy b1 b2 f).toInt64 from if_pos hE]; exact hP) hK (by rw [show hf_copy b1 b2 f = wf_X0_copy b1 b2 f from if_pos hE, show hn_copy b1 b2 f n0 = (v_X0_copy b1 b2 f).toInt64 from if_pos hE]; exact hD) hS (by decide) (by decide) (by rw [hk_copy, if_pos hE]) trivial
  · rcases (ev_copy b1 b2) with hV | hV
    · exact absurd hV hE
    · refine c_XV1 (i0 := 0) (ci := 2) (k2 := 1) (h1 := (0, 11, 14, 19)) (hs := []) FX (x_X0_copy l hl0 D cI cB x bx px t f g ak su gt lf rf kn b1 b2 hE) hV mi_X0_copy rfl ml_RL_31 (RMok.mk) hl.1 rfl (Nat.le_of_ble_eq_true rfl) dL_copy_4 (by decide) hK hP hA [0, 1, 2] rfl rfl rfl rfl hz.1.1 htb (by decide) (by decide) cl_RL_19 (by decide) (fun q9 H locs hP hS => ?_)
      refine lv_astore (lv' := [(4, .ref q9), (0, .ref x), (1, .int b1), (2, .int b2), (3, .ref q)]) FX.1 FX.2.1 dL_copy_14 hl (by decide) rfl (fun ls hl => ?_)
      refine lv_iconst (v := 1) FX.1 FX.2.1 dL_copy_16 (by decide) ?_
      exact retJi () FX hr hlk dL_copy_17 rfl (by rw [show hf_copy b1 b2 f = f from if_neg hE, show hn_copy b1 b2 f n0 = n0 from if_neg hE]; exact hP) hK (by rw [show hf_copy b1 b2 f = f from if_neg hE, show hn_copy b1 b2 f n0 = n0 from if_neg hE]; exact hD) hS (by decide) (by decide) (by rw [hk_copy, if_neg hE]) trivial
def hk_map (b1 : Int32) (b2 : Int32) (k1 : Int32) (y1 : Int32) : Int32 := if e_X0_map b1 b2 k1 y1 = 0 then 0 else if e_X0_map b1 b2 k1 y1 = 1 then 1 else 2
theorem ev_map (b1 : Int32) (b2 : Int32) (k1 : Int32) (y1 : Int32) : e_X0_map b1 b2 k1 y1 = 0 ∨ e_X0_map b1 b2 k1 y1 = 1 ∨ e_X0_map b1 b2 k1 y1 = 2 := by
  unfold e_X0_map
  repeat' split
  all_goals first | exact Or.inl rfl | exact r21 (rg_X0_needBox _) | exact r21 (rg_X0_needPlain _) | exact r22 (rg_X0_needNumber _) | exact r22 (rg_X0_needKind _ _) | exact Or.inr (Or.inl rfl) | exact Or.inr (Or.inr rfl)
def hf_map (b1 : Int32) (b2 : Int32) (k1 : Int32) (y1 : Int32) (f : Nat → Int32) : Nat → Int32 := if e_X0_map b1 b2 k1 y1 = 0 then wf_X0_map b1 b2 k1 y1 f else f
def hak_map (b1 : Int32) (b2 : Int32) (k1 : Int32) (y1 : Int32) (f : Nat → Int32) (ak : Int32) : Int32 := if e_X0_map b1 b2 k1 y1 = 0 then wak_X0_map b2 f ak else ak
def hn_map (b1 : Int32) (b2 : Int32) (k1 : Int32) (y1 : Int32) (f : Nat → Int32) (n0 : Int64) : Int64 := if e_X0_map b1 b2 k1 y1 = 0 then (v_X0_map b1 b2 k1 y1 f).toInt64 else n0
set_option maxRecDepth 100000 in
set_option maxHeartbeats 4000000 in
theorem j_L_map (l : Launch) (hl0 : l.stackTraces = false) (D : va_G) (cI cB : ClassId) (x bx px t : Nat) (f g : Nat → Int32) (ak su gt lf rf kn : Int32) (q : Nat) (n0 : Int64) (sv : Value) (b1 : Int32) (b2 : Int32) (k1 : Int32) (y1 : Int32) : JH (S := Unit) l yL_map cL_map 7 (some .int) [(0, 15, 18, 19), (0, 15, 22, 21)] ({ frames := 8, cells := 1, slots := 6, locals := 135 } : Room) D cI cB [.ref x, .int b1, .int b2, .int k1, .int y1, .ref q] [(x, .inr (2, [.ref bx, .ref px, .ref t, .int ak, .int su, .int gt, .int lf, .int rf, .int kn])), (bx, .inl (cI, 6, .inl f)), (px, .inl (cI, 2, .inl g)), (q, .inr (3, [.long n0, sv]))] (zAnd (zAnd zz zN) (zF RL 13 RX1 "n" "J" RL)) (fun _ => some (.int (hk_map b1 b2 k1 y1))) (fun _ => True) (fun _ => [(x, .inr (2, [.ref bx, .ref px, .ref t, .int (hak_map b1 b2 k1 y1 f ak), .int su, .int gt, .int lf, .int rf, .int kn])), (bx, .inl (cI, 6, .inl (hf_map b1 b2 k1 y1 f))), (px, .inl (cI, 2, .inl g)), (q, .inr (3, [.long (hn_map b1 b2 k1 y1 f n0), sv]))]) 1 6 := by
  refine bodyJH (by decide +kernel) (Nat.le_of_ble_eq_true rfl) (fun p e s m args below meth c ls A ZZ => ?_)
  obtain ⟨FX, hr, hlk, hK, hP, hD, hS, hA, hz, htb, hl⟩ := ZZ
  have hl : lv_has ls 7 [(0, .ref x), (1, .int b1), (2, .int b2), (3, .int k1), (4, .int y1), (5, .ref q)] := hl
  have hP : va_P D KL [(x, .inr (2, [.ref bx, .ref px, .ref t, .int ak, .int su, .int gt, .int lf, .int rf, .int kn])), (bx, .inl (cI, 6, .inl f)), (px, .inl (cI, 2, .inl g)), (q, .inr (3, [.long n0, sv]))] s.heap := hP
  refine lv_aload FX.1 FX.2.1 dL_map_0 (lv_at hl 5 rfl) ?_
  refine lv_aload_n FX.1 FX.2.1 dL_map_2 rfl (lv_at hl 0 rfl) ?_
  refine lv_iload_n FX.1 FX.2.1 dL_map_3 rfl (lv_at hl 1 rfl) ?_
  refine lv_iload_n FX.1 FX.2.1 dL_map_4 rfl (lv_at hl 2 rfl) ?_
  refine lv_iload_n FX.1 FX.2.1 dL_map_5 rfl (lv_at hl 3 rfl) ?_
  refine lv_iload FX.1 FX.2.1 dL_map_6 (lv_at hl 4 rfl) ?_
  by_cases hE : e_X0_map b1 b2 k1 y1 = 0
  · have q_1 : (e_X0_map b1 b2 k1 y1) = 0 := hE
    refine c_WRV (wr := [(q, .inr (3, [.long n0, sv]))]) (wsN := [(x, .inr (2, [.ref bx, .ref px, .ref t, .int (wak_X0_map b2 f ak), .int su, .int gt, .int lf, .int rf, .int kn])), (bx, .inl (cI, 6, .inl (wf_X0_map b1 b2 k1 y1 f))), (px, .inl (cI, 2, .inl g)), (q, .inr (3, [.long n0, sv]))]) (i0 := 0) (ci := 2) FX (k_X0_map l D cI cB x bx px t f g ak su gt lf rf kn b1 b2 k1 y1 q_1) mi_X0_map rfl ml_RL_34 (RMok.mk) hl.1 rfl (Nat.le_of_ble_eq_true rfl) dL_map_8 (by decide) hK hP hD hS hA [0, 1, 2] rfl [3] rfl rfl (by decide) [1, 2, 3, 0] rfl rfl rfl rfl rfl (fun H locs hP hD hS => ?_)
    refine lv_i2l (v := (v_X0_map b1 b2 k1 y1 f).toInt64) FX.1 FX.2.1 dL_map_11 rfl ?_
    refine p_putN (wsN := [(x, .inr (2, [.ref bx, .ref px, .ref t, .int (wak_X0_map b2 f ak), .int su, .int gt, .int lf, .int rf, .int kn])), (bx, .inl (cI, 6, .inl (wf_X0_map b1 b2 k1 y1 f))), (px, .inl (cI, 2, .inl g)), (q, .inr (3, [.long ((v_X0_map b1 b2 k1 y1 f).toInt64), sv]))]) (ci := 3) (v := .long ((v_X0_map b1 b2 k1 y1 f).toInt64)) (ty := .long) FX inX1 tyX1_ok nmX1 hK hP hD hS 3 rfl rfl 0 (by decide) hz.2 rfl (by decide +kernel) rfl rfl (Nat.le_of_ble_eq_true rfl) dL_map_12 rfl (fun H locs hP hD hS => ?_)
    refine lv_goto (tgt := 26) FX.1 FX.2.1 dL_map_15 (by decide) ?_
    refine lv_iconst (v := 0) FX.1 FX.2.1 dL_map_26 (by decide) ?_
    exact retJi () FX hr hlk dL_map_27 rfl (by rw [show hf_map b1 b2 k1 y1 f = wf_X0_map b1 b2 k1 y1 f from if_pos hE, show hak_map b1 b2 k1 y1 f ak = wak_X0_map b2 f ak from if_pos hE, show hn_map b1 b2 k1 y1 f n0 = (v_X0_map b1 b2 k1 y1 f).toInt64 from if_pos hE]; exact hP) hK (by rw [show hf_map b1 b2 k1 y1 f = wf_X0_map b1 b2 k1 y1 f from if_pos hE, show hak_map b1 b2 k1 y1 f ak = wak_X0_map b2 f ak from if_pos hE, show hn_map b1 b2 k1 y1 f n0 = (v_X0_map b1 b2 k1 y1 f).toInt64 from if_pos hE]; exact hD) hS (by decide) (by decide) (by rw [hk_map, if_pos hE]) trivial
  · rcases (ev_map b1 b2 k1 y1) with hV | hV | hV
    · exact absurd hV hE
    · refine c_XV1 (i0 := 0) (ci := 2) (k2 := 1) (h1 := (0, 15, 18, 19)) (hs := [(0, 15, 22, 21)]) FX (x_X0_map l hl0 D cI cB x bx px t f g ak su gt lf rf kn b1 b2 k1 y1 hE) hV mi_X0_map rfl ml_RL_34 (RMok.mk) hl.1 rfl (Nat.le_of_ble_eq_true rfl) dL_map_8 (by decide) hK hP hA [0, 1, 2] rfl rfl rfl rfl hz.1.1 htb (by decide) (by decide) cl_RL_19 (by decide) (fun q9 H locs hP hS => ?_)
      refine lv_astore (lv' := [(6, .ref q9), (0, .ref x), (1, .int b1), (2, .int b2), (3, .int k1), (4, .int y1), (5, .ref q)]) FX.1 FX.2.1 dL_map_18 hl (by decide) rfl (fun ls hl => ?_)
      refine lv_iconst (v := 1) FX.1 FX.2.1 dL_map_20 (by decide) ?_
      exact retJi () FX hr hlk dL_map_21 rfl (by rw [show hf_map b1 b2 k1 y1 f = f from if_neg hE, show hak_map b1 b2 k1 y1 f ak = ak from if_neg hE, show hn_map b1 b2 k1 y1 f n0 = n0 from if_neg hE]; exact hP) hK (by rw [show hf_map b1 b2 k1 y1 f = f from if_neg hE, show hak_map b1 b2 k1 y1 f ak = ak from if_neg hE, show hn_map b1 b2 k1 y1 f n0 = n0 from if_neg hE]; exact hD) hS (by decide) (by decide) (by rw [hk_map, if_neg hE, if_pos hV]) trivial
    · refine c_XV2 (i0 := 0) (ci := 2) (k1 := 1) (k2 := 2) (h1 := (0, 15, 18, 19)) (h2 := (0, 15, 22, 21)) (hs := []) FX (x_X0_map l hl0 D cI cB x bx px t f g ak su gt lf rf kn b1 b2 k1 y1 hE) hV mi_X0_map rfl ml_RL_34 (RMok.mk) hl.1 rfl (Nat.le_of_ble_eq_true rfl) dL_map_8 (by decide) hK hP hA [0, 1, 2] rfl rfl rfl rfl hz.1.1 hz.1.2 htb (by decide) cl_RL_19 (by decide) (by decide) (by decide) cl_RL_21 (by decide) (fun q9 H locs hP hS => ?_)
      refine lv_astore (lv' := [(6, .ref q9), (0, .ref x), (1, .int b1), (2, .int b2), (3, .int k1), (4, .int y1), (5, .ref q)]) FX.1 FX.2.1 dL_map_22 hl (by decide) rfl (fun ls hl => ?_)
      refine lv_iconst (v := 2) FX.1 FX.2.1 dL_map_24 (by decide) ?_
      exact retJi () FX hr hlk dL_map_25 rfl (by rw [show hf_map b1 b2 k1 y1 f = f from if_neg hE, show hak_map b1 b2 k1 y1 f ak = ak from if_neg hE, show hn_map b1 b2 k1 y1 f n0 = n0 from if_neg hE]; exact hP) hK (by rw [show hf_map b1 b2 k1 y1 f = f from if_neg hE, show hak_map b1 b2 k1 y1 f ak = ak from if_neg hE, show hn_map b1 b2 k1 y1 f n0 = n0 from if_neg hE]; exact hD) hS (by decide) (by decide) (by rw [hk_map, if_neg hE, if_neg (by rw [hV]; decide)]) trivial
def hk_turn (b1 : Int32) (b2 : Int32) (k1 : Int32) (y1 : Int32) : Int32 := if e_X0_turn b1 b2 k1 y1 = 0 then 0 else if e_X0_turn b1 b2 k1 y1 = 1 then 1 else 2
theorem ev_turn (b1 : Int32) (b2 : Int32) (k1 : Int32) (y1 : Int32) : e_X0_turn b1 b2 k1 y1 = 0 ∨ e_X0_turn b1 b2 k1 y1 = 1 ∨ e_X0_turn b1 b2 k1 y1 = 2 := by
  unfold e_X0_turn
  repeat' split
  all_goals first | exact Or.inl rfl | exact r21 (rg_X0_needBox _) | exact r21 (rg_X0_needPlain _) | exact r22 (rg_X0_needNumber _) | exact r22 (rg_X0_needKind _ _) | exact Or.inr (Or.inl rfl) | exact Or.inr (Or.inr rfl)
def hf_turn (b1 : Int32) (b2 : Int32) (k1 : Int32) (y1 : Int32) (f : Nat → Int32) : Nat → Int32 := if e_X0_turn b1 b2 k1 y1 = 0 then wf_X0_turn b1 b2 k1 y1 f else f
def hak_turn (b1 : Int32) (b2 : Int32) (k1 : Int32) (y1 : Int32) (f : Nat → Int32) (ak : Int32) : Int32 := if e_X0_turn b1 b2 k1 y1 = 0 then wak_X0_turn b2 f ak else ak
def hn_turn (b1 : Int32) (b2 : Int32) (k1 : Int32) (y1 : Int32) (f : Nat → Int32) (n0 : Int64) : Int64 := if e_X0_turn b1 b2 k1 y1 = 0 then (v_X0_turn b1 b2 k1 y1 f).toInt64 else n0
set_option maxRecDepth 100000 in
set_option maxHeartbeats 4000000 in
theorem j_L_turn (l : Launch) (hl0 : l.stackTraces = false) (D : va_G) (cI cB : ClassId) (x bx px t : Nat) (f g : Nat → Int32) (ak su gt lf rf kn : Int32) (q : Nat) (n0 : Int64) (sv : Value) (b1 : Int32) (b2 : Int32) (k1 : Int32) (y1 : Int32) : JH (S := Unit) l yL_turn cL_turn 7 (some .int) [(0, 15, 18, 19), (0, 15, 22, 21)] ({ frames := 8, cells := 1, slots := 6, locals := 135 } : Room) D cI cB [.ref x, .int b1, .int b2, .int k1, .int y1, .ref q] [(x, .inr (2, [.ref bx, .ref px, .ref t, .int ak, .int su, .int gt, .int lf, .int rf, .int kn])), (bx, .inl (cI, 6, .inl f)), (px, .inl (cI, 2, .inl g)), (q, .inr (3, [.long n0, sv]))] (zAnd (zAnd zz zN) (zF RL 13 RX1 "n" "J" RL)) (fun _ => some (.int (hk_turn b1 b2 k1 y1))) (fun _ => True) (fun _ => [(x, .inr (2, [.ref bx, .ref px, .ref t, .int (hak_turn b1 b2 k1 y1 f ak), .int su, .int gt, .int lf, .int rf, .int kn])), (bx, .inl (cI, 6, .inl (hf_turn b1 b2 k1 y1 f))), (px, .inl (cI, 2, .inl g)), (q, .inr (3, [.long (hn_turn b1 b2 k1 y1 f n0), sv]))]) 1 6 := by
  refine bodyJH (by decide +kernel) (Nat.le_of_ble_eq_true rfl) (fun p e s m args below meth c ls A ZZ => ?_)
  obtain ⟨FX, hr, hlk, hK, hP, hD, hS, hA, hz, htb, hl⟩ := ZZ
  have hl : lv_has ls 7 [(0, .ref x), (1, .int b1), (2, .int b2), (3, .int k1), (4, .int y1), (5, .ref q)] := hl
  have hP : va_P D KL [(x, .inr (2, [.ref bx, .ref px, .ref t, .int ak, .int su, .int gt, .int lf, .int rf, .int kn])), (bx, .inl (cI, 6, .inl f)), (px, .inl (cI, 2, .inl g)), (q, .inr (3, [.long n0, sv]))] s.heap := hP
  refine lv_aload FX.1 FX.2.1 dL_turn_0 (lv_at hl 5 rfl) ?_
  refine lv_aload_n FX.1 FX.2.1 dL_turn_2 rfl (lv_at hl 0 rfl) ?_
  refine lv_iload_n FX.1 FX.2.1 dL_turn_3 rfl (lv_at hl 1 rfl) ?_
  refine lv_iload_n FX.1 FX.2.1 dL_turn_4 rfl (lv_at hl 2 rfl) ?_
  refine lv_iload_n FX.1 FX.2.1 dL_turn_5 rfl (lv_at hl 3 rfl) ?_
  refine lv_iload FX.1 FX.2.1 dL_turn_6 (lv_at hl 4 rfl) ?_
  by_cases hE : e_X0_turn b1 b2 k1 y1 = 0
  · have q_1 : (e_X0_turn b1 b2 k1 y1) = 0 := hE
    refine c_WRV (wr := [(q, .inr (3, [.long n0, sv]))]) (wsN := [(x, .inr (2, [.ref bx, .ref px, .ref t, .int (wak_X0_turn b2 f ak), .int su, .int gt, .int lf, .int rf, .int kn])), (bx, .inl (cI, 6, .inl (wf_X0_turn b1 b2 k1 y1 f))), (px, .inl (cI, 2, .inl g)), (q, .inr (3, [.long n0, sv]))]) (i0 := 0) (ci := 2) FX (k_X0_turn l D cI cB x bx px t f g ak su gt lf rf kn b1 b2 k1 y1 q_1) mi_X0_turn rfl ml_RL_38 (RMok.mk) hl.1 rfl (Nat.le_of_ble_eq_true rfl) dL_turn_8 (by decide) hK hP hD hS hA [0, 1, 2] rfl [3] rfl rfl (by decide) [1, 2, 3, 0] rfl rfl rfl rfl rfl (fun H locs hP hD hS => ?_)
    refine lv_i2l (v := (v_X0_turn b1 b2 k1 y1 f).toInt64) FX.1 FX.2.1 dL_turn_11 rfl ?_
    refine p_putN (wsN := [(x, .inr (2, [.ref bx, .ref px, .ref t, .int (wak_X0_turn b2 f ak), .int su, .int gt, .int lf, .int rf, .int kn])), (bx, .inl (cI, 6, .inl (wf_X0_turn b1 b2 k1 y1 f))), (px, .inl (cI, 2, .inl g)), (q, .inr (3, [.long ((v_X0_turn b1 b2 k1 y1 f).toInt64), sv]))]) (ci := 3) (v := .long ((v_X0_turn b1 b2 k1 y1 f).toInt64)) (ty := .long) FX inX1 tyX1_ok nmX1 hK hP hD hS 3 rfl rfl 0 (by decide) hz.2 rfl (by decide +kernel) rfl rfl (Nat.le_of_ble_eq_true rfl) dL_turn_12 rfl (fun H locs hP hD hS => ?_)
    refine lv_goto (tgt := 26) FX.1 FX.2.1 dL_turn_15 (by decide) ?_
    refine lv_iconst (v := 0) FX.1 FX.2.1 dL_turn_26 (by decide) ?_
    exact retJi () FX hr hlk dL_turn_27 rfl (by rw [show hf_turn b1 b2 k1 y1 f = wf_X0_turn b1 b2 k1 y1 f from if_pos hE, show hak_turn b1 b2 k1 y1 f ak = wak_X0_turn b2 f ak from if_pos hE, show hn_turn b1 b2 k1 y1 f n0 = (v_X0_turn b1 b2 k1 y1 f).toInt64 from if_pos hE]; exact hP) hK (by rw [show hf_turn b1 b2 k1 y1 f = wf_X0_turn b1 b2 k1 y1 f from if_pos hE, show hak_turn b1 b2 k1 y1 f ak = wak_X0_turn b2 f ak from if_pos hE, show hn_turn b1 b2 k1 y1 f n0 = (v_X0_turn b1 b2 k1 y1 f).toInt64 from if_pos hE]; exact hD) hS (by decide) (by decide) (by rw [hk_turn, if_pos hE]) trivial
  · rcases (ev_turn b1 b2 k1 y1) with hV | hV | hV
    · exact absurd hV hE
    · refine c_XV1 (i0 := 0) (ci := 2) (k2 := 1) (h1 := (0, 15, 18, 19)) (hs := [(0, 15, 22, 21)]) FX (x_X0_turn l hl0 D cI cB x bx px t f g ak su gt lf rf kn b1 b2 k1 y1 hE) hV mi_X0_turn rfl ml_RL_38 (RMok.mk) hl.1 rfl (Nat.le_of_ble_eq_true rfl) dL_turn_8 (by decide) hK hP hA [0, 1, 2] rfl rfl rfl rfl hz.1.1 htb (by decide) (by decide) cl_RL_19 (by decide) (fun q9 H locs hP hS => ?_)
      refine lv_astore (lv' := [(6, .ref q9), (0, .ref x), (1, .int b1), (2, .int b2), (3, .int k1), (4, .int y1), (5, .ref q)]) FX.1 FX.2.1 dL_turn_18 hl (by decide) rfl (fun ls hl => ?_)
      refine lv_iconst (v := 1) FX.1 FX.2.1 dL_turn_20 (by decide) ?_
      exact retJi () FX hr hlk dL_turn_21 rfl (by rw [show hf_turn b1 b2 k1 y1 f = f from if_neg hE, show hak_turn b1 b2 k1 y1 f ak = ak from if_neg hE, show hn_turn b1 b2 k1 y1 f n0 = n0 from if_neg hE]; exact hP) hK (by rw [show hf_turn b1 b2 k1 y1 f = f from if_neg hE, show hak_turn b1 b2 k1 y1 f ak = ak from if_neg hE, show hn_turn b1 b2 k1 y1 f n0 = n0 from if_neg hE]; exact hD) hS (by decide) (by decide) (by rw [hk_turn, if_neg hE, if_pos hV]) trivial
    · refine c_XV2 (i0 := 0) (ci := 2) (k1 := 1) (k2 := 2) (h1 := (0, 15, 18, 19)) (h2 := (0, 15, 22, 21)) (hs := []) FX (x_X0_turn l hl0 D cI cB x bx px t f g ak su gt lf rf kn b1 b2 k1 y1 hE) hV mi_X0_turn rfl ml_RL_38 (RMok.mk) hl.1 rfl (Nat.le_of_ble_eq_true rfl) dL_turn_8 (by decide) hK hP hA [0, 1, 2] rfl rfl rfl rfl hz.1.1 hz.1.2 htb (by decide) cl_RL_19 (by decide) (by decide) (by decide) cl_RL_21 (by decide) (fun q9 H locs hP hS => ?_)
      refine lv_astore (lv' := [(6, .ref q9), (0, .ref x), (1, .int b1), (2, .int b2), (3, .int k1), (4, .int y1), (5, .ref q)]) FX.1 FX.2.1 dL_turn_22 hl (by decide) rfl (fun ls hl => ?_)
      refine lv_iconst (v := 2) FX.1 FX.2.1 dL_turn_24 (by decide) ?_
      exact retJi () FX hr hlk dL_turn_25 rfl (by rw [show hf_turn b1 b2 k1 y1 f = f from if_neg hE, show hak_turn b1 b2 k1 y1 f ak = ak from if_neg hE, show hn_turn b1 b2 k1 y1 f n0 = n0 from if_neg hE]; exact hP) hK (by rw [show hf_turn b1 b2 k1 y1 f = f from if_neg hE, show hak_turn b1 b2 k1 y1 f ak = ak from if_neg hE, show hn_turn b1 b2 k1 y1 f n0 = n0 from if_neg hE]; exact hD) hS (by decide) (by decide) (by rw [hk_turn, if_neg hE, if_neg (by rw [hV]; decide)]) trivial
def hk_filter (b1 : Int32) (b2 : Int32) (k1 : Int32) (y1 : Int32) : Int32 := if e_X0_filter b1 b2 k1 y1 = 0 then 0 else if e_X0_filter b1 b2 k1 y1 = 1 then 1 else 2
theorem ev_filter (b1 : Int32) (b2 : Int32) (k1 : Int32) (y1 : Int32) : e_X0_filter b1 b2 k1 y1 = 0 ∨ e_X0_filter b1 b2 k1 y1 = 1 ∨ e_X0_filter b1 b2 k1 y1 = 2 := by
  unfold e_X0_filter
  repeat' split
  all_goals first | exact Or.inl rfl | exact r21 (rg_X0_needBox _) | exact r21 (rg_X0_needPlain _) | exact r22 (rg_X0_needNumber _) | exact r22 (rg_X0_needKind _ _) | exact Or.inr (Or.inl rfl) | exact Or.inr (Or.inr rfl)
def hf_filter (b1 : Int32) (b2 : Int32) (k1 : Int32) (y1 : Int32) (f : Nat → Int32) : Nat → Int32 := if e_X0_filter b1 b2 k1 y1 = 0 then wf_X0_filter b1 b2 k1 y1 f else f
def hak_filter (b1 : Int32) (b2 : Int32) (k1 : Int32) (y1 : Int32) (f : Nat → Int32) (ak : Int32) : Int32 := if e_X0_filter b1 b2 k1 y1 = 0 then wak_X0_filter b2 f ak else ak
def hn_filter (b1 : Int32) (b2 : Int32) (k1 : Int32) (y1 : Int32) (f : Nat → Int32) (n0 : Int64) : Int64 := if e_X0_filter b1 b2 k1 y1 = 0 then (v_X0_filter b1 b2 k1 y1 f).toInt64 else n0
set_option maxRecDepth 100000 in
set_option maxHeartbeats 4000000 in
theorem j_L_filter (l : Launch) (hl0 : l.stackTraces = false) (D : va_G) (cI cB : ClassId) (x bx px t : Nat) (f g : Nat → Int32) (ak su gt lf rf kn : Int32) (q : Nat) (n0 : Int64) (sv : Value) (b1 : Int32) (b2 : Int32) (k1 : Int32) (y1 : Int32) : JH (S := Unit) l yL_filter cL_filter 7 (some .int) [(0, 15, 18, 19), (0, 15, 22, 21)] ({ frames := 8, cells := 1, slots := 6, locals := 135 } : Room) D cI cB [.ref x, .int b1, .int b2, .int k1, .int y1, .ref q] [(x, .inr (2, [.ref bx, .ref px, .ref t, .int ak, .int su, .int gt, .int lf, .int rf, .int kn])), (bx, .inl (cI, 6, .inl f)), (px, .inl (cI, 2, .inl g)), (q, .inr (3, [.long n0, sv]))] (zAnd (zAnd zz zN) (zF RL 13 RX1 "n" "J" RL)) (fun _ => some (.int (hk_filter b1 b2 k1 y1))) (fun _ => True) (fun _ => [(x, .inr (2, [.ref bx, .ref px, .ref t, .int (hak_filter b1 b2 k1 y1 f ak), .int su, .int gt, .int lf, .int rf, .int kn])), (bx, .inl (cI, 6, .inl (hf_filter b1 b2 k1 y1 f))), (px, .inl (cI, 2, .inl g)), (q, .inr (3, [.long (hn_filter b1 b2 k1 y1 f n0), sv]))]) 1 6 := by
  refine bodyJH (by decide +kernel) (Nat.le_of_ble_eq_true rfl) (fun p e s m args below meth c ls A ZZ => ?_)
  obtain ⟨FX, hr, hlk, hK, hP, hD, hS, hA, hz, htb, hl⟩ := ZZ
  have hl : lv_has ls 7 [(0, .ref x), (1, .int b1), (2, .int b2), (3, .int k1), (4, .int y1), (5, .ref q)] := hl
  have hP : va_P D KL [(x, .inr (2, [.ref bx, .ref px, .ref t, .int ak, .int su, .int gt, .int lf, .int rf, .int kn])), (bx, .inl (cI, 6, .inl f)), (px, .inl (cI, 2, .inl g)), (q, .inr (3, [.long n0, sv]))] s.heap := hP
  refine lv_aload FX.1 FX.2.1 dL_filter_0 (lv_at hl 5 rfl) ?_
  refine lv_aload_n FX.1 FX.2.1 dL_filter_2 rfl (lv_at hl 0 rfl) ?_
  refine lv_iload_n FX.1 FX.2.1 dL_filter_3 rfl (lv_at hl 1 rfl) ?_
  refine lv_iload_n FX.1 FX.2.1 dL_filter_4 rfl (lv_at hl 2 rfl) ?_
  refine lv_iload_n FX.1 FX.2.1 dL_filter_5 rfl (lv_at hl 3 rfl) ?_
  refine lv_iload FX.1 FX.2.1 dL_filter_6 (lv_at hl 4 rfl) ?_
  by_cases hE : e_X0_filter b1 b2 k1 y1 = 0
  · have q_1 : (e_X0_filter b1 b2 k1 y1) = 0 := hE
    refine c_WRV (wr := [(q, .inr (3, [.long n0, sv]))]) (wsN := [(x, .inr (2, [.ref bx, .ref px, .ref t, .int (wak_X0_filter b2 f ak), .int su, .int gt, .int lf, .int rf, .int kn])), (bx, .inl (cI, 6, .inl (wf_X0_filter b1 b2 k1 y1 f))), (px, .inl (cI, 2, .inl g)), (q, .inr (3, [.long n0, sv]))]) (i0 := 0) (ci := 2) FX (k_X0_filter l D cI cB x bx px t f g ak su gt lf rf kn b1 b2 k1 y1 q_1) mi_X0_filter rfl ml_RL_41 (RMok.mk) hl.1 rfl (Nat.le_of_ble_eq_true rfl) dL_filter_8 (by decide) hK hP hD hS hA [0, 1, 2] rfl [3] rfl rfl (by decide) [1, 2, 3, 0] rfl rfl rfl rfl rfl (fun H locs hP hD hS => ?_)
    refine lv_i2l (v := (v_X0_filter b1 b2 k1 y1 f).toInt64) FX.1 FX.2.1 dL_filter_11 rfl ?_
    refine p_putN (wsN := [(x, .inr (2, [.ref bx, .ref px, .ref t, .int (wak_X0_filter b2 f ak), .int su, .int gt, .int lf, .int rf, .int kn])), (bx, .inl (cI, 6, .inl (wf_X0_filter b1 b2 k1 y1 f))), (px, .inl (cI, 2, .inl g)), (q, .inr (3, [.long ((v_X0_filter b1 b2 k1 y1 f).toInt64), sv]))]) (ci := 3) (v := .long ((v_X0_filter b1 b2 k1 y1 f).toInt64)) (ty := .long) FX inX1 tyX1_ok nmX1 hK hP hD hS 3 rfl rfl 0 (by decide) hz.2 rfl (by decide +kernel) rfl rfl (Nat.le_of_ble_eq_true rfl) dL_filter_12 rfl (fun H locs hP hD hS => ?_)
    refine lv_goto (tgt := 26) FX.1 FX.2.1 dL_filter_15 (by decide) ?_
    refine lv_iconst (v := 0) FX.1 FX.2.1 dL_filter_26 (by decide) ?_
    exact retJi () FX hr hlk dL_filter_27 rfl (by rw [show hf_filter b1 b2 k1 y1 f = wf_X0_filter b1 b2 k1 y1 f from if_pos hE, show hak_filter b1 b2 k1 y1 f ak = wak_X0_filter b2 f ak from if_pos hE, show hn_filter b1 b2 k1 y1 f n0 = (v_X0_filter b1 b2 k1 y1 f).toInt64 from if_pos hE]; exact hP) hK (by rw [show hf_filter b1 b2 k1 y1 f = wf_X0_filter b1 b2 k1 y1 f from if_pos hE, show hak_filter b1 b2 k1 y1 f ak = wak_X0_filter b2 f ak from if_pos hE, show hn_filter b1 b2 k1 y1 f n0 = (v_X0_filter b1 b2 k1 y1 f).toInt64 from if_pos hE]; exact hD) hS (by decide) (by decide) (by rw [hk_filter, if_pos hE]) trivial
  · rcases (ev_filter b1 b2 k1 y1) with hV | hV | hV
    · exact absurd hV hE
    · refine c_XV1 (i0 := 0) (ci := 2) (k2 := 1) (h1 := (0, 15, 18, 19)) (hs := [(0, 15, 22, 21)]) FX (x_X0_filter l hl0 D cI cB x bx px t f g ak su gt lf rf kn b1 b2 k1 y1 hE) hV mi_X0_filter rfl ml_RL_41 (RMok.mk) hl.1 rfl (Nat.le_of_ble_eq_true rfl) dL_filter_8 (by decide) hK hP hA [0, 1, 2] rfl rfl rfl rfl hz.1.1 htb (by decide) (by decide) cl_RL_19 (by decide) (fun q9 H locs hP hS => ?_)
      refine lv_astore (lv' := [(6, .ref q9), (0, .ref x), (1, .int b1), (2, .int b2), (3, .int k1), (4, .int y1), (5, .ref q)]) FX.1 FX.2.1 dL_filter_18 hl (by decide) rfl (fun ls hl => ?_)
      refine lv_iconst (v := 1) FX.1 FX.2.1 dL_filter_20 (by decide) ?_
      exact retJi () FX hr hlk dL_filter_21 rfl (by rw [show hf_filter b1 b2 k1 y1 f = f from if_neg hE, show hak_filter b1 b2 k1 y1 f ak = ak from if_neg hE, show hn_filter b1 b2 k1 y1 f n0 = n0 from if_neg hE]; exact hP) hK (by rw [show hf_filter b1 b2 k1 y1 f = f from if_neg hE, show hak_filter b1 b2 k1 y1 f ak = ak from if_neg hE, show hn_filter b1 b2 k1 y1 f n0 = n0 from if_neg hE]; exact hD) hS (by decide) (by decide) (by rw [hk_filter, if_neg hE, if_pos hV]) trivial
    · refine c_XV2 (i0 := 0) (ci := 2) (k1 := 1) (k2 := 2) (h1 := (0, 15, 18, 19)) (h2 := (0, 15, 22, 21)) (hs := []) FX (x_X0_filter l hl0 D cI cB x bx px t f g ak su gt lf rf kn b1 b2 k1 y1 hE) hV mi_X0_filter rfl ml_RL_41 (RMok.mk) hl.1 rfl (Nat.le_of_ble_eq_true rfl) dL_filter_8 (by decide) hK hP hA [0, 1, 2] rfl rfl rfl rfl hz.1.1 hz.1.2 htb (by decide) cl_RL_19 (by decide) (by decide) (by decide) cl_RL_21 (by decide) (fun q9 H locs hP hS => ?_)
      refine lv_astore (lv' := [(6, .ref q9), (0, .ref x), (1, .int b1), (2, .int b2), (3, .int k1), (4, .int y1), (5, .ref q)]) FX.1 FX.2.1 dL_filter_22 hl (by decide) rfl (fun ls hl => ?_)
      refine lv_iconst (v := 2) FX.1 FX.2.1 dL_filter_24 (by decide) ?_
      exact retJi () FX hr hlk dL_filter_25 rfl (by rw [show hf_filter b1 b2 k1 y1 f = f from if_neg hE, show hak_filter b1 b2 k1 y1 f ak = ak from if_neg hE, show hn_filter b1 b2 k1 y1 f n0 = n0 from if_neg hE]; exact hP) hK (by rw [show hf_filter b1 b2 k1 y1 f = f from if_neg hE, show hak_filter b1 b2 k1 y1 f ak = ak from if_neg hE, show hn_filter b1 b2 k1 y1 f n0 = n0 from if_neg hE]; exact hD) hS (by decide) (by decide) (by rw [hk_filter, if_neg hE, if_neg (by rw [hV]; decide)]) trivial
def hk_or (b1 : Int32) (b2 : Int32) (b3 : Int32) : Int32 := if e_X0_or b1 b2 b3 = 0 then 0 else 1
theorem ev_or (b1 : Int32) (b2 : Int32) (b3 : Int32) : e_X0_or b1 b2 b3 = 0 ∨ e_X0_or b1 b2 b3 = 1 := by
  unfold e_X0_or
  repeat' split
  all_goals first | exact Or.inl rfl | exact (rg_X0_needBox _) | exact (rg_X0_needPlain _) | exact Or.inr rfl
def hf_or (b1 : Int32) (b2 : Int32) (b3 : Int32) (f : Nat → Int32) : Nat → Int32 := if e_X0_or b1 b2 b3 = 0 then wf_X0_or b1 b2 b3 f else f
def hak_or (b1 : Int32) (b2 : Int32) (b3 : Int32) (f : Nat → Int32) (ak : Int32) : Int32 := if e_X0_or b1 b2 b3 = 0 then wak_X0_or b2 f ak else ak
def hn_or (b1 : Int32) (b2 : Int32) (b3 : Int32) (f : Nat → Int32) (n0 : Int64) : Int64 := if e_X0_or b1 b2 b3 = 0 then (v_X0_or b1 b2 b3 f).toInt64 else n0
set_option maxRecDepth 100000 in
set_option maxHeartbeats 4000000 in
theorem j_L_or (l : Launch) (hl0 : l.stackTraces = false) (D : va_G) (cI cB : ClassId) (x bx px t : Nat) (f g : Nat → Int32) (ak su gt lf rf kn : Int32) (q : Nat) (n0 : Int64) (sv : Value) (b1 : Int32) (b2 : Int32) (b3 : Int32) : JH (S := Unit) l yL_or cL_or 6 (some .int) [(0, 13, 16, 19)] ({ frames := 8, cells := 1, slots := 6, locals := 133 } : Room) D cI cB [.ref x, .int b1, .int b2, .int b3, .ref q] [(x, .inr (2, [.ref bx, .ref px, .ref t, .int ak, .int su, .int gt, .int lf, .int rf, .int kn])), (bx, .inl (cI, 6, .inl f)), (px, .inl (cI, 2, .inl g)), (q, .inr (3, [.long n0, sv]))] (zAnd (zAnd zz zN) (zF RL 13 RX1 "n" "J" RL)) (fun _ => some (.int (hk_or b1 b2 b3))) (fun _ => True) (fun _ => [(x, .inr (2, [.ref bx, .ref px, .ref t, .int (hak_or b1 b2 b3 f ak), .int su, .int gt, .int lf, .int rf, .int kn])), (bx, .inl (cI, 6, .inl (hf_or b1 b2 b3 f))), (px, .inl (cI, 2, .inl g)), (q, .inr (3, [.long (hn_or b1 b2 b3 f n0), sv]))]) 1 6 := by
  refine bodyJH (by decide +kernel) (Nat.le_of_ble_eq_true rfl) (fun p e s m args below meth c ls A ZZ => ?_)
  obtain ⟨FX, hr, hlk, hK, hP, hD, hS, hA, hz, htb, hl⟩ := ZZ
  have hl : lv_has ls 6 [(0, .ref x), (1, .int b1), (2, .int b2), (3, .int b3), (4, .ref q)] := hl
  have hP : va_P D KL [(x, .inr (2, [.ref bx, .ref px, .ref t, .int ak, .int su, .int gt, .int lf, .int rf, .int kn])), (bx, .inl (cI, 6, .inl f)), (px, .inl (cI, 2, .inl g)), (q, .inr (3, [.long n0, sv]))] s.heap := hP
  refine lv_aload FX.1 FX.2.1 dL_or_0 (lv_at hl 4 rfl) ?_
  refine lv_aload_n FX.1 FX.2.1 dL_or_2 rfl (lv_at hl 0 rfl) ?_
  refine lv_iload_n FX.1 FX.2.1 dL_or_3 rfl (lv_at hl 1 rfl) ?_
  refine lv_iload_n FX.1 FX.2.1 dL_or_4 rfl (lv_at hl 2 rfl) ?_
  refine lv_iload_n FX.1 FX.2.1 dL_or_5 rfl (lv_at hl 3 rfl) ?_
  by_cases hE : e_X0_or b1 b2 b3 = 0
  · have q_1 : (e_X0_or b1 b2 b3) = 0 := hE
    refine c_WRV (wr := [(q, .inr (3, [.long n0, sv]))]) (wsN := [(x, .inr (2, [.ref bx, .ref px, .ref t, .int (wak_X0_or b2 f ak), .int su, .int gt, .int lf, .int rf, .int kn])), (bx, .inl (cI, 6, .inl (wf_X0_or b1 b2 b3 f))), (px, .inl (cI, 2, .inl g)), (q, .inr (3, [.long n0, sv]))]) (i0 := 0) (ci := 2) FX (k_X0_or l D cI cB x bx px t f g ak su gt lf rf kn b1 b2 b3 q_1) mi_X0_or rfl ml_RL_44 (RMok.mk) hl.1 rfl (Nat.le_of_ble_eq_true rfl) dL_or_6 (by decide) hK hP hD hS hA [0, 1, 2] rfl [3] rfl rfl (by decide) [1, 2, 3, 0] rfl rfl rfl rfl rfl (fun H locs hP hD hS => ?_)
    refine lv_i2l (v := (v_X0_or b1 b2 b3 f).toInt64) FX.1 FX.2.1 dL_or_9 rfl ?_
    refine p_putN (wsN := [(x, .inr (2, [.ref bx, .ref px, .ref t, .int (wak_X0_or b2 f ak), .int su, .int gt, .int lf, .int rf, .int kn])), (bx, .inl (cI, 6, .inl (wf_X0_or b1 b2 b3 f))), (px, .inl (cI, 2, .inl g)), (q, .inr (3, [.long ((v_X0_or b1 b2 b3 f).toInt64), sv]))]) (ci := 3) (v := .long ((v_X0_or b1 b2 b3 f).toInt64)) (ty := .long) FX inX1 tyX1_ok nmX1 hK hP hD hS 3 rfl rfl 0 (by decide) hz.2 rfl (by decide +kernel) rfl rfl (Nat.le_of_ble_eq_true rfl) dL_or_10 rfl (fun H locs hP hD hS => ?_)
    refine lv_goto (tgt := 20) FX.1 FX.2.1 dL_or_13 (by decide) ?_
    refine lv_iconst (v := 0) FX.1 FX.2.1 dL_or_20 (by decide) ?_
    exact retJi () FX hr hlk dL_or_21 rfl (by rw [show hf_or b1 b2 b3 f = wf_X0_or b1 b2 b3 f from if_pos hE, show hak_or b1 b2 b3 f ak = wak_X0_or b2 f ak from if_pos hE, show hn_or b1 b2 b3 f n0 = (v_X0_or b1 b2 b3 f).toInt64 from if_pos hE]; exact hP) hK (by rw [show hf_or b1 b2 b3 f = wf_X0_or b1 b2 b3 f from if_pos hE, show hak_or b1 b2 b3 f ak = wak_X0_or b2 f ak from if_pos hE, show hn_or b1 b2 b3 f n0 = (v_X0_or b1 b2 b3 f).toInt64 from if_pos hE]; exact hD) hS (by decide) (by decide) (by rw [hk_or, if_pos hE]) trivial
  · rcases (ev_or b1 b2 b3) with hV | hV
    · exact absurd hV hE
    · refine c_XV1 (i0 := 0) (ci := 2) (k2 := 1) (h1 := (0, 13, 16, 19)) (hs := []) FX (x_X0_or l hl0 D cI cB x bx px t f g ak su gt lf rf kn b1 b2 b3 hE) hV mi_X0_or rfl ml_RL_44 (RMok.mk) hl.1 rfl (Nat.le_of_ble_eq_true rfl) dL_or_6 (by decide) hK hP hA [0, 1, 2] rfl rfl rfl rfl hz.1.1 htb (by decide) (by decide) cl_RL_19 (by decide) (fun q9 H locs hP hS => ?_)
      refine lv_astore (lv' := [(5, .ref q9), (0, .ref x), (1, .int b1), (2, .int b2), (3, .int b3), (4, .ref q)]) FX.1 FX.2.1 dL_or_16 hl (by decide) rfl (fun ls hl => ?_)
      refine lv_iconst (v := 1) FX.1 FX.2.1 dL_or_18 (by decide) ?_
      exact retJi () FX hr hlk dL_or_19 rfl (by rw [show hf_or b1 b2 b3 f = f from if_neg hE, show hak_or b1 b2 b3 f ak = ak from if_neg hE, show hn_or b1 b2 b3 f n0 = n0 from if_neg hE]; exact hP) hK (by rw [show hf_or b1 b2 b3 f = f from if_neg hE, show hak_or b1 b2 b3 f ak = ak from if_neg hE, show hn_or b1 b2 b3 f n0 = n0 from if_neg hE]; exact hD) hS (by decide) (by decide) (by rw [hk_or, if_neg hE]) trivial
def hk_wrap (b1 : Int32) (b2 : Int32) : Int32 := if e_X0_wrap b1 b2 = 0 then 0 else 1
theorem ev_wrap (b1 : Int32) (b2 : Int32) : e_X0_wrap b1 b2 = 0 ∨ e_X0_wrap b1 b2 = 1 := by
  unfold e_X0_wrap
  repeat' split
  all_goals first | exact Or.inl rfl | exact (rg_X0_needBox _) | exact (rg_X0_needPlain _) | exact Or.inr rfl
def hf_wrap (b1 : Int32) (b2 : Int32) (f : Nat → Int32) : Nat → Int32 := if e_X0_wrap b1 b2 = 0 then wf_X0_wrap b1 b2 f else f
def hn_wrap (b1 : Int32) (b2 : Int32) (f : Nat → Int32) (n0 : Int64) : Int64 := if e_X0_wrap b1 b2 = 0 then (v_X0_wrap b1 b2 f).toInt64 else n0
set_option maxRecDepth 100000 in
set_option maxHeartbeats 4000000 in
theorem j_L_wrap (l : Launch) (hl0 : l.stackTraces = false) (D : va_G) (cI cB : ClassId) (x bx px t : Nat) (f g : Nat → Int32) (ak su gt lf rf kn : Int32) (q : Nat) (n0 : Int64) (sv : Value) (b1 : Int32) (b2 : Int32) : JH (S := Unit) l yL_wrap cL_wrap 5 (some .int) [(0, 11, 14, 19)] ({ frames := 8, cells := 1, slots := 6, locals := 132 } : Room) D cI cB [.ref x, .int b1, .int b2, .ref q] [(x, .inr (2, [.ref bx, .ref px, .ref t, .int ak, .int su, .int gt, .int lf, .int rf, .int kn])), (bx, .inl (cI, 6, .inl f)), (px, .inl (cI, 2, .inl g)), (q, .inr (3, [.long n0, sv]))] (zAnd (zAnd zz zN) (zF RL 13 RX1 "n" "J" RL)) (fun _ => some (.int (hk_wrap b1 b2))) (fun _ => True) (fun _ => [(x, .inr (2, [.ref bx, .ref px, .ref t, .int ak, .int su, .int gt, .int lf, .int rf, .int kn])), (bx, .inl (cI, 6, .inl (hf_wrap b1 b2 f))), (px, .inl (cI, 2, .inl g)), (q, .inr (3, [.long (hn_wrap b1 b2 f n0), sv]))]) 1 6 := by
  refine bodyJH (by decide +kernel) (Nat.le_of_ble_eq_true rfl) (fun p e s m args below meth c ls A ZZ => ?_)
  obtain ⟨FX, hr, hlk, hK, hP, hD, hS, hA, hz, htb, hl⟩ := ZZ
  have hl : lv_has ls 5 [(0, .ref x), (1, .int b1), (2, .int b2), (3, .ref q)] := hl
  have hP : va_P D KL [(x, .inr (2, [.ref bx, .ref px, .ref t, .int ak, .int su, .int gt, .int lf, .int rf, .int kn])), (bx, .inl (cI, 6, .inl f)), (px, .inl (cI, 2, .inl g)), (q, .inr (3, [.long n0, sv]))] s.heap := hP
  refine lv_aload_n FX.1 FX.2.1 dL_wrap_0 rfl (lv_at hl 3 rfl) ?_
  refine lv_aload_n FX.1 FX.2.1 dL_wrap_1 rfl (lv_at hl 0 rfl) ?_
  refine lv_iload_n FX.1 FX.2.1 dL_wrap_2 rfl (lv_at hl 1 rfl) ?_
  refine lv_iload_n FX.1 FX.2.1 dL_wrap_3 rfl (lv_at hl 2 rfl) ?_
  by_cases hE : e_X0_wrap b1 b2 = 0
  · have q_1 : (e_X0_wrap b1 b2) = 0 := hE
    refine c_WRV (wr := [(q, .inr (3, [.long n0, sv]))]) (wsN := [(x, .inr (2, [.ref bx, .ref px, .ref t, .int ak, .int su, .int gt, .int lf, .int rf, .int kn])), (bx, .inl (cI, 6, .inl (wf_X0_wrap b1 b2 f))), (px, .inl (cI, 2, .inl g)), (q, .inr (3, [.long n0, sv]))]) (i0 := 0) (ci := 2) FX (k_X0_wrap l D cI cB x bx px t f g ak su gt lf rf kn b1 b2 q_1) mi_X0_wrap rfl ml_RL_48 (RMok.mk) hl.1 rfl (Nat.le_of_ble_eq_true rfl) dL_wrap_4 (by decide) hK hP hD hS hA [0, 1, 2] rfl [3] rfl rfl (by decide) [1, 2, 3, 0] rfl rfl rfl rfl rfl (fun H locs hP hD hS => ?_)
    refine lv_i2l (v := (v_X0_wrap b1 b2 f).toInt64) FX.1 FX.2.1 dL_wrap_7 rfl ?_
    refine p_putN (wsN := [(x, .inr (2, [.ref bx, .ref px, .ref t, .int ak, .int su, .int gt, .int lf, .int rf, .int kn])), (bx, .inl (cI, 6, .inl (wf_X0_wrap b1 b2 f))), (px, .inl (cI, 2, .inl g)), (q, .inr (3, [.long ((v_X0_wrap b1 b2 f).toInt64), sv]))]) (ci := 3) (v := .long ((v_X0_wrap b1 b2 f).toInt64)) (ty := .long) FX inX1 tyX1_ok nmX1 hK hP hD hS 3 rfl rfl 0 (by decide) hz.2 rfl (by decide +kernel) rfl rfl (Nat.le_of_ble_eq_true rfl) dL_wrap_8 rfl (fun H locs hP hD hS => ?_)
    refine lv_goto (tgt := 18) FX.1 FX.2.1 dL_wrap_11 (by decide) ?_
    refine lv_iconst (v := 0) FX.1 FX.2.1 dL_wrap_18 (by decide) ?_
    exact retJi () FX hr hlk dL_wrap_19 rfl (by rw [show hf_wrap b1 b2 f = wf_X0_wrap b1 b2 f from if_pos hE, show hn_wrap b1 b2 f n0 = (v_X0_wrap b1 b2 f).toInt64 from if_pos hE]; exact hP) hK (by rw [show hf_wrap b1 b2 f = wf_X0_wrap b1 b2 f from if_pos hE, show hn_wrap b1 b2 f n0 = (v_X0_wrap b1 b2 f).toInt64 from if_pos hE]; exact hD) hS (by decide) (by decide) (by rw [hk_wrap, if_pos hE]) trivial
  · rcases (ev_wrap b1 b2) with hV | hV
    · exact absurd hV hE
    · refine c_XV1 (i0 := 0) (ci := 2) (k2 := 1) (h1 := (0, 11, 14, 19)) (hs := []) FX (x_X0_wrap l hl0 D cI cB x bx px t f g ak su gt lf rf kn b1 b2 hE) hV mi_X0_wrap rfl ml_RL_48 (RMok.mk) hl.1 rfl (Nat.le_of_ble_eq_true rfl) dL_wrap_4 (by decide) hK hP hA [0, 1, 2] rfl rfl rfl rfl hz.1.1 htb (by decide) (by decide) cl_RL_19 (by decide) (fun q9 H locs hP hS => ?_)
      refine lv_astore (lv' := [(4, .ref q9), (0, .ref x), (1, .int b1), (2, .int b2), (3, .ref q)]) FX.1 FX.2.1 dL_wrap_14 hl (by decide) rfl (fun ls hl => ?_)
      refine lv_iconst (v := 1) FX.1 FX.2.1 dL_wrap_16 (by decide) ?_
      exact retJi () FX hr hlk dL_wrap_17 rfl (by rw [show hf_wrap b1 b2 f = f from if_neg hE, show hn_wrap b1 b2 f n0 = n0 from if_neg hE]; exact hP) hK (by rw [show hf_wrap b1 b2 f = f from if_neg hE, show hn_wrap b1 b2 f n0 = n0 from if_neg hE]; exact hD) hS (by decide) (by decide) (by rw [hk_wrap, if_neg hE]) trivial
def hk_both (b1 : Int32) (b2 : Int32) (k1 : Int32) (k2 : Int32) (y1 : Int32) : Int32 := if e_X0_both b1 b2 k1 k2 y1 = 0 then 0 else if e_X0_both b1 b2 k1 k2 y1 = 1 then 1 else 2
theorem ev_both (b1 : Int32) (b2 : Int32) (k1 : Int32) (k2 : Int32) (y1 : Int32) : e_X0_both b1 b2 k1 k2 y1 = 0 ∨ e_X0_both b1 b2 k1 k2 y1 = 1 ∨ e_X0_both b1 b2 k1 k2 y1 = 2 := by
  unfold e_X0_both
  repeat' split
  all_goals first | exact Or.inl rfl | exact r21 (rg_X0_needBox _) | exact r21 (rg_X0_needPlain _) | exact r22 (rg_X0_needNumber _) | exact r22 (rg_X0_needKind _ _) | exact Or.inr (Or.inl rfl) | exact Or.inr (Or.inr rfl)
def hf_both (b1 : Int32) (b2 : Int32) (k1 : Int32) (k2 : Int32) (y1 : Int32) (f : Nat → Int32) : Nat → Int32 := if e_X0_both b1 b2 k1 k2 y1 = 0 then wf_X0_both b1 b2 k1 k2 y1 f else f
def hak_both (b1 : Int32) (b2 : Int32) (k1 : Int32) (k2 : Int32) (y1 : Int32) (f : Nat → Int32) (ak : Int32) : Int32 := if e_X0_both b1 b2 k1 k2 y1 = 0 then wak_X0_both b2 k1 y1 f ak else ak
def hn_both (b1 : Int32) (b2 : Int32) (k1 : Int32) (k2 : Int32) (y1 : Int32) (f : Nat → Int32) (n0 : Int64) : Int64 := if e_X0_both b1 b2 k1 k2 y1 = 0 then (v_X0_both b1 b2 k1 k2 y1 f).toInt64 else n0
set_option maxRecDepth 100000 in
set_option maxHeartbeats 4000000 in
theorem j_L_both (l : Launch) (hl0 : l.stackTraces = false) (D : va_G) (cI cB : ClassId) (x bx px t : Nat) (f g : Nat → Int32) (ak su gt lf rf kn : Int32) (q : Nat) (n0 : Int64) (sv : Value) (b1 : Int32) (b2 : Int32) (k1 : Int32) (k2 : Int32) (y1 : Int32) : JH (S := Unit) l yL_both cL_both 8 (some .int) [(0, 17, 20, 19), (0, 17, 24, 21)] ({ frames := 8, cells := 1, slots := 6, locals := 137 } : Room) D cI cB [.ref x, .int b1, .int b2, .int k1, .int k2, .int y1, .ref q] [(x, .inr (2, [.ref bx, .ref px, .ref t, .int ak, .int su, .int gt, .int lf, .int rf, .int kn])), (bx, .inl (cI, 6, .inl f)), (px, .inl (cI, 2, .inl g)), (q, .inr (3, [.long n0, sv]))] (zAnd (zAnd zz zN) (zF RL 13 RX1 "n" "J" RL)) (fun _ => some (.int (hk_both b1 b2 k1 k2 y1))) (fun _ => True) (fun _ => [(x, .inr (2, [.ref bx, .ref px, .ref t, .int (hak_both b1 b2 k1 k2 y1 f ak), .int su, .int gt, .int lf, .int rf, .int kn])), (bx, .inl (cI, 6, .inl (hf_both b1 b2 k1 k2 y1 f))), (px, .inl (cI, 2, .inl g)), (q, .inr (3, [.long (hn_both b1 b2 k1 k2 y1 f n0), sv]))]) 1 6 := by
  refine bodyJH (by decide +kernel) (Nat.le_of_ble_eq_true rfl) (fun p e s m args below meth c ls A ZZ => ?_)
  obtain ⟨FX, hr, hlk, hK, hP, hD, hS, hA, hz, htb, hl⟩ := ZZ
  have hl : lv_has ls 8 [(0, .ref x), (1, .int b1), (2, .int b2), (3, .int k1), (4, .int k2), (5, .int y1), (6, .ref q)] := hl
  have hP : va_P D KL [(x, .inr (2, [.ref bx, .ref px, .ref t, .int ak, .int su, .int gt, .int lf, .int rf, .int kn])), (bx, .inl (cI, 6, .inl f)), (px, .inl (cI, 2, .inl g)), (q, .inr (3, [.long n0, sv]))] s.heap := hP
  refine lv_aload FX.1 FX.2.1 dL_both_0 (lv_at hl 6 rfl) ?_
  refine lv_aload_n FX.1 FX.2.1 dL_both_2 rfl (lv_at hl 0 rfl) ?_
  refine lv_iload_n FX.1 FX.2.1 dL_both_3 rfl (lv_at hl 1 rfl) ?_
  refine lv_iload_n FX.1 FX.2.1 dL_both_4 rfl (lv_at hl 2 rfl) ?_
  refine lv_iload_n FX.1 FX.2.1 dL_both_5 rfl (lv_at hl 3 rfl) ?_
  refine lv_iload FX.1 FX.2.1 dL_both_6 (lv_at hl 4 rfl) ?_
  refine lv_iload FX.1 FX.2.1 dL_both_8 (lv_at hl 5 rfl) ?_
  by_cases hE : e_X0_both b1 b2 k1 k2 y1 = 0
  · have q_1 : (e_X0_both b1 b2 k1 k2 y1) = 0 := hE
    refine c_WRV (wr := [(q, .inr (3, [.long n0, sv]))]) (wsN := [(x, .inr (2, [.ref bx, .ref px, .ref t, .int (wak_X0_both b2 k1 y1 f ak), .int su, .int gt, .int lf, .int rf, .int kn])), (bx, .inl (cI, 6, .inl (wf_X0_both b1 b2 k1 k2 y1 f))), (px, .inl (cI, 2, .inl g)), (q, .inr (3, [.long n0, sv]))]) (i0 := 0) (ci := 2) FX (k_X0_both l D cI cB x bx px t f g ak su gt lf rf kn b1 b2 k1 k2 y1 q_1) mi_X0_both rfl ml_RL_51 (RMok.mk) hl.1 rfl (Nat.le_of_ble_eq_true rfl) dL_both_10 (by decide) hK hP hD hS hA [0, 1, 2] rfl [3] rfl rfl (by decide) [1, 2, 3, 0] rfl rfl rfl rfl rfl (fun H locs hP hD hS => ?_)
    refine lv_i2l (v := (v_X0_both b1 b2 k1 k2 y1 f).toInt64) FX.1 FX.2.1 dL_both_13 rfl ?_
    refine p_putN (wsN := [(x, .inr (2, [.ref bx, .ref px, .ref t, .int (wak_X0_both b2 k1 y1 f ak), .int su, .int gt, .int lf, .int rf, .int kn])), (bx, .inl (cI, 6, .inl (wf_X0_both b1 b2 k1 k2 y1 f))), (px, .inl (cI, 2, .inl g)), (q, .inr (3, [.long ((v_X0_both b1 b2 k1 k2 y1 f).toInt64), sv]))]) (ci := 3) (v := .long ((v_X0_both b1 b2 k1 k2 y1 f).toInt64)) (ty := .long) FX inX1 tyX1_ok nmX1 hK hP hD hS 3 rfl rfl 0 (by decide) hz.2 rfl (by decide +kernel) rfl rfl (Nat.le_of_ble_eq_true rfl) dL_both_14 rfl (fun H locs hP hD hS => ?_)
    refine lv_goto (tgt := 28) FX.1 FX.2.1 dL_both_17 (by decide) ?_
    refine lv_iconst (v := 0) FX.1 FX.2.1 dL_both_28 (by decide) ?_
    exact retJi () FX hr hlk dL_both_29 rfl (by rw [show hf_both b1 b2 k1 k2 y1 f = wf_X0_both b1 b2 k1 k2 y1 f from if_pos hE, show hak_both b1 b2 k1 k2 y1 f ak = wak_X0_both b2 k1 y1 f ak from if_pos hE, show hn_both b1 b2 k1 k2 y1 f n0 = (v_X0_both b1 b2 k1 k2 y1 f).toInt64 from if_pos hE]; exact hP) hK (by rw [show hf_both b1 b2 k1 k2 y1 f = wf_X0_both b1 b2 k1 k2 y1 f from if_pos hE, show hak_both b1 b2 k1 k2 y1 f ak = wak_X0_both b2 k1 y1 f ak from if_pos hE, show hn_both b1 b2 k1 k2 y1 f n0 = (v_X0_both b1 b2 k1 k2 y1 f).toInt64 from if_pos hE]; exact hD) hS (by decide) (by decide) (by rw [hk_both, if_pos hE]) trivial
  · rcases (ev_both b1 b2 k1 k2 y1) with hV | hV | hV
    · exact absurd hV hE
    · refine c_XV1 (i0 := 0) (ci := 2) (k2 := 1) (h1 := (0, 17, 20, 19)) (hs := [(0, 17, 24, 21)]) FX (x_X0_both l hl0 D cI cB x bx px t f g ak su gt lf rf kn b1 b2 k1 k2 y1 hE) hV mi_X0_both rfl ml_RL_51 (RMok.mk) hl.1 rfl (Nat.le_of_ble_eq_true rfl) dL_both_10 (by decide) hK hP hA [0, 1, 2] rfl rfl rfl rfl hz.1.1 htb (by decide) (by decide) cl_RL_19 (by decide) (fun q9 H locs hP hS => ?_)
      refine lv_astore (lv' := [(7, .ref q9), (0, .ref x), (1, .int b1), (2, .int b2), (3, .int k1), (4, .int k2), (5, .int y1), (6, .ref q)]) FX.1 FX.2.1 dL_both_20 hl (by decide) rfl (fun ls hl => ?_)
      refine lv_iconst (v := 1) FX.1 FX.2.1 dL_both_22 (by decide) ?_
      exact retJi () FX hr hlk dL_both_23 rfl (by rw [show hf_both b1 b2 k1 k2 y1 f = f from if_neg hE, show hak_both b1 b2 k1 k2 y1 f ak = ak from if_neg hE, show hn_both b1 b2 k1 k2 y1 f n0 = n0 from if_neg hE]; exact hP) hK (by rw [show hf_both b1 b2 k1 k2 y1 f = f from if_neg hE, show hak_both b1 b2 k1 k2 y1 f ak = ak from if_neg hE, show hn_both b1 b2 k1 k2 y1 f n0 = n0 from if_neg hE]; exact hD) hS (by decide) (by decide) (by rw [hk_both, if_neg hE, if_pos hV]) trivial
    · refine c_XV2 (i0 := 0) (ci := 2) (k1 := 1) (k2 := 2) (h1 := (0, 17, 20, 19)) (h2 := (0, 17, 24, 21)) (hs := []) FX (x_X0_both l hl0 D cI cB x bx px t f g ak su gt lf rf kn b1 b2 k1 k2 y1 hE) hV mi_X0_both rfl ml_RL_51 (RMok.mk) hl.1 rfl (Nat.le_of_ble_eq_true rfl) dL_both_10 (by decide) hK hP hA [0, 1, 2] rfl rfl rfl rfl hz.1.1 hz.1.2 htb (by decide) cl_RL_19 (by decide) (by decide) (by decide) cl_RL_21 (by decide) (fun q9 H locs hP hS => ?_)
      refine lv_astore (lv' := [(7, .ref q9), (0, .ref x), (1, .int b1), (2, .int b2), (3, .int k1), (4, .int k2), (5, .int y1), (6, .ref q)]) FX.1 FX.2.1 dL_both_24 hl (by decide) rfl (fun ls hl => ?_)
      refine lv_iconst (v := 2) FX.1 FX.2.1 dL_both_26 (by decide) ?_
      exact retJi () FX hr hlk dL_both_27 rfl (by rw [show hf_both b1 b2 k1 k2 y1 f = f from if_neg hE, show hak_both b1 b2 k1 k2 y1 f ak = ak from if_neg hE, show hn_both b1 b2 k1 k2 y1 f n0 = n0 from if_neg hE]; exact hP) hK (by rw [show hf_both b1 b2 k1 k2 y1 f = f from if_neg hE, show hak_both b1 b2 k1 k2 y1 f ak = ak from if_neg hE, show hn_both b1 b2 k1 k2 y1 f n0 = n0 from if_neg hE]; exact hD) hS (by decide) (by decide) (by rw [hk_both, if_neg hE, if_neg (by rw [hV]; decide)]) trivial
def hk_take (b1 : Int32) : Int32 := if e_X0_take b1 = 0 then 0 else 1
theorem ev_take (b1 : Int32) : e_X0_take b1 = 0 ∨ e_X0_take b1 = 1 := by
  unfold e_X0_take
  repeat' split
  all_goals first | exact Or.inl rfl | exact (rg_X0_needBox _) | exact (rg_X0_needPlain _) | exact Or.inr rfl
def hak_take (b1 : Int32) (f : Nat → Int32) (ak : Int32) : Int32 := if e_X0_take b1 = 0 then wak_X0_take b1 f ak else ak
def hsu_take (b1 : Int32) (f : Nat → Int32) (su : Int32) : Int32 := if e_X0_take b1 = 0 then wsu_X0_take b1 f su else su
def hgt_take (b1 : Int32) (f : Nat → Int32) (gt : Int32) : Int32 := if e_X0_take b1 = 0 then wgt_X0_take b1 f gt else gt
def hn_take (b1 : Int32) (f : Nat → Int32) (su : Int32) (n0 : Int64) : Int64 := if e_X0_take b1 = 0 then (v_X0_take b1 f su).toInt64 else n0
set_option maxRecDepth 100000 in
set_option maxHeartbeats 4000000 in
theorem j_L_take (l : Launch) (hl0 : l.stackTraces = false) (D : va_G) (cI cB : ClassId) (x bx px t : Nat) (f g : Nat → Int32) (ak su gt lf rf kn : Int32) (q : Nat) (n0 : Int64) (sv : Value) (b1 : Int32) : JH (S := Unit) l yL_take cL_take 4 (some .int) [(0, 10, 13, 19)] ({ frames := 8, cells := 1, slots := 6, locals := 131 } : Room) D cI cB [.ref x, .int b1, .ref q] [(x, .inr (2, [.ref bx, .ref px, .ref t, .int ak, .int su, .int gt, .int lf, .int rf, .int kn])), (bx, .inl (cI, 6, .inl f)), (px, .inl (cI, 2, .inl g)), (q, .inr (3, [.long n0, sv]))] (zAnd (zAnd zz zN) (zF RL 13 RX1 "n" "J" RL)) (fun _ => some (.int (hk_take b1))) (fun _ => True) (fun _ => [(x, .inr (2, [.ref bx, .ref px, .ref t, .int (hak_take b1 f ak), .int (hsu_take b1 f su), .int (hgt_take b1 f gt), .int lf, .int rf, .int kn])), (bx, .inl (cI, 6, .inl f)), (px, .inl (cI, 2, .inl g)), (q, .inr (3, [.long (hn_take b1 f su n0), sv]))]) 1 6 := by
  refine bodyJH (by decide +kernel) (Nat.le_of_ble_eq_true rfl) (fun p e s m args below meth c ls A ZZ => ?_)
  obtain ⟨FX, hr, hlk, hK, hP, hD, hS, hA, hz, htb, hl⟩ := ZZ
  have hl : lv_has ls 4 [(0, .ref x), (1, .int b1), (2, .ref q)] := hl
  have hP : va_P D KL [(x, .inr (2, [.ref bx, .ref px, .ref t, .int ak, .int su, .int gt, .int lf, .int rf, .int kn])), (bx, .inl (cI, 6, .inl f)), (px, .inl (cI, 2, .inl g)), (q, .inr (3, [.long n0, sv]))] s.heap := hP
  refine lv_aload_n FX.1 FX.2.1 dL_take_0 rfl (lv_at hl 2 rfl) ?_
  refine lv_aload_n FX.1 FX.2.1 dL_take_1 rfl (lv_at hl 0 rfl) ?_
  refine lv_iload_n FX.1 FX.2.1 dL_take_2 rfl (lv_at hl 1 rfl) ?_
  by_cases hE : e_X0_take b1 = 0
  · have q_1 : (e_X0_take b1) = 0 := hE
    refine c_WRV (wr := [(q, .inr (3, [.long n0, sv]))]) (wsN := [(x, .inr (2, [.ref bx, .ref px, .ref t, .int (wak_X0_take b1 f ak), .int (wsu_X0_take b1 f su), .int (wgt_X0_take b1 f gt), .int lf, .int rf, .int kn])), (bx, .inl (cI, 6, .inl f)), (px, .inl (cI, 2, .inl g)), (q, .inr (3, [.long n0, sv]))]) (i0 := 0) (ci := 2) FX (k_X0_take l D cI cB x bx px t f g ak su gt lf rf kn b1 q_1) mi_X0_take rfl ml_RL_55 (RMok.mk) hl.1 rfl (Nat.le_of_ble_eq_true rfl) dL_take_3 (by decide) hK hP hD hS hA [0, 1, 2] rfl [3] rfl rfl (by decide) [1, 2, 3, 0] rfl rfl rfl rfl rfl (fun H locs hP hD hS => ?_)
    refine lv_i2l (v := (v_X0_take b1 f su).toInt64) FX.1 FX.2.1 dL_take_6 rfl ?_
    refine p_putN (wsN := [(x, .inr (2, [.ref bx, .ref px, .ref t, .int (wak_X0_take b1 f ak), .int (wsu_X0_take b1 f su), .int (wgt_X0_take b1 f gt), .int lf, .int rf, .int kn])), (bx, .inl (cI, 6, .inl f)), (px, .inl (cI, 2, .inl g)), (q, .inr (3, [.long ((v_X0_take b1 f su).toInt64), sv]))]) (ci := 3) (v := .long ((v_X0_take b1 f su).toInt64)) (ty := .long) FX inX1 tyX1_ok nmX1 hK hP hD hS 3 rfl rfl 0 (by decide) hz.2 rfl (by decide +kernel) rfl rfl (Nat.le_of_ble_eq_true rfl) dL_take_7 rfl (fun H locs hP hD hS => ?_)
    refine lv_goto (tgt := 16) FX.1 FX.2.1 dL_take_10 (by decide) ?_
    refine lv_iconst (v := 0) FX.1 FX.2.1 dL_take_16 (by decide) ?_
    exact retJi () FX hr hlk dL_take_17 rfl (by rw [show hak_take b1 f ak = wak_X0_take b1 f ak from if_pos hE, show hsu_take b1 f su = wsu_X0_take b1 f su from if_pos hE, show hgt_take b1 f gt = wgt_X0_take b1 f gt from if_pos hE, show hn_take b1 f su n0 = (v_X0_take b1 f su).toInt64 from if_pos hE]; exact hP) hK (by rw [show hak_take b1 f ak = wak_X0_take b1 f ak from if_pos hE, show hsu_take b1 f su = wsu_X0_take b1 f su from if_pos hE, show hgt_take b1 f gt = wgt_X0_take b1 f gt from if_pos hE, show hn_take b1 f su n0 = (v_X0_take b1 f su).toInt64 from if_pos hE]; exact hD) hS (by decide) (by decide) (by rw [hk_take, if_pos hE]) trivial
  · rcases (ev_take b1) with hV | hV
    · exact absurd hV hE
    · refine c_XV1 (i0 := 0) (ci := 2) (k2 := 1) (h1 := (0, 10, 13, 19)) (hs := []) FX (x_X0_take l hl0 D cI cB x bx px t f g ak su gt lf rf kn b1 hE) hV mi_X0_take rfl ml_RL_55 (RMok.mk) hl.1 rfl (Nat.le_of_ble_eq_true rfl) dL_take_3 (by decide) hK hP hA [0, 1, 2] rfl rfl rfl rfl hz.1.1 htb (by decide) (by decide) cl_RL_19 (by decide) (fun q9 H locs hP hS => ?_)
      refine lv_astore_n (lv' := [(3, .ref q9), (0, .ref x), (1, .int b1), (2, .ref q)]) FX.1 FX.2.1 dL_take_13 rfl hl (by decide) rfl (fun ls hl => ?_)
      refine lv_iconst (v := 1) FX.1 FX.2.1 dL_take_14 (by decide) ?_
      exact retJi () FX hr hlk dL_take_15 rfl (by rw [show hak_take b1 f ak = ak from if_neg hE, show hsu_take b1 f su = su from if_neg hE, show hgt_take b1 f gt = gt from if_neg hE, show hn_take b1 f su n0 = n0 from if_neg hE]; exact hP) hK (by rw [show hak_take b1 f ak = ak from if_neg hE, show hsu_take b1 f su = su from if_neg hE, show hgt_take b1 f gt = gt from if_neg hE, show hn_take b1 f su n0 = n0 from if_neg hE]; exact hD) hS (by decide) (by decide) (by rw [hk_take, if_neg hE]) trivial
def hk_takeOrLeave (b1 : Int32) : Int32 := if e_X0_takeOrLeave b1 = 0 then 0 else 1
theorem ev_takeOrLeave (b1 : Int32) : e_X0_takeOrLeave b1 = 0 ∨ e_X0_takeOrLeave b1 = 1 := by
  unfold e_X0_takeOrLeave
  repeat' split
  all_goals first | exact Or.inl rfl | exact (rg_X0_needBox _) | exact (rg_X0_needPlain _) | exact Or.inr rfl
def hak_takeOrLeave (b1 : Int32) (f : Nat → Int32) (ak : Int32) : Int32 := if e_X0_takeOrLeave b1 = 0 then wak_X0_takeOrLeave b1 f ak else ak
def hsu_takeOrLeave (b1 : Int32) (f : Nat → Int32) (su : Int32) : Int32 := if e_X0_takeOrLeave b1 = 0 then wsu_X0_takeOrLeave b1 f su else su
def hgt_takeOrLeave (b1 : Int32) (f : Nat → Int32) (gt : Int32) : Int32 := if e_X0_takeOrLeave b1 = 0 then wgt_X0_takeOrLeave b1 f gt else gt
def hlf_takeOrLeave (b1 : Int32) (f : Nat → Int32) (lf : Int32) : Int32 := if e_X0_takeOrLeave b1 = 0 then wlf_X0_takeOrLeave b1 f lf else lf
def hn_takeOrLeave (b1 : Int32) (f : Nat → Int32) (su : Int32) (n0 : Int64) : Int64 := if e_X0_takeOrLeave b1 = 0 then (v_X0_takeOrLeave b1 f su).toInt64 else n0
set_option maxRecDepth 100000 in
set_option maxHeartbeats 4000000 in
theorem j_L_takeOrLeave (l : Launch) (hl0 : l.stackTraces = false) (D : va_G) (cI cB : ClassId) (x bx px t : Nat) (f g : Nat → Int32) (ak su gt lf rf kn : Int32) (q : Nat) (n0 : Int64) (sv : Value) (b1 : Int32) : JH (S := Unit) l yL_takeOrLeave cL_takeOrLeave 4 (some .int) [(0, 10, 13, 19)] ({ frames := 8, cells := 1, slots := 6, locals := 131 } : Room) D cI cB [.ref x, .int b1, .ref q] [(x, .inr (2, [.ref bx, .ref px, .ref t, .int ak, .int su, .int gt, .int lf, .int rf, .int kn])), (bx, .inl (cI, 6, .inl f)), (px, .inl (cI, 2, .inl g)), (q, .inr (3, [.long n0, sv]))] (zAnd (zAnd zz zN) (zF RL 13 RX1 "n" "J" RL)) (fun _ => some (.int (hk_takeOrLeave b1))) (fun _ => True) (fun _ => [(x, .inr (2, [.ref bx, .ref px, .ref t, .int (hak_takeOrLeave b1 f ak), .int (hsu_takeOrLeave b1 f su), .int (hgt_takeOrLeave b1 f gt), .int (hlf_takeOrLeave b1 f lf), .int rf, .int kn])), (bx, .inl (cI, 6, .inl f)), (px, .inl (cI, 2, .inl g)), (q, .inr (3, [.long (hn_takeOrLeave b1 f su n0), sv]))]) 1 6 := by
  refine bodyJH (by decide +kernel) (Nat.le_of_ble_eq_true rfl) (fun p e s m args below meth c ls A ZZ => ?_)
  obtain ⟨FX, hr, hlk, hK, hP, hD, hS, hA, hz, htb, hl⟩ := ZZ
  have hl : lv_has ls 4 [(0, .ref x), (1, .int b1), (2, .ref q)] := hl
  have hP : va_P D KL [(x, .inr (2, [.ref bx, .ref px, .ref t, .int ak, .int su, .int gt, .int lf, .int rf, .int kn])), (bx, .inl (cI, 6, .inl f)), (px, .inl (cI, 2, .inl g)), (q, .inr (3, [.long n0, sv]))] s.heap := hP
  refine lv_aload_n FX.1 FX.2.1 dL_takeOrLeave_0 rfl (lv_at hl 2 rfl) ?_
  refine lv_aload_n FX.1 FX.2.1 dL_takeOrLeave_1 rfl (lv_at hl 0 rfl) ?_
  refine lv_iload_n FX.1 FX.2.1 dL_takeOrLeave_2 rfl (lv_at hl 1 rfl) ?_
  by_cases hE : e_X0_takeOrLeave b1 = 0
  · have q_1 : (e_X0_takeOrLeave b1) = 0 := hE
    refine c_WRV (wr := [(q, .inr (3, [.long n0, sv]))]) (wsN := [(x, .inr (2, [.ref bx, .ref px, .ref t, .int (wak_X0_takeOrLeave b1 f ak), .int (wsu_X0_takeOrLeave b1 f su), .int (wgt_X0_takeOrLeave b1 f gt), .int (wlf_X0_takeOrLeave b1 f lf), .int rf, .int kn])), (bx, .inl (cI, 6, .inl f)), (px, .inl (cI, 2, .inl g)), (q, .inr (3, [.long n0, sv]))]) (i0 := 0) (ci := 2) FX (k_X0_takeOrLeave l D cI cB x bx px t f g ak su gt lf rf kn b1 q_1) mi_X0_takeOrLeave rfl ml_RL_58 (RMok.mk) hl.1 rfl (Nat.le_of_ble_eq_true rfl) dL_takeOrLeave_3 (by decide) hK hP hD hS hA [0, 1, 2] rfl [3] rfl rfl (by decide) [1, 2, 3, 0] rfl rfl rfl rfl rfl (fun H locs hP hD hS => ?_)
    refine lv_i2l (v := (v_X0_takeOrLeave b1 f su).toInt64) FX.1 FX.2.1 dL_takeOrLeave_6 rfl ?_
    refine p_putN (wsN := [(x, .inr (2, [.ref bx, .ref px, .ref t, .int (wak_X0_takeOrLeave b1 f ak), .int (wsu_X0_takeOrLeave b1 f su), .int (wgt_X0_takeOrLeave b1 f gt), .int (wlf_X0_takeOrLeave b1 f lf), .int rf, .int kn])), (bx, .inl (cI, 6, .inl f)), (px, .inl (cI, 2, .inl g)), (q, .inr (3, [.long ((v_X0_takeOrLeave b1 f su).toInt64), sv]))]) (ci := 3) (v := .long ((v_X0_takeOrLeave b1 f su).toInt64)) (ty := .long) FX inX1 tyX1_ok nmX1 hK hP hD hS 3 rfl rfl 0 (by decide) hz.2 rfl (by decide +kernel) rfl rfl (Nat.le_of_ble_eq_true rfl) dL_takeOrLeave_7 rfl (fun H locs hP hD hS => ?_)
    refine lv_goto (tgt := 16) FX.1 FX.2.1 dL_takeOrLeave_10 (by decide) ?_
    refine lv_iconst (v := 0) FX.1 FX.2.1 dL_takeOrLeave_16 (by decide) ?_
    exact retJi () FX hr hlk dL_takeOrLeave_17 rfl (by rw [show hak_takeOrLeave b1 f ak = wak_X0_takeOrLeave b1 f ak from if_pos hE, show hsu_takeOrLeave b1 f su = wsu_X0_takeOrLeave b1 f su from if_pos hE, show hgt_takeOrLeave b1 f gt = wgt_X0_takeOrLeave b1 f gt from if_pos hE, show hlf_takeOrLeave b1 f lf = wlf_X0_takeOrLeave b1 f lf from if_pos hE, show hn_takeOrLeave b1 f su n0 = (v_X0_takeOrLeave b1 f su).toInt64 from if_pos hE]; exact hP) hK (by rw [show hak_takeOrLeave b1 f ak = wak_X0_takeOrLeave b1 f ak from if_pos hE, show hsu_takeOrLeave b1 f su = wsu_X0_takeOrLeave b1 f su from if_pos hE, show hgt_takeOrLeave b1 f gt = wgt_X0_takeOrLeave b1 f gt from if_pos hE, show hlf_takeOrLeave b1 f lf = wlf_X0_takeOrLeave b1 f lf from if_pos hE, show hn_takeOrLeave b1 f su n0 = (v_X0_takeOrLeave b1 f su).toInt64 from if_pos hE]; exact hD) hS (by decide) (by decide) (by rw [hk_takeOrLeave, if_pos hE]) trivial
  · rcases (ev_takeOrLeave b1) with hV | hV
    · exact absurd hV hE
    · refine c_XV1 (i0 := 0) (ci := 2) (k2 := 1) (h1 := (0, 10, 13, 19)) (hs := []) FX (x_X0_takeOrLeave l hl0 D cI cB x bx px t f g ak su gt lf rf kn b1 hE) hV mi_X0_takeOrLeave rfl ml_RL_58 (RMok.mk) hl.1 rfl (Nat.le_of_ble_eq_true rfl) dL_takeOrLeave_3 (by decide) hK hP hA [0, 1, 2] rfl rfl rfl rfl hz.1.1 htb (by decide) (by decide) cl_RL_19 (by decide) (fun q9 H locs hP hS => ?_)
      refine lv_astore_n (lv' := [(3, .ref q9), (0, .ref x), (1, .int b1), (2, .ref q)]) FX.1 FX.2.1 dL_takeOrLeave_13 rfl hl (by decide) rfl (fun ls hl => ?_)
      refine lv_iconst (v := 1) FX.1 FX.2.1 dL_takeOrLeave_14 (by decide) ?_
      exact retJi () FX hr hlk dL_takeOrLeave_15 rfl (by rw [show hak_takeOrLeave b1 f ak = ak from if_neg hE, show hsu_takeOrLeave b1 f su = su from if_neg hE, show hgt_takeOrLeave b1 f gt = gt from if_neg hE, show hlf_takeOrLeave b1 f lf = lf from if_neg hE, show hn_takeOrLeave b1 f su n0 = n0 from if_neg hE]; exact hP) hK (by rw [show hak_takeOrLeave b1 f ak = ak from if_neg hE, show hsu_takeOrLeave b1 f su = su from if_neg hE, show hgt_takeOrLeave b1 f gt = gt from if_neg hE, show hlf_takeOrLeave b1 f lf = lf from if_neg hE, show hn_takeOrLeave b1 f su n0 = n0 from if_neg hE]; exact hD) hS (by decide) (by decide) (by rw [hk_takeOrLeave, if_neg hE]) trivial
def hk_get (b1 : Int32) : Int32 := if e_X0_get b1 = 0 then 0 else 1
theorem ev_get (b1 : Int32) : e_X0_get b1 = 0 ∨ e_X0_get b1 = 1 := by
  unfold e_X0_get
  repeat' split
  all_goals first | exact Or.inl rfl | exact (rg_X0_needBox _) | exact (rg_X0_needPlain _) | exact Or.inr rfl
def hrf_get (b1 : Int32) (f : Nat → Int32) (rf : Int32) : Int32 := if e_X0_get b1 = 0 then wrf_X0_get b1 f rf else rf
def hn_get (b1 : Int32) (f : Nat → Int32) (n0 : Int64) : Int64 := if e_X0_get b1 = 0 then (v_X0_get b1 f).toInt64 else n0
set_option maxRecDepth 100000 in
set_option maxHeartbeats 4000000 in
theorem j_L_get (l : Launch) (hl0 : l.stackTraces = false) (D : va_G) (cI cB : ClassId) (x bx px t : Nat) (f g : Nat → Int32) (ak su gt lf rf kn : Int32) (q : Nat) (n0 : Int64) (sv : Value) (b1 : Int32) : JH (S := Unit) l yL_get cL_get 4 (some .int) [(0, 10, 13, 19)] ({ frames := 8, cells := 1, slots := 6, locals := 131 } : Room) D cI cB [.ref x, .int b1, .ref q] [(x, .inr (2, [.ref bx, .ref px, .ref t, .int ak, .int su, .int gt, .int lf, .int rf, .int kn])), (bx, .inl (cI, 6, .inl f)), (px, .inl (cI, 2, .inl g)), (q, .inr (3, [.long n0, sv]))] (zAnd (zAnd zz zN) (zF RL 13 RX1 "n" "J" RL)) (fun _ => some (.int (hk_get b1))) (fun _ => True) (fun _ => [(x, .inr (2, [.ref bx, .ref px, .ref t, .int ak, .int su, .int gt, .int lf, .int (hrf_get b1 f rf), .int kn])), (bx, .inl (cI, 6, .inl f)), (px, .inl (cI, 2, .inl g)), (q, .inr (3, [.long (hn_get b1 f n0), sv]))]) 1 6 := by
  refine bodyJH (by decide +kernel) (Nat.le_of_ble_eq_true rfl) (fun p e s m args below meth c ls A ZZ => ?_)
  obtain ⟨FX, hr, hlk, hK, hP, hD, hS, hA, hz, htb, hl⟩ := ZZ
  have hl : lv_has ls 4 [(0, .ref x), (1, .int b1), (2, .ref q)] := hl
  have hP : va_P D KL [(x, .inr (2, [.ref bx, .ref px, .ref t, .int ak, .int su, .int gt, .int lf, .int rf, .int kn])), (bx, .inl (cI, 6, .inl f)), (px, .inl (cI, 2, .inl g)), (q, .inr (3, [.long n0, sv]))] s.heap := hP
  refine lv_aload_n FX.1 FX.2.1 dL_get_0 rfl (lv_at hl 2 rfl) ?_
  refine lv_aload_n FX.1 FX.2.1 dL_get_1 rfl (lv_at hl 0 rfl) ?_
  refine lv_iload_n FX.1 FX.2.1 dL_get_2 rfl (lv_at hl 1 rfl) ?_
  by_cases hE : e_X0_get b1 = 0
  · have q_1 : (e_X0_get b1) = 0 := hE
    refine c_WRV (wr := [(q, .inr (3, [.long n0, sv]))]) (wsN := [(x, .inr (2, [.ref bx, .ref px, .ref t, .int ak, .int su, .int gt, .int lf, .int (wrf_X0_get b1 f rf), .int kn])), (bx, .inl (cI, 6, .inl f)), (px, .inl (cI, 2, .inl g)), (q, .inr (3, [.long n0, sv]))]) (i0 := 0) (ci := 2) FX (k_X0_get l D cI cB x bx px t f g ak su gt lf rf kn b1 q_1) mi_X0_get rfl ml_RL_61 (RMok.mk) hl.1 rfl (Nat.le_of_ble_eq_true rfl) dL_get_3 (by decide) hK hP hD hS hA [0, 1, 2] rfl [3] rfl rfl (by decide) [1, 2, 3, 0] rfl rfl rfl rfl rfl (fun H locs hP hD hS => ?_)
    refine lv_i2l (v := (v_X0_get b1 f).toInt64) FX.1 FX.2.1 dL_get_6 rfl ?_
    refine p_putN (wsN := [(x, .inr (2, [.ref bx, .ref px, .ref t, .int ak, .int su, .int gt, .int lf, .int (wrf_X0_get b1 f rf), .int kn])), (bx, .inl (cI, 6, .inl f)), (px, .inl (cI, 2, .inl g)), (q, .inr (3, [.long ((v_X0_get b1 f).toInt64), sv]))]) (ci := 3) (v := .long ((v_X0_get b1 f).toInt64)) (ty := .long) FX inX1 tyX1_ok nmX1 hK hP hD hS 3 rfl rfl 0 (by decide) hz.2 rfl (by decide +kernel) rfl rfl (Nat.le_of_ble_eq_true rfl) dL_get_7 rfl (fun H locs hP hD hS => ?_)
    refine lv_goto (tgt := 16) FX.1 FX.2.1 dL_get_10 (by decide) ?_
    refine lv_iconst (v := 0) FX.1 FX.2.1 dL_get_16 (by decide) ?_
    exact retJi () FX hr hlk dL_get_17 rfl (by rw [show hrf_get b1 f rf = wrf_X0_get b1 f rf from if_pos hE, show hn_get b1 f n0 = (v_X0_get b1 f).toInt64 from if_pos hE]; exact hP) hK (by rw [show hrf_get b1 f rf = wrf_X0_get b1 f rf from if_pos hE, show hn_get b1 f n0 = (v_X0_get b1 f).toInt64 from if_pos hE]; exact hD) hS (by decide) (by decide) (by rw [hk_get, if_pos hE]) trivial
  · rcases (ev_get b1) with hV | hV
    · exact absurd hV hE
    · refine c_XV1 (i0 := 0) (ci := 2) (k2 := 1) (h1 := (0, 10, 13, 19)) (hs := []) FX (x_X0_get l hl0 D cI cB x bx px t f g ak su gt lf rf kn b1 hE) hV mi_X0_get rfl ml_RL_61 (RMok.mk) hl.1 rfl (Nat.le_of_ble_eq_true rfl) dL_get_3 (by decide) hK hP hA [0, 1, 2] rfl rfl rfl rfl hz.1.1 htb (by decide) (by decide) cl_RL_19 (by decide) (fun q9 H locs hP hS => ?_)
      refine lv_astore_n (lv' := [(3, .ref q9), (0, .ref x), (1, .int b1), (2, .ref q)]) FX.1 FX.2.1 dL_get_13 rfl hl (by decide) rfl (fun ls hl => ?_)
      refine lv_iconst (v := 1) FX.1 FX.2.1 dL_get_14 (by decide) ?_
      exact retJi () FX hr hlk dL_get_15 rfl (by rw [show hrf_get b1 f rf = rf from if_neg hE, show hn_get b1 f n0 = n0 from if_neg hE]; exact hP) hK (by rw [show hrf_get b1 f rf = rf from if_neg hE, show hn_get b1 f n0 = n0 from if_neg hE]; exact hD) hS (by decide) (by decide) (by rw [hk_get, if_neg hE]) trivial
def hk_orElse (b1 : Int32) (n1 : Int32) : Int32 := if e_X0_orElse b1 n1 = 0 then 0 else if e_X0_orElse b1 n1 = 1 then 1 else 2
theorem ev_orElse (b1 : Int32) (n1 : Int32) : e_X0_orElse b1 n1 = 0 ∨ e_X0_orElse b1 n1 = 1 ∨ e_X0_orElse b1 n1 = 2 := by
  unfold e_X0_orElse
  repeat' split
  all_goals first | exact Or.inl rfl | exact r21 (rg_X0_needBox _) | exact r21 (rg_X0_needPlain _) | exact r22 (rg_X0_needNumber _) | exact r22 (rg_X0_needKind _ _) | exact Or.inr (Or.inl rfl) | exact Or.inr (Or.inr rfl)
def hn_orElse (b1 : Int32) (n1 : Int32) (f : Nat → Int32) (n0 : Int64) : Int64 := if e_X0_orElse b1 n1 = 0 then (v_X0_orElse b1 n1 f).toInt64 else n0
set_option maxRecDepth 100000 in
set_option maxHeartbeats 4000000 in
theorem j_L_orElse (l : Launch) (hl0 : l.stackTraces = false) (D : va_G) (cI cB : ClassId) (x bx px t : Nat) (f g : Nat → Int32) (ak su gt lf rf kn : Int32) (q : Nat) (n0 : Int64) (sv : Value) (b1 : Int32) (n1 : Int32) : JH (S := Unit) l yL_orElse cL_orElse 5 (some .int) [(0, 11, 14, 19), (0, 11, 18, 21)] ({ frames := 8, cells := 1, slots := 6, locals := 132 } : Room) D cI cB [.ref x, .int b1, .int n1, .ref q] [(x, .inr (2, [.ref bx, .ref px, .ref t, .int ak, .int su, .int gt, .int lf, .int rf, .int kn])), (bx, .inl (cI, 6, .inl f)), (px, .inl (cI, 2, .inl g)), (q, .inr (3, [.long n0, sv]))] (zAnd (zAnd zz zN) (zF RL 13 RX1 "n" "J" RL)) (fun _ => some (.int (hk_orElse b1 n1))) (fun _ => True) (fun _ => [(x, .inr (2, [.ref bx, .ref px, .ref t, .int ak, .int su, .int gt, .int lf, .int rf, .int kn])), (bx, .inl (cI, 6, .inl f)), (px, .inl (cI, 2, .inl g)), (q, .inr (3, [.long (hn_orElse b1 n1 f n0), sv]))]) 1 6 := by
  refine bodyJH (by decide +kernel) (Nat.le_of_ble_eq_true rfl) (fun p e s m args below meth c ls A ZZ => ?_)
  obtain ⟨FX, hr, hlk, hK, hP, hD, hS, hA, hz, htb, hl⟩ := ZZ
  have hl : lv_has ls 5 [(0, .ref x), (1, .int b1), (2, .int n1), (3, .ref q)] := hl
  have hP : va_P D KL [(x, .inr (2, [.ref bx, .ref px, .ref t, .int ak, .int su, .int gt, .int lf, .int rf, .int kn])), (bx, .inl (cI, 6, .inl f)), (px, .inl (cI, 2, .inl g)), (q, .inr (3, [.long n0, sv]))] s.heap := hP
  refine lv_aload_n FX.1 FX.2.1 dL_orElse_0 rfl (lv_at hl 3 rfl) ?_
  refine lv_aload_n FX.1 FX.2.1 dL_orElse_1 rfl (lv_at hl 0 rfl) ?_
  refine lv_iload_n FX.1 FX.2.1 dL_orElse_2 rfl (lv_at hl 1 rfl) ?_
  refine lv_iload_n FX.1 FX.2.1 dL_orElse_3 rfl (lv_at hl 2 rfl) ?_
  by_cases hE : e_X0_orElse b1 n1 = 0
  · have q_1 : (e_X0_orElse b1 n1) = 0 := hE
    refine c_RDV (i0 := 0) (ci := 2) FX (r_X0_orElse l D cI cB x bx px t f g ak su gt lf rf kn b1 n1 q_1) mi_X0_orElse rfl ml_RL_64 (RMok.mk) hl.1 rfl (Nat.le_of_ble_eq_true rfl) dL_orElse_4 (by decide) hK hP [0, 1, 2] rfl rfl rfl rfl ?_
    refine lv_i2l (v := (v_X0_orElse b1 n1 f).toInt64) FX.1 FX.2.1 dL_orElse_7 rfl ?_
    refine p_putN (wsN := [(x, .inr (2, [.ref bx, .ref px, .ref t, .int ak, .int su, .int gt, .int lf, .int rf, .int kn])), (bx, .inl (cI, 6, .inl f)), (px, .inl (cI, 2, .inl g)), (q, .inr (3, [.long ((v_X0_orElse b1 n1 f).toInt64), sv]))]) (ci := 3) (v := .long ((v_X0_orElse b1 n1 f).toInt64)) (ty := .long) FX inX1 tyX1_ok nmX1 hK hP hD hS 3 rfl rfl 0 (by decide) hz.2 rfl (by decide +kernel) rfl rfl (Nat.le_of_ble_eq_true rfl) dL_orElse_8 rfl (fun H locs hP hD hS => ?_)
    refine lv_goto (tgt := 22) FX.1 FX.2.1 dL_orElse_11 (by decide) ?_
    refine lv_iconst (v := 0) FX.1 FX.2.1 dL_orElse_22 (by decide) ?_
    exact retJi () FX hr hlk dL_orElse_23 rfl (by rw [show hn_orElse b1 n1 f n0 = (v_X0_orElse b1 n1 f).toInt64 from if_pos hE]; exact hP) hK (by rw [show hn_orElse b1 n1 f n0 = (v_X0_orElse b1 n1 f).toInt64 from if_pos hE]; exact hD) hS (by decide) (by decide) (by rw [hk_orElse, if_pos hE]) trivial
  · rcases (ev_orElse b1 n1) with hV | hV | hV
    · exact absurd hV hE
    · refine c_XV1 (i0 := 0) (ci := 2) (k2 := 1) (h1 := (0, 11, 14, 19)) (hs := [(0, 11, 18, 21)]) FX (x_X0_orElse l hl0 D cI cB x bx px t f g ak su gt lf rf kn b1 n1 hE) hV mi_X0_orElse rfl ml_RL_64 (RMok.mk) hl.1 rfl (Nat.le_of_ble_eq_true rfl) dL_orElse_4 (by decide) hK hP hA [0, 1, 2] rfl rfl rfl rfl hz.1.1 htb (by decide) (by decide) cl_RL_19 (by decide) (fun q9 H locs hP hS => ?_)
      refine lv_astore (lv' := [(4, .ref q9), (0, .ref x), (1, .int b1), (2, .int n1), (3, .ref q)]) FX.1 FX.2.1 dL_orElse_14 hl (by decide) rfl (fun ls hl => ?_)
      refine lv_iconst (v := 1) FX.1 FX.2.1 dL_orElse_16 (by decide) ?_
      exact retJi () FX hr hlk dL_orElse_17 rfl (by rw [show hn_orElse b1 n1 f n0 = n0 from if_neg hE]; exact hP) hK (by rw [show hn_orElse b1 n1 f n0 = n0 from if_neg hE]; exact hD) hS (by decide) (by decide) (by rw [hk_orElse, if_neg hE, if_pos hV]) trivial
    · refine c_XV2 (i0 := 0) (ci := 2) (k1 := 1) (k2 := 2) (h1 := (0, 11, 14, 19)) (h2 := (0, 11, 18, 21)) (hs := []) FX (x_X0_orElse l hl0 D cI cB x bx px t f g ak su gt lf rf kn b1 n1 hE) hV mi_X0_orElse rfl ml_RL_64 (RMok.mk) hl.1 rfl (Nat.le_of_ble_eq_true rfl) dL_orElse_4 (by decide) hK hP hA [0, 1, 2] rfl rfl rfl rfl hz.1.1 hz.1.2 htb (by decide) cl_RL_19 (by decide) (by decide) (by decide) cl_RL_21 (by decide) (fun q9 H locs hP hS => ?_)
      refine lv_astore (lv' := [(4, .ref q9), (0, .ref x), (1, .int b1), (2, .int n1), (3, .ref q)]) FX.1 FX.2.1 dL_orElse_18 hl (by decide) rfl (fun ls hl => ?_)
      refine lv_iconst (v := 2) FX.1 FX.2.1 dL_orElse_20 (by decide) ?_
      exact retJi () FX hr hlk dL_orElse_21 rfl (by rw [show hn_orElse b1 n1 f n0 = n0 from if_neg hE]; exact hP) hK (by rw [show hn_orElse b1 n1 f n0 = n0 from if_neg hE]; exact hD) hS (by decide) (by decide) (by rw [hk_orElse, if_neg hE, if_neg (by rw [hV]; decide)]) trivial
def hk_orElseGet (b1 : Int32) (n1 : Int32) : Int32 := if e_X0_orElseGet b1 n1 = 0 then 0 else if e_X0_orElseGet b1 n1 = 1 then 1 else 2
theorem ev_orElseGet (b1 : Int32) (n1 : Int32) : e_X0_orElseGet b1 n1 = 0 ∨ e_X0_orElseGet b1 n1 = 1 ∨ e_X0_orElseGet b1 n1 = 2 := by
  unfold e_X0_orElseGet
  repeat' split
  all_goals first | exact Or.inl rfl | exact r21 (rg_X0_needBox _) | exact r21 (rg_X0_needPlain _) | exact r22 (rg_X0_needNumber _) | exact r22 (rg_X0_needKind _ _) | exact Or.inr (Or.inl rfl) | exact Or.inr (Or.inr rfl)
def hak_orElseGet (b1 : Int32) (n1 : Int32) (f : Nat → Int32) (ak : Int32) : Int32 := if e_X0_orElseGet b1 n1 = 0 then wak_X0_orElseGet b1 f ak else ak
def hn_orElseGet (b1 : Int32) (n1 : Int32) (f : Nat → Int32) (ak : Int32) (n0 : Int64) : Int64 := if e_X0_orElseGet b1 n1 = 0 then (v_X0_orElseGet b1 n1 f ak).toInt64 else n0
set_option maxRecDepth 100000 in
set_option maxHeartbeats 4000000 in
theorem j_L_orElseGet (l : Launch) (hl0 : l.stackTraces = false) (D : va_G) (cI cB : ClassId) (x bx px t : Nat) (f g : Nat → Int32) (ak su gt lf rf kn : Int32) (q : Nat) (n0 : Int64) (sv : Value) (b1 : Int32) (n1 : Int32) : JH (S := Unit) l yL_orElseGet cL_orElseGet 5 (some .int) [(0, 11, 14, 19), (0, 11, 18, 21)] ({ frames := 8, cells := 1, slots := 6, locals := 133 } : Room) D cI cB [.ref x, .int b1, .int n1, .ref q] [(x, .inr (2, [.ref bx, .ref px, .ref t, .int ak, .int su, .int gt, .int lf, .int rf, .int kn])), (bx, .inl (cI, 6, .inl f)), (px, .inl (cI, 2, .inl g)), (q, .inr (3, [.long n0, sv]))] (zAnd (zAnd zz zN) (zF RL 13 RX1 "n" "J" RL)) (fun _ => some (.int (hk_orElseGet b1 n1))) (fun _ => True) (fun _ => [(x, .inr (2, [.ref bx, .ref px, .ref t, .int (hak_orElseGet b1 n1 f ak), .int su, .int gt, .int lf, .int rf, .int kn])), (bx, .inl (cI, 6, .inl f)), (px, .inl (cI, 2, .inl g)), (q, .inr (3, [.long (hn_orElseGet b1 n1 f ak n0), sv]))]) 1 6 := by
  refine bodyJH (by decide +kernel) (Nat.le_of_ble_eq_true rfl) (fun p e s m args below meth c ls A ZZ => ?_)
  obtain ⟨FX, hr, hlk, hK, hP, hD, hS, hA, hz, htb, hl⟩ := ZZ
  have hl : lv_has ls 5 [(0, .ref x), (1, .int b1), (2, .int n1), (3, .ref q)] := hl
  have hP : va_P D KL [(x, .inr (2, [.ref bx, .ref px, .ref t, .int ak, .int su, .int gt, .int lf, .int rf, .int kn])), (bx, .inl (cI, 6, .inl f)), (px, .inl (cI, 2, .inl g)), (q, .inr (3, [.long n0, sv]))] s.heap := hP
  refine lv_aload_n FX.1 FX.2.1 dL_orElseGet_0 rfl (lv_at hl 3 rfl) ?_
  refine lv_aload_n FX.1 FX.2.1 dL_orElseGet_1 rfl (lv_at hl 0 rfl) ?_
  refine lv_iload_n FX.1 FX.2.1 dL_orElseGet_2 rfl (lv_at hl 1 rfl) ?_
  refine lv_iload_n FX.1 FX.2.1 dL_orElseGet_3 rfl (lv_at hl 2 rfl) ?_
  by_cases hE : e_X0_orElseGet b1 n1 = 0
  · have q_1 : (e_X0_orElseGet b1 n1) = 0 := hE
    refine c_WRV (wr := [(q, .inr (3, [.long n0, sv]))]) (wsN := [(x, .inr (2, [.ref bx, .ref px, .ref t, .int (wak_X0_orElseGet b1 f ak), .int su, .int gt, .int lf, .int rf, .int kn])), (bx, .inl (cI, 6, .inl f)), (px, .inl (cI, 2, .inl g)), (q, .inr (3, [.long n0, sv]))]) (i0 := 0) (ci := 2) FX (k_X0_orElseGet l D cI cB x bx px t f g ak su gt lf rf kn b1 n1 q_1) mi_X0_orElseGet rfl ml_RL_67 (RMok.mk) hl.1 rfl (Nat.le_of_ble_eq_true rfl) dL_orElseGet_4 (by decide) hK hP hD hS hA [0, 1, 2] rfl [3] rfl rfl (by decide) [1, 2, 3, 0] rfl rfl rfl rfl rfl (fun H locs hP hD hS => ?_)
    refine lv_i2l (v := (v_X0_orElseGet b1 n1 f ak).toInt64) FX.1 FX.2.1 dL_orElseGet_7 rfl ?_
    refine p_putN (wsN := [(x, .inr (2, [.ref bx, .ref px, .ref t, .int (wak_X0_orElseGet b1 f ak), .int su, .int gt, .int lf, .int rf, .int kn])), (bx, .inl (cI, 6, .inl f)), (px, .inl (cI, 2, .inl g)), (q, .inr (3, [.long ((v_X0_orElseGet b1 n1 f ak).toInt64), sv]))]) (ci := 3) (v := .long ((v_X0_orElseGet b1 n1 f ak).toInt64)) (ty := .long) FX inX1 tyX1_ok nmX1 hK hP hD hS 3 rfl rfl 0 (by decide) hz.2 rfl (by decide +kernel) rfl rfl (Nat.le_of_ble_eq_true rfl) dL_orElseGet_8 rfl (fun H locs hP hD hS => ?_)
    refine lv_goto (tgt := 22) FX.1 FX.2.1 dL_orElseGet_11 (by decide) ?_
    refine lv_iconst (v := 0) FX.1 FX.2.1 dL_orElseGet_22 (by decide) ?_
    exact retJi () FX hr hlk dL_orElseGet_23 rfl (by rw [show hak_orElseGet b1 n1 f ak = wak_X0_orElseGet b1 f ak from if_pos hE, show hn_orElseGet b1 n1 f ak n0 = (v_X0_orElseGet b1 n1 f ak).toInt64 from if_pos hE]; exact hP) hK (by rw [show hak_orElseGet b1 n1 f ak = wak_X0_orElseGet b1 f ak from if_pos hE, show hn_orElseGet b1 n1 f ak n0 = (v_X0_orElseGet b1 n1 f ak).toInt64 from if_pos hE]; exact hD) hS (by decide) (by decide) (by rw [hk_orElseGet, if_pos hE]) trivial
  · rcases (ev_orElseGet b1 n1) with hV | hV | hV
    · exact absurd hV hE
    · refine c_XV1 (i0 := 0) (ci := 2) (k2 := 1) (h1 := (0, 11, 14, 19)) (hs := [(0, 11, 18, 21)]) FX (x_X0_orElseGet l hl0 D cI cB x bx px t f g ak su gt lf rf kn b1 n1 hE) hV mi_X0_orElseGet rfl ml_RL_67 (RMok.mk) hl.1 rfl (Nat.le_of_ble_eq_true rfl) dL_orElseGet_4 (by decide) hK hP hA [0, 1, 2] rfl rfl rfl rfl hz.1.1 htb (by decide) (by decide) cl_RL_19 (by decide) (fun q9 H locs hP hS => ?_)
      refine lv_astore (lv' := [(4, .ref q9), (0, .ref x), (1, .int b1), (2, .int n1), (3, .ref q)]) FX.1 FX.2.1 dL_orElseGet_14 hl (by decide) rfl (fun ls hl => ?_)
      refine lv_iconst (v := 1) FX.1 FX.2.1 dL_orElseGet_16 (by decide) ?_
      exact retJi () FX hr hlk dL_orElseGet_17 rfl (by rw [show hak_orElseGet b1 n1 f ak = ak from if_neg hE, show hn_orElseGet b1 n1 f ak n0 = n0 from if_neg hE]; exact hP) hK (by rw [show hak_orElseGet b1 n1 f ak = ak from if_neg hE, show hn_orElseGet b1 n1 f ak n0 = n0 from if_neg hE]; exact hD) hS (by decide) (by decide) (by rw [hk_orElseGet, if_neg hE, if_pos hV]) trivial
    · refine c_XV2 (i0 := 0) (ci := 2) (k1 := 1) (k2 := 2) (h1 := (0, 11, 14, 19)) (h2 := (0, 11, 18, 21)) (hs := []) FX (x_X0_orElseGet l hl0 D cI cB x bx px t f g ak su gt lf rf kn b1 n1 hE) hV mi_X0_orElseGet rfl ml_RL_67 (RMok.mk) hl.1 rfl (Nat.le_of_ble_eq_true rfl) dL_orElseGet_4 (by decide) hK hP hA [0, 1, 2] rfl rfl rfl rfl hz.1.1 hz.1.2 htb (by decide) cl_RL_19 (by decide) (by decide) (by decide) cl_RL_21 (by decide) (fun q9 H locs hP hS => ?_)
      refine lv_astore (lv' := [(4, .ref q9), (0, .ref x), (1, .int b1), (2, .int n1), (3, .ref q)]) FX.1 FX.2.1 dL_orElseGet_18 hl (by decide) rfl (fun ls hl => ?_)
      refine lv_iconst (v := 2) FX.1 FX.2.1 dL_orElseGet_20 (by decide) ?_
      exact retJi () FX hr hlk dL_orElseGet_21 rfl (by rw [show hak_orElseGet b1 n1 f ak = ak from if_neg hE, show hn_orElseGet b1 n1 f ak n0 = n0 from if_neg hE]; exact hP) hK (by rw [show hak_orElseGet b1 n1 f ak = ak from if_neg hE, show hn_orElseGet b1 n1 f ak n0 = n0 from if_neg hE]; exact hD) hS (by decide) (by decide) (by rw [hk_orElseGet, if_neg hE, if_neg (by rw [hV]; decide)]) trivial
def hk_orElseThrow (b1 : Int32) (f : Nat → Int32) : Int32 := if e_X0_orElseThrow b1 f = 0 then 0 else if e_X0_orElseThrow b1 f = 1 then 1 else 2
theorem ev_orElseThrow (b1 : Int32) (f : Nat → Int32) : e_X0_orElseThrow b1 f = 0 ∨ e_X0_orElseThrow b1 f = 1 ∨ e_X0_orElseThrow b1 f = 3 := by
  unfold e_X0_orElseThrow
  repeat' split
  all_goals first | exact Or.inl rfl | exact r31 (rg_X0_needBox _) | exact r31 (rg_X0_needPlain _) | exact Or.inr (Or.inl rfl) | exact Or.inr (Or.inr rfl)
def hn_orElseThrow (b1 : Int32) (f : Nat → Int32) (n0 : Int64) : Int64 := if e_X0_orElseThrow b1 f = 0 then (v_X0_orElseThrow b1 f).toInt64 else n0
set_option maxRecDepth 100000 in
set_option maxHeartbeats 4000000 in
theorem j_L_orElseThrow (l : Launch) (hl0 : l.stackTraces = false) (D : va_G) (cI cB : ClassId) (x bx px t : Nat) (f g : Nat → Int32) (ak su gt lf rf kn : Int32) (q : Nat) (n0 : Int64) (sv : Value) (b1 : Int32) : JH (S := Unit) l yL_orElseThrow cL_orElseThrow 4 (some .int) [(0, 10, 13, 19), (0, 10, 16, 73)] ({ frames := 8, cells := 1, slots := 6, locals := 131 } : Room) D cI cB [.ref x, .int b1, .ref q] [(x, .inr (2, [.ref bx, .ref px, .ref t, .int ak, .int su, .int gt, .int lf, .int rf, .int kn])), (bx, .inl (cI, 6, .inl f)), (px, .inl (cI, 2, .inl g)), (q, .inr (3, [.long n0, sv]))] (zAnd (zAnd zz zN) (zF RL 13 RX1 "n" "J" RL)) (fun _ => some (.int (hk_orElseThrow b1 f))) (fun _ => True) (fun _ => [(x, .inr (2, [.ref bx, .ref px, .ref t, .int ak, .int su, .int gt, .int lf, .int rf, .int kn])), (bx, .inl (cI, 6, .inl f)), (px, .inl (cI, 2, .inl g)), (q, .inr (3, [.long (hn_orElseThrow b1 f n0), sv]))]) 1 6 := by
  refine bodyJH (by decide +kernel) (Nat.le_of_ble_eq_true rfl) (fun p e s m args below meth c ls A ZZ => ?_)
  obtain ⟨FX, hr, hlk, hK, hP, hD, hS, hA, hz, htb, hl⟩ := ZZ
  have hl : lv_has ls 4 [(0, .ref x), (1, .int b1), (2, .ref q)] := hl
  have hP : va_P D KL [(x, .inr (2, [.ref bx, .ref px, .ref t, .int ak, .int su, .int gt, .int lf, .int rf, .int kn])), (bx, .inl (cI, 6, .inl f)), (px, .inl (cI, 2, .inl g)), (q, .inr (3, [.long n0, sv]))] s.heap := hP
  refine lv_aload_n FX.1 FX.2.1 dL_orElseThrow_0 rfl (lv_at hl 2 rfl) ?_
  refine lv_aload_n FX.1 FX.2.1 dL_orElseThrow_1 rfl (lv_at hl 0 rfl) ?_
  refine lv_iload_n FX.1 FX.2.1 dL_orElseThrow_2 rfl (lv_at hl 1 rfl) ?_
  by_cases hE : e_X0_orElseThrow b1 f = 0
  · have q_1 : (e_X0_orElseThrow b1 f) = 0 := hE
    refine c_RDV (i0 := 0) (ci := 2) FX (r_X0_orElseThrow l D cI cB x bx px t f g ak su gt lf rf kn b1 q_1) mi_X0_orElseThrow rfl ml_RL_70 (RMok.mk) hl.1 rfl (Nat.le_of_ble_eq_true rfl) dL_orElseThrow_3 (by decide) hK hP [0, 1, 2] rfl rfl rfl rfl ?_
    refine lv_i2l (v := (v_X0_orElseThrow b1 f).toInt64) FX.1 FX.2.1 dL_orElseThrow_6 rfl ?_
    refine p_putN (wsN := [(x, .inr (2, [.ref bx, .ref px, .ref t, .int ak, .int su, .int gt, .int lf, .int rf, .int kn])), (bx, .inl (cI, 6, .inl f)), (px, .inl (cI, 2, .inl g)), (q, .inr (3, [.long ((v_X0_orElseThrow b1 f).toInt64), sv]))]) (ci := 3) (v := .long ((v_X0_orElseThrow b1 f).toInt64)) (ty := .long) FX inX1 tyX1_ok nmX1 hK hP hD hS 3 rfl rfl 0 (by decide) hz.2 rfl (by decide +kernel) rfl rfl (Nat.le_of_ble_eq_true rfl) dL_orElseThrow_7 rfl (fun H locs hP hD hS => ?_)
    refine lv_goto (tgt := 19) FX.1 FX.2.1 dL_orElseThrow_10 (by decide) ?_
    refine lv_iconst (v := 0) FX.1 FX.2.1 dL_orElseThrow_19 (by decide) ?_
    exact retJi () FX hr hlk dL_orElseThrow_20 rfl (by rw [show hn_orElseThrow b1 f n0 = (v_X0_orElseThrow b1 f).toInt64 from if_pos hE]; exact hP) hK (by rw [show hn_orElseThrow b1 f n0 = (v_X0_orElseThrow b1 f).toInt64 from if_pos hE]; exact hD) hS (by decide) (by decide) (by rw [hk_orElseThrow, if_pos hE]) trivial
  · rcases (ev_orElseThrow b1 f) with hV | hV | hV
    · exact absurd hV hE
    · refine c_XV1 (i0 := 0) (ci := 2) (k2 := 1) (h1 := (0, 10, 13, 19)) (hs := [(0, 10, 16, 73)]) FX (x_X0_orElseThrow l hl0 D cI cB x bx px t f g ak su gt lf rf kn b1 hE) hV mi_X0_orElseThrow rfl ml_RL_70 (RMok.mk) hl.1 rfl (Nat.le_of_ble_eq_true rfl) dL_orElseThrow_3 (by decide) hK hP hA [0, 1, 2] rfl rfl rfl rfl hz.1.1 htb (by decide) (by decide) cl_RL_19 (by decide) (fun q9 H locs hP hS => ?_)
      refine lv_astore_n (lv' := [(3, .ref q9), (0, .ref x), (1, .int b1), (2, .ref q)]) FX.1 FX.2.1 dL_orElseThrow_13 rfl hl (by decide) rfl (fun ls hl => ?_)
      refine lv_iconst (v := 1) FX.1 FX.2.1 dL_orElseThrow_14 (by decide) ?_
      exact retJi () FX hr hlk dL_orElseThrow_15 rfl (by rw [show hn_orElseThrow b1 f n0 = n0 from if_neg hE]; exact hP) hK (by rw [show hn_orElseThrow b1 f n0 = n0 from if_neg hE]; exact hD) hS (by decide) (by decide) (by rw [hk_orElseThrow, if_neg hE, if_pos hV]) trivial
    · refine c_XV2 (i0 := 0) (ci := 2) (k1 := 1) (k2 := 3) (h1 := (0, 10, 13, 19)) (h2 := (0, 10, 16, 73)) (hs := []) FX (x_X0_orElseThrow l hl0 D cI cB x bx px t f g ak su gt lf rf kn b1 hE) hV mi_X0_orElseThrow rfl ml_RL_70 (RMok.mk) hl.1 rfl (Nat.le_of_ble_eq_true rfl) dL_orElseThrow_3 (by decide) hK hP hA [0, 1, 2] rfl rfl rfl rfl hz.1.1 hz.1.2 htb (by decide) cl_RL_19 (by decide) (by decide) (by decide) cl_RL_73 (by decide) (fun q9 H locs hP hS => ?_)
      refine lv_astore_n (lv' := [(3, .ref q9), (0, .ref x), (1, .int b1), (2, .ref q)]) FX.1 FX.2.1 dL_orElseThrow_16 rfl hl (by decide) rfl (fun ls hl => ?_)
      refine lv_iconst (v := 2) FX.1 FX.2.1 dL_orElseThrow_17 (by decide) ?_
      exact retJi () FX hr hlk dL_orElseThrow_18 rfl (by rw [show hn_orElseThrow b1 f n0 = n0 from if_neg hE]; exact hP) hK (by rw [show hn_orElseThrow b1 f n0 = n0 from if_neg hE]; exact hD) hS (by decide) (by decide) (by rw [hk_orElseThrow, if_neg hE, if_neg (by rw [hV]; decide)]) trivial
def hk_isFull (b1 : Int32) : Int32 := if e_X0_isFull b1 = 0 then 0 else 1
theorem ev_isFull (b1 : Int32) : e_X0_isFull b1 = 0 ∨ e_X0_isFull b1 = 1 := by
  unfold e_X0_isFull
  repeat' split
  all_goals first | exact Or.inl rfl | exact (rg_X0_needBox _) | exact (rg_X0_needPlain _) | exact Or.inr rfl
def hn_isFull (b1 : Int32) (f : Nat → Int32) (n0 : Int64) : Int64 := if e_X0_isFull b1 = 0 then (if v_X0_isFull b1 f = 0 then 0 else 1) else n0
set_option maxRecDepth 100000 in
set_option maxHeartbeats 4000000 in
theorem j_L_isFull (l : Launch) (hl0 : l.stackTraces = false) (D : va_G) (cI cB : ClassId) (x bx px t : Nat) (f g : Nat → Int32) (ak su gt lf rf kn : Int32) (q : Nat) (n0 : Int64) (sv : Value) (b1 : Int32) : JH (S := Unit) l yL_isFull cL_isFull 4 (some .int) [(0, 17, 20, 19)] ({ frames := 8, cells := 1, slots := 6, locals := 131 } : Room) D cI cB [.ref x, .int b1, .ref q] [(x, .inr (2, [.ref bx, .ref px, .ref t, .int ak, .int su, .int gt, .int lf, .int rf, .int kn])), (bx, .inl (cI, 6, .inl f)), (px, .inl (cI, 2, .inl g)), (q, .inr (3, [.long n0, sv]))] (zAnd (zAnd zz zN) (zF RL 13 RX1 "n" "J" RL)) (fun _ => some (.int (hk_isFull b1))) (fun _ => True) (fun _ => [(x, .inr (2, [.ref bx, .ref px, .ref t, .int ak, .int su, .int gt, .int lf, .int rf, .int kn])), (bx, .inl (cI, 6, .inl f)), (px, .inl (cI, 2, .inl g)), (q, .inr (3, [.long (hn_isFull b1 f n0), sv]))]) 1 6 := by
  refine bodyJH (by decide +kernel) (Nat.le_of_ble_eq_true rfl) (fun p e s m args below meth c ls A ZZ => ?_)
  obtain ⟨FX, hr, hlk, hK, hP, hD, hS, hA, hz, htb, hl⟩ := ZZ
  have hl : lv_has ls 4 [(0, .ref x), (1, .int b1), (2, .ref q)] := hl
  have hP : va_P D KL [(x, .inr (2, [.ref bx, .ref px, .ref t, .int ak, .int su, .int gt, .int lf, .int rf, .int kn])), (bx, .inl (cI, 6, .inl f)), (px, .inl (cI, 2, .inl g)), (q, .inr (3, [.long n0, sv]))] s.heap := hP
  refine lv_aload_n FX.1 FX.2.1 dL_isFull_0 rfl (lv_at hl 2 rfl) ?_
  refine lv_aload_n FX.1 FX.2.1 dL_isFull_1 rfl (lv_at hl 0 rfl) ?_
  refine lv_iload_n FX.1 FX.2.1 dL_isFull_2 rfl (lv_at hl 1 rfl) ?_
  by_cases hE : e_X0_isFull b1 = 0
  · have q_1 : (e_X0_isFull b1) = 0 := hE
    refine c_RDV (i0 := 0) (ci := 2) FX (r_X0_isFull l D cI cB x bx px t f g ak su gt lf rf kn b1 q_1) mi_X0_isFull rfl ml_RL_75 (RMok.mk) hl.1 rfl (Nat.le_of_ble_eq_true rfl) dL_isFull_3 (by decide) hK hP [0, 1, 2] rfl rfl rfl rfl ?_
    refine lv_if_eq (tgt := 13) FX.1 FX.2.1 dL_isFull_6 (by decide) (fun c_2 => ?_) (fun c_2 => ?_)
    · refine lv_lconst (v := 0) FX.1 FX.2.1 dL_isFull_13 (by decide) ?_
      refine p_putN (wsN := [(x, .inr (2, [.ref bx, .ref px, .ref t, .int ak, .int su, .int gt, .int lf, .int rf, .int kn])), (bx, .inl (cI, 6, .inl f)), (px, .inl (cI, 2, .inl g)), (q, .inr (3, [.long 0, sv]))]) (ci := 3) (v := .long 0) (ty := .long) FX inX1 tyX1_ok nmX1 hK hP hD hS 3 rfl rfl 0 (by decide) hz.2 rfl (by decide +kernel) rfl rfl (Nat.le_of_ble_eq_true rfl) dL_isFull_14 rfl (fun H locs hP hD hS => ?_)
      refine lv_goto (tgt := 23) FX.1 FX.2.1 dL_isFull_17 (by decide) ?_
      refine lv_iconst (v := 0) FX.1 FX.2.1 dL_isFull_23 (by decide) ?_
      exact retJi () FX hr hlk dL_isFull_24 rfl (by rw [show hn_isFull b1 f n0 = 0 from (if_pos hE).trans (if_pos c_2)]; exact hP) hK (by rw [show hn_isFull b1 f n0 = 0 from (if_pos hE).trans (if_pos c_2)]; exact hD) hS (by decide) (by decide) (by rw [hk_isFull, if_pos hE]) trivial
    · refine lv_lconst (v := 1) FX.1 FX.2.1 dL_isFull_9 (by decide) ?_
      refine lv_goto (tgt := 14) FX.1 FX.2.1 dL_isFull_10 (by decide) ?_
      refine p_putN (wsN := [(x, .inr (2, [.ref bx, .ref px, .ref t, .int ak, .int su, .int gt, .int lf, .int rf, .int kn])), (bx, .inl (cI, 6, .inl f)), (px, .inl (cI, 2, .inl g)), (q, .inr (3, [.long 1, sv]))]) (ci := 3) (v := .long 1) (ty := .long) FX inX1 tyX1_ok nmX1 hK hP hD hS 3 rfl rfl 0 (by decide) hz.2 rfl (by decide +kernel) rfl rfl (Nat.le_of_ble_eq_true rfl) dL_isFull_14 rfl (fun H locs hP hD hS => ?_)
      refine lv_goto (tgt := 23) FX.1 FX.2.1 dL_isFull_17 (by decide) ?_
      refine lv_iconst (v := 0) FX.1 FX.2.1 dL_isFull_23 (by decide) ?_
      exact retJi () FX hr hlk dL_isFull_24 rfl (by rw [show hn_isFull b1 f n0 = 1 from (if_pos hE).trans (if_neg c_2)]; exact hP) hK (by rw [show hn_isFull b1 f n0 = 1 from (if_pos hE).trans (if_neg c_2)]; exact hD) hS (by decide) (by decide) (by rw [hk_isFull, if_pos hE]) trivial
  · rcases (ev_isFull b1) with hV | hV
    · exact absurd hV hE
    · refine c_XV1 (i0 := 0) (ci := 2) (k2 := 1) (h1 := (0, 17, 20, 19)) (hs := []) FX (x_X0_isFull l hl0 D cI cB x bx px t f g ak su gt lf rf kn b1 hE) hV mi_X0_isFull rfl ml_RL_75 (RMok.mk) hl.1 rfl (Nat.le_of_ble_eq_true rfl) dL_isFull_3 (by decide) hK hP hA [0, 1, 2] rfl rfl rfl rfl hz.1.1 htb (by decide) (by decide) cl_RL_19 (by decide) (fun q9 H locs hP hS => ?_)
      refine lv_astore_n (lv' := [(3, .ref q9), (0, .ref x), (1, .int b1), (2, .ref q)]) FX.1 FX.2.1 dL_isFull_20 rfl hl (by decide) rfl (fun ls hl => ?_)
      refine lv_iconst (v := 1) FX.1 FX.2.1 dL_isFull_21 (by decide) ?_
      exact retJi () FX hr hlk dL_isFull_22 rfl (by rw [show hn_isFull b1 f n0 = n0 from if_neg hE]; exact hP) hK (by rw [show hn_isFull b1 f n0 = n0 from if_neg hE]; exact hD) hS (by decide) (by decide) (by rw [hk_isFull, if_neg hE]) trivial
def hk_isEmpty (b1 : Int32) : Int32 := if e_X0_isEmpty b1 = 0 then 0 else 1
theorem ev_isEmpty (b1 : Int32) : e_X0_isEmpty b1 = 0 ∨ e_X0_isEmpty b1 = 1 := by
  unfold e_X0_isEmpty
  repeat' split
  all_goals first | exact Or.inl rfl | exact (rg_X0_needBox _) | exact (rg_X0_needPlain _) | exact Or.inr rfl
def hn_isEmpty (b1 : Int32) (f : Nat → Int32) (n0 : Int64) : Int64 := if e_X0_isEmpty b1 = 0 then (if v_X0_isEmpty b1 f = 0 then 0 else 1) else n0
set_option maxRecDepth 100000 in
set_option maxHeartbeats 4000000 in
theorem j_L_isEmpty (l : Launch) (hl0 : l.stackTraces = false) (D : va_G) (cI cB : ClassId) (x bx px t : Nat) (f g : Nat → Int32) (ak su gt lf rf kn : Int32) (q : Nat) (n0 : Int64) (sv : Value) (b1 : Int32) : JH (S := Unit) l yL_isEmpty cL_isEmpty 4 (some .int) [(0, 17, 20, 19)] ({ frames := 8, cells := 1, slots := 6, locals := 131 } : Room) D cI cB [.ref x, .int b1, .ref q] [(x, .inr (2, [.ref bx, .ref px, .ref t, .int ak, .int su, .int gt, .int lf, .int rf, .int kn])), (bx, .inl (cI, 6, .inl f)), (px, .inl (cI, 2, .inl g)), (q, .inr (3, [.long n0, sv]))] (zAnd (zAnd zz zN) (zF RL 13 RX1 "n" "J" RL)) (fun _ => some (.int (hk_isEmpty b1))) (fun _ => True) (fun _ => [(x, .inr (2, [.ref bx, .ref px, .ref t, .int ak, .int su, .int gt, .int lf, .int rf, .int kn])), (bx, .inl (cI, 6, .inl f)), (px, .inl (cI, 2, .inl g)), (q, .inr (3, [.long (hn_isEmpty b1 f n0), sv]))]) 1 6 := by
  refine bodyJH (by decide +kernel) (Nat.le_of_ble_eq_true rfl) (fun p e s m args below meth c ls A ZZ => ?_)
  obtain ⟨FX, hr, hlk, hK, hP, hD, hS, hA, hz, htb, hl⟩ := ZZ
  have hl : lv_has ls 4 [(0, .ref x), (1, .int b1), (2, .ref q)] := hl
  have hP : va_P D KL [(x, .inr (2, [.ref bx, .ref px, .ref t, .int ak, .int su, .int gt, .int lf, .int rf, .int kn])), (bx, .inl (cI, 6, .inl f)), (px, .inl (cI, 2, .inl g)), (q, .inr (3, [.long n0, sv]))] s.heap := hP
  refine lv_aload_n FX.1 FX.2.1 dL_isEmpty_0 rfl (lv_at hl 2 rfl) ?_
  refine lv_aload_n FX.1 FX.2.1 dL_isEmpty_1 rfl (lv_at hl 0 rfl) ?_
  refine lv_iload_n FX.1 FX.2.1 dL_isEmpty_2 rfl (lv_at hl 1 rfl) ?_
  by_cases hE : e_X0_isEmpty b1 = 0
  · have q_1 : (e_X0_isEmpty b1) = 0 := hE
    refine c_RDV (i0 := 0) (ci := 2) FX (r_X0_isEmpty l D cI cB x bx px t f g ak su gt lf rf kn b1 q_1) mi_X0_isEmpty rfl ml_RL_79 (RMok.mk) hl.1 rfl (Nat.le_of_ble_eq_true rfl) dL_isEmpty_3 (by decide) hK hP [0, 1, 2] rfl rfl rfl rfl ?_
    refine lv_if_eq (tgt := 13) FX.1 FX.2.1 dL_isEmpty_6 (by decide) (fun c_2 => ?_) (fun c_2 => ?_)
    · refine lv_lconst (v := 0) FX.1 FX.2.1 dL_isEmpty_13 (by decide) ?_
      refine p_putN (wsN := [(x, .inr (2, [.ref bx, .ref px, .ref t, .int ak, .int su, .int gt, .int lf, .int rf, .int kn])), (bx, .inl (cI, 6, .inl f)), (px, .inl (cI, 2, .inl g)), (q, .inr (3, [.long 0, sv]))]) (ci := 3) (v := .long 0) (ty := .long) FX inX1 tyX1_ok nmX1 hK hP hD hS 3 rfl rfl 0 (by decide) hz.2 rfl (by decide +kernel) rfl rfl (Nat.le_of_ble_eq_true rfl) dL_isEmpty_14 rfl (fun H locs hP hD hS => ?_)
      refine lv_goto (tgt := 23) FX.1 FX.2.1 dL_isEmpty_17 (by decide) ?_
      refine lv_iconst (v := 0) FX.1 FX.2.1 dL_isEmpty_23 (by decide) ?_
      exact retJi () FX hr hlk dL_isEmpty_24 rfl (by rw [show hn_isEmpty b1 f n0 = 0 from (if_pos hE).trans (if_pos c_2)]; exact hP) hK (by rw [show hn_isEmpty b1 f n0 = 0 from (if_pos hE).trans (if_pos c_2)]; exact hD) hS (by decide) (by decide) (by rw [hk_isEmpty, if_pos hE]) trivial
    · refine lv_lconst (v := 1) FX.1 FX.2.1 dL_isEmpty_9 (by decide) ?_
      refine lv_goto (tgt := 14) FX.1 FX.2.1 dL_isEmpty_10 (by decide) ?_
      refine p_putN (wsN := [(x, .inr (2, [.ref bx, .ref px, .ref t, .int ak, .int su, .int gt, .int lf, .int rf, .int kn])), (bx, .inl (cI, 6, .inl f)), (px, .inl (cI, 2, .inl g)), (q, .inr (3, [.long 1, sv]))]) (ci := 3) (v := .long 1) (ty := .long) FX inX1 tyX1_ok nmX1 hK hP hD hS 3 rfl rfl 0 (by decide) hz.2 rfl (by decide +kernel) rfl rfl (Nat.le_of_ble_eq_true rfl) dL_isEmpty_14 rfl (fun H locs hP hD hS => ?_)
      refine lv_goto (tgt := 23) FX.1 FX.2.1 dL_isEmpty_17 (by decide) ?_
      refine lv_iconst (v := 0) FX.1 FX.2.1 dL_isEmpty_23 (by decide) ?_
      exact retJi () FX hr hlk dL_isEmpty_24 rfl (by rw [show hn_isEmpty b1 f n0 = 1 from (if_pos hE).trans (if_neg c_2)]; exact hP) hK (by rw [show hn_isEmpty b1 f n0 = 1 from (if_pos hE).trans (if_neg c_2)]; exact hD) hS (by decide) (by decide) (by rw [hk_isEmpty, if_pos hE]) trivial
  · rcases (ev_isEmpty b1) with hV | hV
    · exact absurd hV hE
    · refine c_XV1 (i0 := 0) (ci := 2) (k2 := 1) (h1 := (0, 17, 20, 19)) (hs := []) FX (x_X0_isEmpty l hl0 D cI cB x bx px t f g ak su gt lf rf kn b1 hE) hV mi_X0_isEmpty rfl ml_RL_79 (RMok.mk) hl.1 rfl (Nat.le_of_ble_eq_true rfl) dL_isEmpty_3 (by decide) hK hP hA [0, 1, 2] rfl rfl rfl rfl hz.1.1 htb (by decide) (by decide) cl_RL_19 (by decide) (fun q9 H locs hP hS => ?_)
      refine lv_astore_n (lv' := [(3, .ref q9), (0, .ref x), (1, .int b1), (2, .ref q)]) FX.1 FX.2.1 dL_isEmpty_20 rfl hl (by decide) rfl (fun ls hl => ?_)
      refine lv_iconst (v := 1) FX.1 FX.2.1 dL_isEmpty_21 (by decide) ?_
      exact retJi () FX hr hlk dL_isEmpty_22 rfl (by rw [show hn_isEmpty b1 f n0 = n0 from if_neg hE]; exact hP) hK (by rw [show hn_isEmpty b1 f n0 = n0 from if_neg hE]; exact hD) hS (by decide) (by decide) (by rw [hk_isEmpty, if_neg hE]) trivial
def hk_isLike (b1 : Int32) (b2 : Int32) : Int32 := if e_X0_isLike b1 b2 = 0 then 0 else 1
theorem ev_isLike (b1 : Int32) (b2 : Int32) : e_X0_isLike b1 b2 = 0 ∨ e_X0_isLike b1 b2 = 1 := by
  unfold e_X0_isLike
  repeat' split
  all_goals first | exact Or.inl rfl | exact (rg_X0_needBox _) | exact (rg_X0_needPlain _) | exact Or.inr rfl
def hn_isLike (b1 : Int32) (b2 : Int32) (f : Nat → Int32) (n0 : Int64) : Int64 := if e_X0_isLike b1 b2 = 0 then (if v_X0_isLike b1 b2 f = 0 then 0 else 1) else n0
set_option maxRecDepth 100000 in
set_option maxHeartbeats 4000000 in
theorem j_L_isLike (l : Launch) (hl0 : l.stackTraces = false) (D : va_G) (cI cB : ClassId) (x bx px t : Nat) (f g : Nat → Int32) (ak su gt lf rf kn : Int32) (q : Nat) (n0 : Int64) (sv : Value) (b1 : Int32) (b2 : Int32) : JH (S := Unit) l yL_isLike cL_isLike 5 (some .int) [(0, 18, 21, 19)] ({ frames := 8, cells := 1, slots := 6, locals := 132 } : Room) D cI cB [.ref x, .int b1, .int b2, .ref q] [(x, .inr (2, [.ref bx, .ref px, .ref t, .int ak, .int su, .int gt, .int lf, .int rf, .int kn])), (bx, .inl (cI, 6, .inl f)), (px, .inl (cI, 2, .inl g)), (q, .inr (3, [.long n0, sv]))] (zAnd (zAnd zz zN) (zF RL 13 RX1 "n" "J" RL)) (fun _ => some (.int (hk_isLike b1 b2))) (fun _ => True) (fun _ => [(x, .inr (2, [.ref bx, .ref px, .ref t, .int ak, .int su, .int gt, .int lf, .int rf, .int kn])), (bx, .inl (cI, 6, .inl f)), (px, .inl (cI, 2, .inl g)), (q, .inr (3, [.long (hn_isLike b1 b2 f n0), sv]))]) 1 6 := by
  refine bodyJH (by decide +kernel) (Nat.le_of_ble_eq_true rfl) (fun p e s m args below meth c ls A ZZ => ?_)
  obtain ⟨FX, hr, hlk, hK, hP, hD, hS, hA, hz, htb, hl⟩ := ZZ
  have hl : lv_has ls 5 [(0, .ref x), (1, .int b1), (2, .int b2), (3, .ref q)] := hl
  have hP : va_P D KL [(x, .inr (2, [.ref bx, .ref px, .ref t, .int ak, .int su, .int gt, .int lf, .int rf, .int kn])), (bx, .inl (cI, 6, .inl f)), (px, .inl (cI, 2, .inl g)), (q, .inr (3, [.long n0, sv]))] s.heap := hP
  refine lv_aload_n FX.1 FX.2.1 dL_isLike_0 rfl (lv_at hl 3 rfl) ?_
  refine lv_aload_n FX.1 FX.2.1 dL_isLike_1 rfl (lv_at hl 0 rfl) ?_
  refine lv_iload_n FX.1 FX.2.1 dL_isLike_2 rfl (lv_at hl 1 rfl) ?_
  refine lv_iload_n FX.1 FX.2.1 dL_isLike_3 rfl (lv_at hl 2 rfl) ?_
  by_cases hE : e_X0_isLike b1 b2 = 0
  · have q_1 : (e_X0_isLike b1 b2) = 0 := hE
    refine c_RDV (i0 := 0) (ci := 2) FX (r_X0_isLike l D cI cB x bx px t f g ak su gt lf rf kn b1 b2 q_1) mi_X0_isLike rfl ml_RL_82 (RMok.mk) hl.1 rfl (Nat.le_of_ble_eq_true rfl) dL_isLike_4 (by decide) hK hP [0, 1, 2] rfl rfl rfl rfl ?_
    refine lv_if_eq (tgt := 14) FX.1 FX.2.1 dL_isLike_7 (by decide) (fun c_2 => ?_) (fun c_2 => ?_)
    · refine lv_lconst (v := 0) FX.1 FX.2.1 dL_isLike_14 (by decide) ?_
      refine p_putN (wsN := [(x, .inr (2, [.ref bx, .ref px, .ref t, .int ak, .int su, .int gt, .int lf, .int rf, .int kn])), (bx, .inl (cI, 6, .inl f)), (px, .inl (cI, 2, .inl g)), (q, .inr (3, [.long 0, sv]))]) (ci := 3) (v := .long 0) (ty := .long) FX inX1 tyX1_ok nmX1 hK hP hD hS 3 rfl rfl 0 (by decide) hz.2 rfl (by decide +kernel) rfl rfl (Nat.le_of_ble_eq_true rfl) dL_isLike_15 rfl (fun H locs hP hD hS => ?_)
      refine lv_goto (tgt := 25) FX.1 FX.2.1 dL_isLike_18 (by decide) ?_
      refine lv_iconst (v := 0) FX.1 FX.2.1 dL_isLike_25 (by decide) ?_
      exact retJi () FX hr hlk dL_isLike_26 rfl (by rw [show hn_isLike b1 b2 f n0 = 0 from (if_pos hE).trans (if_pos c_2)]; exact hP) hK (by rw [show hn_isLike b1 b2 f n0 = 0 from (if_pos hE).trans (if_pos c_2)]; exact hD) hS (by decide) (by decide) (by rw [hk_isLike, if_pos hE]) trivial
    · refine lv_lconst (v := 1) FX.1 FX.2.1 dL_isLike_10 (by decide) ?_
      refine lv_goto (tgt := 15) FX.1 FX.2.1 dL_isLike_11 (by decide) ?_
      refine p_putN (wsN := [(x, .inr (2, [.ref bx, .ref px, .ref t, .int ak, .int su, .int gt, .int lf, .int rf, .int kn])), (bx, .inl (cI, 6, .inl f)), (px, .inl (cI, 2, .inl g)), (q, .inr (3, [.long 1, sv]))]) (ci := 3) (v := .long 1) (ty := .long) FX inX1 tyX1_ok nmX1 hK hP hD hS 3 rfl rfl 0 (by decide) hz.2 rfl (by decide +kernel) rfl rfl (Nat.le_of_ble_eq_true rfl) dL_isLike_15 rfl (fun H locs hP hD hS => ?_)
      refine lv_goto (tgt := 25) FX.1 FX.2.1 dL_isLike_18 (by decide) ?_
      refine lv_iconst (v := 0) FX.1 FX.2.1 dL_isLike_25 (by decide) ?_
      exact retJi () FX hr hlk dL_isLike_26 rfl (by rw [show hn_isLike b1 b2 f n0 = 1 from (if_pos hE).trans (if_neg c_2)]; exact hP) hK (by rw [show hn_isLike b1 b2 f n0 = 1 from (if_pos hE).trans (if_neg c_2)]; exact hD) hS (by decide) (by decide) (by rw [hk_isLike, if_pos hE]) trivial
  · rcases (ev_isLike b1 b2) with hV | hV
    · exact absurd hV hE
    · refine c_XV1 (i0 := 0) (ci := 2) (k2 := 1) (h1 := (0, 18, 21, 19)) (hs := []) FX (x_X0_isLike l hl0 D cI cB x bx px t f g ak su gt lf rf kn b1 b2 hE) hV mi_X0_isLike rfl ml_RL_82 (RMok.mk) hl.1 rfl (Nat.le_of_ble_eq_true rfl) dL_isLike_4 (by decide) hK hP hA [0, 1, 2] rfl rfl rfl rfl hz.1.1 htb (by decide) (by decide) cl_RL_19 (by decide) (fun q9 H locs hP hS => ?_)
      refine lv_astore (lv' := [(4, .ref q9), (0, .ref x), (1, .int b1), (2, .int b2), (3, .ref q)]) FX.1 FX.2.1 dL_isLike_21 hl (by decide) rfl (fun ls hl => ?_)
      refine lv_iconst (v := 1) FX.1 FX.2.1 dL_isLike_23 (by decide) ?_
      exact retJi () FX hr hlk dL_isLike_24 rfl (by rw [show hn_isLike b1 b2 f n0 = n0 from if_neg hE]; exact hP) hK (by rw [show hn_isLike b1 b2 f n0 = n0 from if_neg hE]; exact hD) hS (by decide) (by decide) (by rw [hk_isLike, if_neg hE]) trivial
def hk_code (b1 : Int32) : Int32 := if e_X0_code b1 = 0 then 0 else 1
theorem ev_code (b1 : Int32) : e_X0_code b1 = 0 ∨ e_X0_code b1 = 1 := by
  unfold e_X0_code
  repeat' split
  all_goals first | exact Or.inl rfl | exact (rg_X0_needBox _) | exact (rg_X0_needPlain _) | exact Or.inr rfl
def hn_code (b1 : Int32) (f : Nat → Int32) (n0 : Int64) : Int64 := if e_X0_code b1 = 0 then (v_X0_code b1 f).toInt64 else n0
set_option maxRecDepth 100000 in
set_option maxHeartbeats 4000000 in
theorem j_L_code (l : Launch) (hl0 : l.stackTraces = false) (D : va_G) (cI cB : ClassId) (x bx px t : Nat) (f g : Nat → Int32) (ak su gt lf rf kn : Int32) (q : Nat) (n0 : Int64) (sv : Value) (b1 : Int32) : JH (S := Unit) l yL_code cL_code 4 (some .int) [(0, 10, 13, 19)] ({ frames := 8, cells := 1, slots := 6, locals := 131 } : Room) D cI cB [.ref x, .int b1, .ref q] [(x, .inr (2, [.ref bx, .ref px, .ref t, .int ak, .int su, .int gt, .int lf, .int rf, .int kn])), (bx, .inl (cI, 6, .inl f)), (px, .inl (cI, 2, .inl g)), (q, .inr (3, [.long n0, sv]))] (zAnd (zAnd zz zN) (zF RL 13 RX1 "n" "J" RL)) (fun _ => some (.int (hk_code b1))) (fun _ => True) (fun _ => [(x, .inr (2, [.ref bx, .ref px, .ref t, .int ak, .int su, .int gt, .int lf, .int rf, .int kn])), (bx, .inl (cI, 6, .inl f)), (px, .inl (cI, 2, .inl g)), (q, .inr (3, [.long (hn_code b1 f n0), sv]))]) 1 6 := by
  refine bodyJH (by decide +kernel) (Nat.le_of_ble_eq_true rfl) (fun p e s m args below meth c ls A ZZ => ?_)
  obtain ⟨FX, hr, hlk, hK, hP, hD, hS, hA, hz, htb, hl⟩ := ZZ
  have hl : lv_has ls 4 [(0, .ref x), (1, .int b1), (2, .ref q)] := hl
  have hP : va_P D KL [(x, .inr (2, [.ref bx, .ref px, .ref t, .int ak, .int su, .int gt, .int lf, .int rf, .int kn])), (bx, .inl (cI, 6, .inl f)), (px, .inl (cI, 2, .inl g)), (q, .inr (3, [.long n0, sv]))] s.heap := hP
  refine lv_aload_n FX.1 FX.2.1 dL_code_0 rfl (lv_at hl 2 rfl) ?_
  refine lv_aload_n FX.1 FX.2.1 dL_code_1 rfl (lv_at hl 0 rfl) ?_
  refine lv_iload_n FX.1 FX.2.1 dL_code_2 rfl (lv_at hl 1 rfl) ?_
  by_cases hE : e_X0_code b1 = 0
  · have q_1 : (e_X0_code b1) = 0 := hE
    refine c_RDV (i0 := 0) (ci := 2) FX (r_X0_code l D cI cB x bx px t f g ak su gt lf rf kn b1 q_1) mi_X0_code rfl ml_RL_86 (RMok.mk) hl.1 rfl (Nat.le_of_ble_eq_true rfl) dL_code_3 (by decide) hK hP [0, 1, 2] rfl rfl rfl rfl ?_
    refine lv_i2l (v := (v_X0_code b1 f).toInt64) FX.1 FX.2.1 dL_code_6 rfl ?_
    refine p_putN (wsN := [(x, .inr (2, [.ref bx, .ref px, .ref t, .int ak, .int su, .int gt, .int lf, .int rf, .int kn])), (bx, .inl (cI, 6, .inl f)), (px, .inl (cI, 2, .inl g)), (q, .inr (3, [.long ((v_X0_code b1 f).toInt64), sv]))]) (ci := 3) (v := .long ((v_X0_code b1 f).toInt64)) (ty := .long) FX inX1 tyX1_ok nmX1 hK hP hD hS 3 rfl rfl 0 (by decide) hz.2 rfl (by decide +kernel) rfl rfl (Nat.le_of_ble_eq_true rfl) dL_code_7 rfl (fun H locs hP hD hS => ?_)
    refine lv_goto (tgt := 16) FX.1 FX.2.1 dL_code_10 (by decide) ?_
    refine lv_iconst (v := 0) FX.1 FX.2.1 dL_code_16 (by decide) ?_
    exact retJi () FX hr hlk dL_code_17 rfl (by rw [show hn_code b1 f n0 = (v_X0_code b1 f).toInt64 from if_pos hE]; exact hP) hK (by rw [show hn_code b1 f n0 = (v_X0_code b1 f).toInt64 from if_pos hE]; exact hD) hS (by decide) (by decide) (by rw [hk_code, if_pos hE]) trivial
  · rcases (ev_code b1) with hV | hV
    · exact absurd hV hE
    · refine c_XV1 (i0 := 0) (ci := 2) (k2 := 1) (h1 := (0, 10, 13, 19)) (hs := []) FX (x_X0_code l hl0 D cI cB x bx px t f g ak su gt lf rf kn b1 hE) hV mi_X0_code rfl ml_RL_86 (RMok.mk) hl.1 rfl (Nat.le_of_ble_eq_true rfl) dL_code_3 (by decide) hK hP hA [0, 1, 2] rfl rfl rfl rfl hz.1.1 htb (by decide) (by decide) cl_RL_19 (by decide) (fun q9 H locs hP hS => ?_)
      refine lv_astore_n (lv' := [(3, .ref q9), (0, .ref x), (1, .int b1), (2, .ref q)]) FX.1 FX.2.1 dL_code_13 rfl hl (by decide) rfl (fun ls hl => ?_)
      refine lv_iconst (v := 1) FX.1 FX.2.1 dL_code_14 (by decide) ?_
      exact retJi () FX hr hlk dL_code_15 rfl (by rw [show hn_code b1 f n0 = n0 from if_neg hE]; exact hP) hK (by rw [show hn_code b1 f n0 = n0 from if_neg hE]; exact hD) hS (by decide) (by decide) (by rw [hk_code, if_neg hE]) trivial
def hk_fillPlain (p1 : Int32) (n1 : Int32) : Int32 := if e_X0_fillPlain p1 n1 = 0 then 0 else if e_X0_fillPlain p1 n1 = 1 then 1 else 2
theorem ev_fillPlain (p1 : Int32) (n1 : Int32) : e_X0_fillPlain p1 n1 = 0 ∨ e_X0_fillPlain p1 n1 = 1 ∨ e_X0_fillPlain p1 n1 = 2 := by
  unfold e_X0_fillPlain
  repeat' split
  all_goals first | exact Or.inl rfl | exact r21 (rg_X0_needBox _) | exact r21 (rg_X0_needPlain _) | exact r22 (rg_X0_needNumber _) | exact r22 (rg_X0_needKind _ _) | exact Or.inr (Or.inl rfl) | exact Or.inr (Or.inr rfl)
def hg_fillPlain (p1 : Int32) (n1 : Int32) (g : Nat → Int32) : Nat → Int32 := if e_X0_fillPlain p1 n1 = 0 then wg_X0_fillPlain p1 n1 g else g
def hn_fillPlain (p1 : Int32) (n1 : Int32) (g : Nat → Int32) (n0 : Int64) : Int64 := if e_X0_fillPlain p1 n1 = 0 then (v_X0_fillPlain p1 g).toInt64 else n0
set_option maxRecDepth 100000 in
set_option maxHeartbeats 4000000 in
theorem j_L_fillPlain (l : Launch) (hl0 : l.stackTraces = false) (D : va_G) (cI cB : ClassId) (x bx px t : Nat) (f g : Nat → Int32) (ak su gt lf rf kn : Int32) (q : Nat) (n0 : Int64) (sv : Value) (p1 : Int32) (n1 : Int32) : JH (S := Unit) l yL_fillPlain cL_fillPlain 5 (some .int) [(0, 11, 14, 19), (0, 11, 18, 21)] ({ frames := 8, cells := 1, slots := 6, locals := 133 } : Room) D cI cB [.ref x, .int p1, .int n1, .ref q] [(x, .inr (2, [.ref bx, .ref px, .ref t, .int ak, .int su, .int gt, .int lf, .int rf, .int kn])), (bx, .inl (cI, 6, .inl f)), (px, .inl (cI, 2, .inl g)), (q, .inr (3, [.long n0, sv]))] (zAnd (zAnd zz zN) (zF RL 13 RX1 "n" "J" RL)) (fun _ => some (.int (hk_fillPlain p1 n1))) (fun _ => True) (fun _ => [(x, .inr (2, [.ref bx, .ref px, .ref t, .int ak, .int su, .int gt, .int lf, .int rf, .int kn])), (bx, .inl (cI, 6, .inl f)), (px, .inl (cI, 2, .inl (hg_fillPlain p1 n1 g))), (q, .inr (3, [.long (hn_fillPlain p1 n1 g n0), sv]))]) 1 6 := by
  refine bodyJH (by decide +kernel) (Nat.le_of_ble_eq_true rfl) (fun p e s m args below meth c ls A ZZ => ?_)
  obtain ⟨FX, hr, hlk, hK, hP, hD, hS, hA, hz, htb, hl⟩ := ZZ
  have hl : lv_has ls 5 [(0, .ref x), (1, .int p1), (2, .int n1), (3, .ref q)] := hl
  have hP : va_P D KL [(x, .inr (2, [.ref bx, .ref px, .ref t, .int ak, .int su, .int gt, .int lf, .int rf, .int kn])), (bx, .inl (cI, 6, .inl f)), (px, .inl (cI, 2, .inl g)), (q, .inr (3, [.long n0, sv]))] s.heap := hP
  refine lv_aload_n FX.1 FX.2.1 dL_fillPlain_0 rfl (lv_at hl 3 rfl) ?_
  refine lv_aload_n FX.1 FX.2.1 dL_fillPlain_1 rfl (lv_at hl 0 rfl) ?_
  refine lv_iload_n FX.1 FX.2.1 dL_fillPlain_2 rfl (lv_at hl 1 rfl) ?_
  refine lv_iload_n FX.1 FX.2.1 dL_fillPlain_3 rfl (lv_at hl 2 rfl) ?_
  by_cases hE : e_X0_fillPlain p1 n1 = 0
  · have q_1 : (e_X0_fillPlain p1 n1) = 0 := hE
    refine c_WRV (wr := [(q, .inr (3, [.long n0, sv]))]) (wsN := [(x, .inr (2, [.ref bx, .ref px, .ref t, .int ak, .int su, .int gt, .int lf, .int rf, .int kn])), (bx, .inl (cI, 6, .inl f)), (px, .inl (cI, 2, .inl (wg_X0_fillPlain p1 n1 g))), (q, .inr (3, [.long n0, sv]))]) (i0 := 0) (ci := 2) FX (k_X0_fillPlain l D cI cB x bx px t f g ak su gt lf rf kn p1 n1 q_1) mi_X0_fillPlain rfl ml_RL_89 (RMok.mk) hl.1 rfl (Nat.le_of_ble_eq_true rfl) dL_fillPlain_4 (by decide) hK hP hD hS hA [0, 1, 2] rfl [3] rfl rfl (by decide) [1, 2, 3, 0] rfl rfl rfl rfl rfl (fun H locs hP hD hS => ?_)
    refine lv_i2l (v := (v_X0_fillPlain p1 g).toInt64) FX.1 FX.2.1 dL_fillPlain_7 rfl ?_
    refine p_putN (wsN := [(x, .inr (2, [.ref bx, .ref px, .ref t, .int ak, .int su, .int gt, .int lf, .int rf, .int kn])), (bx, .inl (cI, 6, .inl f)), (px, .inl (cI, 2, .inl (wg_X0_fillPlain p1 n1 g))), (q, .inr (3, [.long ((v_X0_fillPlain p1 g).toInt64), sv]))]) (ci := 3) (v := .long ((v_X0_fillPlain p1 g).toInt64)) (ty := .long) FX inX1 tyX1_ok nmX1 hK hP hD hS 3 rfl rfl 0 (by decide) hz.2 rfl (by decide +kernel) rfl rfl (Nat.le_of_ble_eq_true rfl) dL_fillPlain_8 rfl (fun H locs hP hD hS => ?_)
    refine lv_goto (tgt := 22) FX.1 FX.2.1 dL_fillPlain_11 (by decide) ?_
    refine lv_iconst (v := 0) FX.1 FX.2.1 dL_fillPlain_22 (by decide) ?_
    exact retJi () FX hr hlk dL_fillPlain_23 rfl (by rw [show hg_fillPlain p1 n1 g = wg_X0_fillPlain p1 n1 g from if_pos hE, show hn_fillPlain p1 n1 g n0 = (v_X0_fillPlain p1 g).toInt64 from if_pos hE]; exact hP) hK (by rw [show hg_fillPlain p1 n1 g = wg_X0_fillPlain p1 n1 g from if_pos hE, show hn_fillPlain p1 n1 g n0 = (v_X0_fillPlain p1 g).toInt64 from if_pos hE]; exact hD) hS (by decide) (by decide) (by rw [hk_fillPlain, if_pos hE]) trivial
  · rcases (ev_fillPlain p1 n1) with hV | hV | hV
    · exact absurd hV hE
    · refine c_XV1 (i0 := 0) (ci := 2) (k2 := 1) (h1 := (0, 11, 14, 19)) (hs := [(0, 11, 18, 21)]) FX (x_X0_fillPlain l hl0 D cI cB x bx px t f g ak su gt lf rf kn p1 n1 hE) hV mi_X0_fillPlain rfl ml_RL_89 (RMok.mk) hl.1 rfl (Nat.le_of_ble_eq_true rfl) dL_fillPlain_4 (by decide) hK hP hA [0, 1, 2] rfl rfl rfl rfl hz.1.1 htb (by decide) (by decide) cl_RL_19 (by decide) (fun q9 H locs hP hS => ?_)
      refine lv_astore (lv' := [(4, .ref q9), (0, .ref x), (1, .int p1), (2, .int n1), (3, .ref q)]) FX.1 FX.2.1 dL_fillPlain_14 hl (by decide) rfl (fun ls hl => ?_)
      refine lv_iconst (v := 1) FX.1 FX.2.1 dL_fillPlain_16 (by decide) ?_
      exact retJi () FX hr hlk dL_fillPlain_17 rfl (by rw [show hg_fillPlain p1 n1 g = g from if_neg hE, show hn_fillPlain p1 n1 g n0 = n0 from if_neg hE]; exact hP) hK (by rw [show hg_fillPlain p1 n1 g = g from if_neg hE, show hn_fillPlain p1 n1 g n0 = n0 from if_neg hE]; exact hD) hS (by decide) (by decide) (by rw [hk_fillPlain, if_neg hE, if_pos hV]) trivial
    · refine c_XV2 (i0 := 0) (ci := 2) (k1 := 1) (k2 := 2) (h1 := (0, 11, 14, 19)) (h2 := (0, 11, 18, 21)) (hs := []) FX (x_X0_fillPlain l hl0 D cI cB x bx px t f g ak su gt lf rf kn p1 n1 hE) hV mi_X0_fillPlain rfl ml_RL_89 (RMok.mk) hl.1 rfl (Nat.le_of_ble_eq_true rfl) dL_fillPlain_4 (by decide) hK hP hA [0, 1, 2] rfl rfl rfl rfl hz.1.1 hz.1.2 htb (by decide) cl_RL_19 (by decide) (by decide) (by decide) cl_RL_21 (by decide) (fun q9 H locs hP hS => ?_)
      refine lv_astore (lv' := [(4, .ref q9), (0, .ref x), (1, .int p1), (2, .int n1), (3, .ref q)]) FX.1 FX.2.1 dL_fillPlain_18 hl (by decide) rfl (fun ls hl => ?_)
      refine lv_iconst (v := 2) FX.1 FX.2.1 dL_fillPlain_20 (by decide) ?_
      exact retJi () FX hr hlk dL_fillPlain_21 rfl (by rw [show hg_fillPlain p1 n1 g = g from if_neg hE, show hn_fillPlain p1 n1 g n0 = n0 from if_neg hE]; exact hP) hK (by rw [show hg_fillPlain p1 n1 g = g from if_neg hE, show hn_fillPlain p1 n1 g n0 = n0 from if_neg hE]; exact hD) hS (by decide) (by decide) (by rw [hk_fillPlain, if_neg hE, if_neg (by rw [hV]; decide)]) trivial
def hk_emptyPlain (p1 : Int32) : Int32 := if e_X0_emptyPlain p1 = 0 then 0 else 1
theorem ev_emptyPlain (p1 : Int32) : e_X0_emptyPlain p1 = 0 ∨ e_X0_emptyPlain p1 = 1 := by
  unfold e_X0_emptyPlain
  repeat' split
  all_goals first | exact Or.inl rfl | exact (rg_X0_needBox _) | exact (rg_X0_needPlain _) | exact Or.inr rfl
def hg_emptyPlain (p1 : Int32) (g : Nat → Int32) : Nat → Int32 := if e_X0_emptyPlain p1 = 0 then wg_X0_emptyPlain p1 g else g
def hn_emptyPlain (p1 : Int32) (g : Nat → Int32) (n0 : Int64) : Int64 := if e_X0_emptyPlain p1 = 0 then (v_X0_emptyPlain p1 g).toInt64 else n0
set_option maxRecDepth 100000 in
set_option maxHeartbeats 4000000 in
theorem j_L_emptyPlain (l : Launch) (hl0 : l.stackTraces = false) (D : va_G) (cI cB : ClassId) (x bx px t : Nat) (f g : Nat → Int32) (ak su gt lf rf kn : Int32) (q : Nat) (n0 : Int64) (sv : Value) (p1 : Int32) : JH (S := Unit) l yL_emptyPlain cL_emptyPlain 4 (some .int) [(0, 10, 13, 19)] ({ frames := 8, cells := 1, slots := 6, locals := 132 } : Room) D cI cB [.ref x, .int p1, .ref q] [(x, .inr (2, [.ref bx, .ref px, .ref t, .int ak, .int su, .int gt, .int lf, .int rf, .int kn])), (bx, .inl (cI, 6, .inl f)), (px, .inl (cI, 2, .inl g)), (q, .inr (3, [.long n0, sv]))] (zAnd (zAnd zz zN) (zF RL 13 RX1 "n" "J" RL)) (fun _ => some (.int (hk_emptyPlain p1))) (fun _ => True) (fun _ => [(x, .inr (2, [.ref bx, .ref px, .ref t, .int ak, .int su, .int gt, .int lf, .int rf, .int kn])), (bx, .inl (cI, 6, .inl f)), (px, .inl (cI, 2, .inl (hg_emptyPlain p1 g))), (q, .inr (3, [.long (hn_emptyPlain p1 g n0), sv]))]) 1 6 := by
  refine bodyJH (by decide +kernel) (Nat.le_of_ble_eq_true rfl) (fun p e s m args below meth c ls A ZZ => ?_)
  obtain ⟨FX, hr, hlk, hK, hP, hD, hS, hA, hz, htb, hl⟩ := ZZ
  have hl : lv_has ls 4 [(0, .ref x), (1, .int p1), (2, .ref q)] := hl
  have hP : va_P D KL [(x, .inr (2, [.ref bx, .ref px, .ref t, .int ak, .int su, .int gt, .int lf, .int rf, .int kn])), (bx, .inl (cI, 6, .inl f)), (px, .inl (cI, 2, .inl g)), (q, .inr (3, [.long n0, sv]))] s.heap := hP
  refine lv_aload_n FX.1 FX.2.1 dL_emptyPlain_0 rfl (lv_at hl 2 rfl) ?_
  refine lv_aload_n FX.1 FX.2.1 dL_emptyPlain_1 rfl (lv_at hl 0 rfl) ?_
  refine lv_iload_n FX.1 FX.2.1 dL_emptyPlain_2 rfl (lv_at hl 1 rfl) ?_
  by_cases hE : e_X0_emptyPlain p1 = 0
  · have q_1 : (e_X0_emptyPlain p1) = 0 := hE
    refine c_WRV (wr := [(q, .inr (3, [.long n0, sv]))]) (wsN := [(x, .inr (2, [.ref bx, .ref px, .ref t, .int ak, .int su, .int gt, .int lf, .int rf, .int kn])), (bx, .inl (cI, 6, .inl f)), (px, .inl (cI, 2, .inl (wg_X0_emptyPlain p1 g))), (q, .inr (3, [.long n0, sv]))]) (i0 := 0) (ci := 2) FX (k_X0_emptyPlain l D cI cB x bx px t f g ak su gt lf rf kn p1 q_1) mi_X0_emptyPlain rfl ml_RL_92 (RMok.mk) hl.1 rfl (Nat.le_of_ble_eq_true rfl) dL_emptyPlain_3 (by decide) hK hP hD hS hA [0, 1, 2] rfl [3] rfl rfl (by decide) [1, 2, 3, 0] rfl rfl rfl rfl rfl (fun H locs hP hD hS => ?_)
    refine lv_i2l (v := (v_X0_emptyPlain p1 g).toInt64) FX.1 FX.2.1 dL_emptyPlain_6 rfl ?_
    refine p_putN (wsN := [(x, .inr (2, [.ref bx, .ref px, .ref t, .int ak, .int su, .int gt, .int lf, .int rf, .int kn])), (bx, .inl (cI, 6, .inl f)), (px, .inl (cI, 2, .inl (wg_X0_emptyPlain p1 g))), (q, .inr (3, [.long ((v_X0_emptyPlain p1 g).toInt64), sv]))]) (ci := 3) (v := .long ((v_X0_emptyPlain p1 g).toInt64)) (ty := .long) FX inX1 tyX1_ok nmX1 hK hP hD hS 3 rfl rfl 0 (by decide) hz.2 rfl (by decide +kernel) rfl rfl (Nat.le_of_ble_eq_true rfl) dL_emptyPlain_7 rfl (fun H locs hP hD hS => ?_)
    refine lv_goto (tgt := 16) FX.1 FX.2.1 dL_emptyPlain_10 (by decide) ?_
    refine lv_iconst (v := 0) FX.1 FX.2.1 dL_emptyPlain_16 (by decide) ?_
    exact retJi () FX hr hlk dL_emptyPlain_17 rfl (by rw [show hg_emptyPlain p1 g = wg_X0_emptyPlain p1 g from if_pos hE, show hn_emptyPlain p1 g n0 = (v_X0_emptyPlain p1 g).toInt64 from if_pos hE]; exact hP) hK (by rw [show hg_emptyPlain p1 g = wg_X0_emptyPlain p1 g from if_pos hE, show hn_emptyPlain p1 g n0 = (v_X0_emptyPlain p1 g).toInt64 from if_pos hE]; exact hD) hS (by decide) (by decide) (by rw [hk_emptyPlain, if_pos hE]) trivial
  · rcases (ev_emptyPlain p1) with hV | hV
    · exact absurd hV hE
    · refine c_XV1 (i0 := 0) (ci := 2) (k2 := 1) (h1 := (0, 10, 13, 19)) (hs := []) FX (x_X0_emptyPlain l hl0 D cI cB x bx px t f g ak su gt lf rf kn p1 hE) hV mi_X0_emptyPlain rfl ml_RL_92 (RMok.mk) hl.1 rfl (Nat.le_of_ble_eq_true rfl) dL_emptyPlain_3 (by decide) hK hP hA [0, 1, 2] rfl rfl rfl rfl hz.1.1 htb (by decide) (by decide) cl_RL_19 (by decide) (fun q9 H locs hP hS => ?_)
      refine lv_astore_n (lv' := [(3, .ref q9), (0, .ref x), (1, .int p1), (2, .ref q)]) FX.1 FX.2.1 dL_emptyPlain_13 rfl hl (by decide) rfl (fun ls hl => ?_)
      refine lv_iconst (v := 1) FX.1 FX.2.1 dL_emptyPlain_14 (by decide) ?_
      exact retJi () FX hr hlk dL_emptyPlain_15 rfl (by rw [show hg_emptyPlain p1 g = g from if_neg hE, show hn_emptyPlain p1 g n0 = n0 from if_neg hE]; exact hP) hK (by rw [show hg_emptyPlain p1 g = g from if_neg hE, show hn_emptyPlain p1 g n0 = n0 from if_neg hE]; exact hD) hS (by decide) (by decide) (by rw [hk_emptyPlain, if_neg hE]) trivial
def hk_getPlain (p1 : Int32) : Int32 := if e_X0_getPlain p1 = 0 then 0 else 1
theorem ev_getPlain (p1 : Int32) : e_X0_getPlain p1 = 0 ∨ e_X0_getPlain p1 = 1 := by
  unfold e_X0_getPlain
  repeat' split
  all_goals first | exact Or.inl rfl | exact (rg_X0_needBox _) | exact (rg_X0_needPlain _) | exact Or.inr rfl
def hrf_getPlain (p1 : Int32) (g : Nat → Int32) (rf : Int32) : Int32 := if e_X0_getPlain p1 = 0 then wrf_X0_getPlain p1 g rf else rf
def hn_getPlain (p1 : Int32) (g : Nat → Int32) (n0 : Int64) : Int64 := if e_X0_getPlain p1 = 0 then (v_X0_getPlain p1 g).toInt64 else n0
set_option maxRecDepth 100000 in
set_option maxHeartbeats 4000000 in
theorem j_L_getPlain (l : Launch) (hl0 : l.stackTraces = false) (D : va_G) (cI cB : ClassId) (x bx px t : Nat) (f g : Nat → Int32) (ak su gt lf rf kn : Int32) (q : Nat) (n0 : Int64) (sv : Value) (p1 : Int32) : JH (S := Unit) l yL_getPlain cL_getPlain 4 (some .int) [(0, 10, 13, 19)] ({ frames := 8, cells := 1, slots := 6, locals := 131 } : Room) D cI cB [.ref x, .int p1, .ref q] [(x, .inr (2, [.ref bx, .ref px, .ref t, .int ak, .int su, .int gt, .int lf, .int rf, .int kn])), (bx, .inl (cI, 6, .inl f)), (px, .inl (cI, 2, .inl g)), (q, .inr (3, [.long n0, sv]))] (zAnd (zAnd zz zN) (zF RL 13 RX1 "n" "J" RL)) (fun _ => some (.int (hk_getPlain p1))) (fun _ => True) (fun _ => [(x, .inr (2, [.ref bx, .ref px, .ref t, .int ak, .int su, .int gt, .int lf, .int (hrf_getPlain p1 g rf), .int kn])), (bx, .inl (cI, 6, .inl f)), (px, .inl (cI, 2, .inl g)), (q, .inr (3, [.long (hn_getPlain p1 g n0), sv]))]) 1 6 := by
  refine bodyJH (by decide +kernel) (Nat.le_of_ble_eq_true rfl) (fun p e s m args below meth c ls A ZZ => ?_)
  obtain ⟨FX, hr, hlk, hK, hP, hD, hS, hA, hz, htb, hl⟩ := ZZ
  have hl : lv_has ls 4 [(0, .ref x), (1, .int p1), (2, .ref q)] := hl
  have hP : va_P D KL [(x, .inr (2, [.ref bx, .ref px, .ref t, .int ak, .int su, .int gt, .int lf, .int rf, .int kn])), (bx, .inl (cI, 6, .inl f)), (px, .inl (cI, 2, .inl g)), (q, .inr (3, [.long n0, sv]))] s.heap := hP
  refine lv_aload_n FX.1 FX.2.1 dL_getPlain_0 rfl (lv_at hl 2 rfl) ?_
  refine lv_aload_n FX.1 FX.2.1 dL_getPlain_1 rfl (lv_at hl 0 rfl) ?_
  refine lv_iload_n FX.1 FX.2.1 dL_getPlain_2 rfl (lv_at hl 1 rfl) ?_
  by_cases hE : e_X0_getPlain p1 = 0
  · have q_1 : (e_X0_getPlain p1) = 0 := hE
    refine c_WRV (wr := [(q, .inr (3, [.long n0, sv]))]) (wsN := [(x, .inr (2, [.ref bx, .ref px, .ref t, .int ak, .int su, .int gt, .int lf, .int (wrf_X0_getPlain p1 g rf), .int kn])), (bx, .inl (cI, 6, .inl f)), (px, .inl (cI, 2, .inl g)), (q, .inr (3, [.long n0, sv]))]) (i0 := 0) (ci := 2) FX (k_X0_getPlain l D cI cB x bx px t f g ak su gt lf rf kn p1 q_1) mi_X0_getPlain rfl ml_RL_95 (RMok.mk) hl.1 rfl (Nat.le_of_ble_eq_true rfl) dL_getPlain_3 (by decide) hK hP hD hS hA [0, 1, 2] rfl [3] rfl rfl (by decide) [1, 2, 3, 0] rfl rfl rfl rfl rfl (fun H locs hP hD hS => ?_)
    refine lv_i2l (v := (v_X0_getPlain p1 g).toInt64) FX.1 FX.2.1 dL_getPlain_6 rfl ?_
    refine p_putN (wsN := [(x, .inr (2, [.ref bx, .ref px, .ref t, .int ak, .int su, .int gt, .int lf, .int (wrf_X0_getPlain p1 g rf), .int kn])), (bx, .inl (cI, 6, .inl f)), (px, .inl (cI, 2, .inl g)), (q, .inr (3, [.long ((v_X0_getPlain p1 g).toInt64), sv]))]) (ci := 3) (v := .long ((v_X0_getPlain p1 g).toInt64)) (ty := .long) FX inX1 tyX1_ok nmX1 hK hP hD hS 3 rfl rfl 0 (by decide) hz.2 rfl (by decide +kernel) rfl rfl (Nat.le_of_ble_eq_true rfl) dL_getPlain_7 rfl (fun H locs hP hD hS => ?_)
    refine lv_goto (tgt := 16) FX.1 FX.2.1 dL_getPlain_10 (by decide) ?_
    refine lv_iconst (v := 0) FX.1 FX.2.1 dL_getPlain_16 (by decide) ?_
    exact retJi () FX hr hlk dL_getPlain_17 rfl (by rw [show hrf_getPlain p1 g rf = wrf_X0_getPlain p1 g rf from if_pos hE, show hn_getPlain p1 g n0 = (v_X0_getPlain p1 g).toInt64 from if_pos hE]; exact hP) hK (by rw [show hrf_getPlain p1 g rf = wrf_X0_getPlain p1 g rf from if_pos hE, show hn_getPlain p1 g n0 = (v_X0_getPlain p1 g).toInt64 from if_pos hE]; exact hD) hS (by decide) (by decide) (by rw [hk_getPlain, if_pos hE]) trivial
  · rcases (ev_getPlain p1) with hV | hV
    · exact absurd hV hE
    · refine c_XV1 (i0 := 0) (ci := 2) (k2 := 1) (h1 := (0, 10, 13, 19)) (hs := []) FX (x_X0_getPlain l hl0 D cI cB x bx px t f g ak su gt lf rf kn p1 hE) hV mi_X0_getPlain rfl ml_RL_95 (RMok.mk) hl.1 rfl (Nat.le_of_ble_eq_true rfl) dL_getPlain_3 (by decide) hK hP hA [0, 1, 2] rfl rfl rfl rfl hz.1.1 htb (by decide) (by decide) cl_RL_19 (by decide) (fun q9 H locs hP hS => ?_)
      refine lv_astore_n (lv' := [(3, .ref q9), (0, .ref x), (1, .int p1), (2, .ref q)]) FX.1 FX.2.1 dL_getPlain_13 rfl hl (by decide) rfl (fun ls hl => ?_)
      refine lv_iconst (v := 1) FX.1 FX.2.1 dL_getPlain_14 (by decide) ?_
      exact retJi () FX hr hlk dL_getPlain_15 rfl (by rw [show hrf_getPlain p1 g rf = rf from if_neg hE, show hn_getPlain p1 g n0 = n0 from if_neg hE]; exact hP) hK (by rw [show hrf_getPlain p1 g rf = rf from if_neg hE, show hn_getPlain p1 g n0 = n0 from if_neg hE]; exact hD) hS (by decide) (by decide) (by rw [hk_getPlain, if_neg hE]) trivial
def hk_orElsePlain (p1 : Int32) (n1 : Int32) : Int32 := if e_X0_orElsePlain p1 n1 = 0 then 0 else if e_X0_orElsePlain p1 n1 = 1 then 1 else 2
theorem ev_orElsePlain (p1 : Int32) (n1 : Int32) : e_X0_orElsePlain p1 n1 = 0 ∨ e_X0_orElsePlain p1 n1 = 1 ∨ e_X0_orElsePlain p1 n1 = 2 := by
  unfold e_X0_orElsePlain
  repeat' split
  all_goals first | exact Or.inl rfl | exact r21 (rg_X0_needBox _) | exact r21 (rg_X0_needPlain _) | exact r22 (rg_X0_needNumber _) | exact r22 (rg_X0_needKind _ _) | exact Or.inr (Or.inl rfl) | exact Or.inr (Or.inr rfl)
def hn_orElsePlain (p1 : Int32) (n1 : Int32) (g : Nat → Int32) (n0 : Int64) : Int64 := if e_X0_orElsePlain p1 n1 = 0 then (v_X0_orElsePlain p1 n1 g).toInt64 else n0
set_option maxRecDepth 100000 in
set_option maxHeartbeats 4000000 in
theorem j_L_orElsePlain (l : Launch) (hl0 : l.stackTraces = false) (D : va_G) (cI cB : ClassId) (x bx px t : Nat) (f g : Nat → Int32) (ak su gt lf rf kn : Int32) (q : Nat) (n0 : Int64) (sv : Value) (p1 : Int32) (n1 : Int32) : JH (S := Unit) l yL_orElsePlain cL_orElsePlain 5 (some .int) [(0, 11, 14, 19), (0, 11, 18, 21)] ({ frames := 8, cells := 1, slots := 6, locals := 132 } : Room) D cI cB [.ref x, .int p1, .int n1, .ref q] [(x, .inr (2, [.ref bx, .ref px, .ref t, .int ak, .int su, .int gt, .int lf, .int rf, .int kn])), (bx, .inl (cI, 6, .inl f)), (px, .inl (cI, 2, .inl g)), (q, .inr (3, [.long n0, sv]))] (zAnd (zAnd zz zN) (zF RL 13 RX1 "n" "J" RL)) (fun _ => some (.int (hk_orElsePlain p1 n1))) (fun _ => True) (fun _ => [(x, .inr (2, [.ref bx, .ref px, .ref t, .int ak, .int su, .int gt, .int lf, .int rf, .int kn])), (bx, .inl (cI, 6, .inl f)), (px, .inl (cI, 2, .inl g)), (q, .inr (3, [.long (hn_orElsePlain p1 n1 g n0), sv]))]) 1 6 := by
  refine bodyJH (by decide +kernel) (Nat.le_of_ble_eq_true rfl) (fun p e s m args below meth c ls A ZZ => ?_)
  obtain ⟨FX, hr, hlk, hK, hP, hD, hS, hA, hz, htb, hl⟩ := ZZ
  have hl : lv_has ls 5 [(0, .ref x), (1, .int p1), (2, .int n1), (3, .ref q)] := hl
  have hP : va_P D KL [(x, .inr (2, [.ref bx, .ref px, .ref t, .int ak, .int su, .int gt, .int lf, .int rf, .int kn])), (bx, .inl (cI, 6, .inl f)), (px, .inl (cI, 2, .inl g)), (q, .inr (3, [.long n0, sv]))] s.heap := hP
  refine lv_aload_n FX.1 FX.2.1 dL_orElsePlain_0 rfl (lv_at hl 3 rfl) ?_
  refine lv_aload_n FX.1 FX.2.1 dL_orElsePlain_1 rfl (lv_at hl 0 rfl) ?_
  refine lv_iload_n FX.1 FX.2.1 dL_orElsePlain_2 rfl (lv_at hl 1 rfl) ?_
  refine lv_iload_n FX.1 FX.2.1 dL_orElsePlain_3 rfl (lv_at hl 2 rfl) ?_
  by_cases hE : e_X0_orElsePlain p1 n1 = 0
  · have q_1 : (e_X0_orElsePlain p1 n1) = 0 := hE
    refine c_RDV (i0 := 0) (ci := 2) FX (r_X0_orElsePlain l D cI cB x bx px t f g ak su gt lf rf kn p1 n1 q_1) mi_X0_orElsePlain rfl ml_RL_98 (RMok.mk) hl.1 rfl (Nat.le_of_ble_eq_true rfl) dL_orElsePlain_4 (by decide) hK hP [0, 1, 2] rfl rfl rfl rfl ?_
    refine lv_i2l (v := (v_X0_orElsePlain p1 n1 g).toInt64) FX.1 FX.2.1 dL_orElsePlain_7 rfl ?_
    refine p_putN (wsN := [(x, .inr (2, [.ref bx, .ref px, .ref t, .int ak, .int su, .int gt, .int lf, .int rf, .int kn])), (bx, .inl (cI, 6, .inl f)), (px, .inl (cI, 2, .inl g)), (q, .inr (3, [.long ((v_X0_orElsePlain p1 n1 g).toInt64), sv]))]) (ci := 3) (v := .long ((v_X0_orElsePlain p1 n1 g).toInt64)) (ty := .long) FX inX1 tyX1_ok nmX1 hK hP hD hS 3 rfl rfl 0 (by decide) hz.2 rfl (by decide +kernel) rfl rfl (Nat.le_of_ble_eq_true rfl) dL_orElsePlain_8 rfl (fun H locs hP hD hS => ?_)
    refine lv_goto (tgt := 22) FX.1 FX.2.1 dL_orElsePlain_11 (by decide) ?_
    refine lv_iconst (v := 0) FX.1 FX.2.1 dL_orElsePlain_22 (by decide) ?_
    exact retJi () FX hr hlk dL_orElsePlain_23 rfl (by rw [show hn_orElsePlain p1 n1 g n0 = (v_X0_orElsePlain p1 n1 g).toInt64 from if_pos hE]; exact hP) hK (by rw [show hn_orElsePlain p1 n1 g n0 = (v_X0_orElsePlain p1 n1 g).toInt64 from if_pos hE]; exact hD) hS (by decide) (by decide) (by rw [hk_orElsePlain, if_pos hE]) trivial
  · rcases (ev_orElsePlain p1 n1) with hV | hV | hV
    · exact absurd hV hE
    · refine c_XV1 (i0 := 0) (ci := 2) (k2 := 1) (h1 := (0, 11, 14, 19)) (hs := [(0, 11, 18, 21)]) FX (x_X0_orElsePlain l hl0 D cI cB x bx px t f g ak su gt lf rf kn p1 n1 hE) hV mi_X0_orElsePlain rfl ml_RL_98 (RMok.mk) hl.1 rfl (Nat.le_of_ble_eq_true rfl) dL_orElsePlain_4 (by decide) hK hP hA [0, 1, 2] rfl rfl rfl rfl hz.1.1 htb (by decide) (by decide) cl_RL_19 (by decide) (fun q9 H locs hP hS => ?_)
      refine lv_astore (lv' := [(4, .ref q9), (0, .ref x), (1, .int p1), (2, .int n1), (3, .ref q)]) FX.1 FX.2.1 dL_orElsePlain_14 hl (by decide) rfl (fun ls hl => ?_)
      refine lv_iconst (v := 1) FX.1 FX.2.1 dL_orElsePlain_16 (by decide) ?_
      exact retJi () FX hr hlk dL_orElsePlain_17 rfl (by rw [show hn_orElsePlain p1 n1 g n0 = n0 from if_neg hE]; exact hP) hK (by rw [show hn_orElsePlain p1 n1 g n0 = n0 from if_neg hE]; exact hD) hS (by decide) (by decide) (by rw [hk_orElsePlain, if_neg hE, if_pos hV]) trivial
    · refine c_XV2 (i0 := 0) (ci := 2) (k1 := 1) (k2 := 2) (h1 := (0, 11, 14, 19)) (h2 := (0, 11, 18, 21)) (hs := []) FX (x_X0_orElsePlain l hl0 D cI cB x bx px t f g ak su gt lf rf kn p1 n1 hE) hV mi_X0_orElsePlain rfl ml_RL_98 (RMok.mk) hl.1 rfl (Nat.le_of_ble_eq_true rfl) dL_orElsePlain_4 (by decide) hK hP hA [0, 1, 2] rfl rfl rfl rfl hz.1.1 hz.1.2 htb (by decide) cl_RL_19 (by decide) (by decide) (by decide) cl_RL_21 (by decide) (fun q9 H locs hP hS => ?_)
      refine lv_astore (lv' := [(4, .ref q9), (0, .ref x), (1, .int p1), (2, .int n1), (3, .ref q)]) FX.1 FX.2.1 dL_orElsePlain_18 hl (by decide) rfl (fun ls hl => ?_)
      refine lv_iconst (v := 2) FX.1 FX.2.1 dL_orElsePlain_20 (by decide) ?_
      exact retJi () FX hr hlk dL_orElsePlain_21 rfl (by rw [show hn_orElsePlain p1 n1 g n0 = n0 from if_neg hE]; exact hP) hK (by rw [show hn_orElsePlain p1 n1 g n0 = n0 from if_neg hE]; exact hD) hS (by decide) (by decide) (by rw [hk_orElsePlain, if_neg hE, if_neg (by rw [hV]; decide)]) trivial
def hk_isFullPlain (p1 : Int32) : Int32 := if e_X0_isFullPlain p1 = 0 then 0 else 1
theorem ev_isFullPlain (p1 : Int32) : e_X0_isFullPlain p1 = 0 ∨ e_X0_isFullPlain p1 = 1 := by
  unfold e_X0_isFullPlain
  repeat' split
  all_goals first | exact Or.inl rfl | exact (rg_X0_needBox _) | exact (rg_X0_needPlain _) | exact Or.inr rfl
def hn_isFullPlain (p1 : Int32) (g : Nat → Int32) (n0 : Int64) : Int64 := if e_X0_isFullPlain p1 = 0 then (if v_X0_isFullPlain p1 g = 0 then 0 else 1) else n0
set_option maxRecDepth 100000 in
set_option maxHeartbeats 4000000 in
theorem j_L_isFullPlain (l : Launch) (hl0 : l.stackTraces = false) (D : va_G) (cI cB : ClassId) (x bx px t : Nat) (f g : Nat → Int32) (ak su gt lf rf kn : Int32) (q : Nat) (n0 : Int64) (sv : Value) (p1 : Int32) : JH (S := Unit) l yL_isFullPlain cL_isFullPlain 4 (some .int) [(0, 17, 20, 19)] ({ frames := 8, cells := 1, slots := 6, locals := 131 } : Room) D cI cB [.ref x, .int p1, .ref q] [(x, .inr (2, [.ref bx, .ref px, .ref t, .int ak, .int su, .int gt, .int lf, .int rf, .int kn])), (bx, .inl (cI, 6, .inl f)), (px, .inl (cI, 2, .inl g)), (q, .inr (3, [.long n0, sv]))] (zAnd (zAnd zz zN) (zF RL 13 RX1 "n" "J" RL)) (fun _ => some (.int (hk_isFullPlain p1))) (fun _ => True) (fun _ => [(x, .inr (2, [.ref bx, .ref px, .ref t, .int ak, .int su, .int gt, .int lf, .int rf, .int kn])), (bx, .inl (cI, 6, .inl f)), (px, .inl (cI, 2, .inl g)), (q, .inr (3, [.long (hn_isFullPlain p1 g n0), sv]))]) 1 6 := by
  refine bodyJH (by decide +kernel) (Nat.le_of_ble_eq_true rfl) (fun p e s m args below meth c ls A ZZ => ?_)
  obtain ⟨FX, hr, hlk, hK, hP, hD, hS, hA, hz, htb, hl⟩ := ZZ
  have hl : lv_has ls 4 [(0, .ref x), (1, .int p1), (2, .ref q)] := hl
  have hP : va_P D KL [(x, .inr (2, [.ref bx, .ref px, .ref t, .int ak, .int su, .int gt, .int lf, .int rf, .int kn])), (bx, .inl (cI, 6, .inl f)), (px, .inl (cI, 2, .inl g)), (q, .inr (3, [.long n0, sv]))] s.heap := hP
  refine lv_aload_n FX.1 FX.2.1 dL_isFullPlain_0 rfl (lv_at hl 2 rfl) ?_
  refine lv_aload_n FX.1 FX.2.1 dL_isFullPlain_1 rfl (lv_at hl 0 rfl) ?_
  refine lv_iload_n FX.1 FX.2.1 dL_isFullPlain_2 rfl (lv_at hl 1 rfl) ?_
  by_cases hE : e_X0_isFullPlain p1 = 0
  · have q_1 : (e_X0_isFullPlain p1) = 0 := hE
    refine c_RDV (i0 := 0) (ci := 2) FX (r_X0_isFullPlain l D cI cB x bx px t f g ak su gt lf rf kn p1 q_1) mi_X0_isFullPlain rfl ml_RL_101 (RMok.mk) hl.1 rfl (Nat.le_of_ble_eq_true rfl) dL_isFullPlain_3 (by decide) hK hP [0, 1, 2] rfl rfl rfl rfl ?_
    refine lv_if_eq (tgt := 13) FX.1 FX.2.1 dL_isFullPlain_6 (by decide) (fun c_2 => ?_) (fun c_2 => ?_)
    · refine lv_lconst (v := 0) FX.1 FX.2.1 dL_isFullPlain_13 (by decide) ?_
      refine p_putN (wsN := [(x, .inr (2, [.ref bx, .ref px, .ref t, .int ak, .int su, .int gt, .int lf, .int rf, .int kn])), (bx, .inl (cI, 6, .inl f)), (px, .inl (cI, 2, .inl g)), (q, .inr (3, [.long 0, sv]))]) (ci := 3) (v := .long 0) (ty := .long) FX inX1 tyX1_ok nmX1 hK hP hD hS 3 rfl rfl 0 (by decide) hz.2 rfl (by decide +kernel) rfl rfl (Nat.le_of_ble_eq_true rfl) dL_isFullPlain_14 rfl (fun H locs hP hD hS => ?_)
      refine lv_goto (tgt := 23) FX.1 FX.2.1 dL_isFullPlain_17 (by decide) ?_
      refine lv_iconst (v := 0) FX.1 FX.2.1 dL_isFullPlain_23 (by decide) ?_
      exact retJi () FX hr hlk dL_isFullPlain_24 rfl (by rw [show hn_isFullPlain p1 g n0 = 0 from (if_pos hE).trans (if_pos c_2)]; exact hP) hK (by rw [show hn_isFullPlain p1 g n0 = 0 from (if_pos hE).trans (if_pos c_2)]; exact hD) hS (by decide) (by decide) (by rw [hk_isFullPlain, if_pos hE]) trivial
    · refine lv_lconst (v := 1) FX.1 FX.2.1 dL_isFullPlain_9 (by decide) ?_
      refine lv_goto (tgt := 14) FX.1 FX.2.1 dL_isFullPlain_10 (by decide) ?_
      refine p_putN (wsN := [(x, .inr (2, [.ref bx, .ref px, .ref t, .int ak, .int su, .int gt, .int lf, .int rf, .int kn])), (bx, .inl (cI, 6, .inl f)), (px, .inl (cI, 2, .inl g)), (q, .inr (3, [.long 1, sv]))]) (ci := 3) (v := .long 1) (ty := .long) FX inX1 tyX1_ok nmX1 hK hP hD hS 3 rfl rfl 0 (by decide) hz.2 rfl (by decide +kernel) rfl rfl (Nat.le_of_ble_eq_true rfl) dL_isFullPlain_14 rfl (fun H locs hP hD hS => ?_)
      refine lv_goto (tgt := 23) FX.1 FX.2.1 dL_isFullPlain_17 (by decide) ?_
      refine lv_iconst (v := 0) FX.1 FX.2.1 dL_isFullPlain_23 (by decide) ?_
      exact retJi () FX hr hlk dL_isFullPlain_24 rfl (by rw [show hn_isFullPlain p1 g n0 = 1 from (if_pos hE).trans (if_neg c_2)]; exact hP) hK (by rw [show hn_isFullPlain p1 g n0 = 1 from (if_pos hE).trans (if_neg c_2)]; exact hD) hS (by decide) (by decide) (by rw [hk_isFullPlain, if_pos hE]) trivial
  · rcases (ev_isFullPlain p1) with hV | hV
    · exact absurd hV hE
    · refine c_XV1 (i0 := 0) (ci := 2) (k2 := 1) (h1 := (0, 17, 20, 19)) (hs := []) FX (x_X0_isFullPlain l hl0 D cI cB x bx px t f g ak su gt lf rf kn p1 hE) hV mi_X0_isFullPlain rfl ml_RL_101 (RMok.mk) hl.1 rfl (Nat.le_of_ble_eq_true rfl) dL_isFullPlain_3 (by decide) hK hP hA [0, 1, 2] rfl rfl rfl rfl hz.1.1 htb (by decide) (by decide) cl_RL_19 (by decide) (fun q9 H locs hP hS => ?_)
      refine lv_astore_n (lv' := [(3, .ref q9), (0, .ref x), (1, .int p1), (2, .ref q)]) FX.1 FX.2.1 dL_isFullPlain_20 rfl hl (by decide) rfl (fun ls hl => ?_)
      refine lv_iconst (v := 1) FX.1 FX.2.1 dL_isFullPlain_21 (by decide) ?_
      exact retJi () FX hr hlk dL_isFullPlain_22 rfl (by rw [show hn_isFullPlain p1 g n0 = n0 from if_neg hE]; exact hP) hK (by rw [show hn_isFullPlain p1 g n0 = n0 from if_neg hE]; exact hD) hS (by decide) (by decide) (by rw [hk_isFullPlain, if_neg hE]) trivial
def hk_takePlain (p1 : Int32) : Int32 := if e_X0_takePlain p1 = 0 then 0 else 1
theorem ev_takePlain (p1 : Int32) : e_X0_takePlain p1 = 0 ∨ e_X0_takePlain p1 = 1 := by
  unfold e_X0_takePlain
  repeat' split
  all_goals first | exact Or.inl rfl | exact (rg_X0_needBox _) | exact (rg_X0_needPlain _) | exact Or.inr rfl
def hak_takePlain (p1 : Int32) (g : Nat → Int32) (ak : Int32) : Int32 := if e_X0_takePlain p1 = 0 then wak_X0_takePlain p1 g ak else ak
def hsu_takePlain (p1 : Int32) (g : Nat → Int32) (su : Int32) : Int32 := if e_X0_takePlain p1 = 0 then wsu_X0_takePlain p1 g su else su
def hgt_takePlain (p1 : Int32) (g : Nat → Int32) (gt : Int32) : Int32 := if e_X0_takePlain p1 = 0 then wgt_X0_takePlain p1 g gt else gt
def hn_takePlain (p1 : Int32) (g : Nat → Int32) (su : Int32) (n0 : Int64) : Int64 := if e_X0_takePlain p1 = 0 then (v_X0_takePlain p1 g su).toInt64 else n0
set_option maxRecDepth 100000 in
set_option maxHeartbeats 4000000 in
theorem j_L_takePlain (l : Launch) (hl0 : l.stackTraces = false) (D : va_G) (cI cB : ClassId) (x bx px t : Nat) (f g : Nat → Int32) (ak su gt lf rf kn : Int32) (q : Nat) (n0 : Int64) (sv : Value) (p1 : Int32) : JH (S := Unit) l yL_takePlain cL_takePlain 4 (some .int) [(0, 10, 13, 19)] ({ frames := 8, cells := 1, slots := 6, locals := 131 } : Room) D cI cB [.ref x, .int p1, .ref q] [(x, .inr (2, [.ref bx, .ref px, .ref t, .int ak, .int su, .int gt, .int lf, .int rf, .int kn])), (bx, .inl (cI, 6, .inl f)), (px, .inl (cI, 2, .inl g)), (q, .inr (3, [.long n0, sv]))] (zAnd (zAnd zz zN) (zF RL 13 RX1 "n" "J" RL)) (fun _ => some (.int (hk_takePlain p1))) (fun _ => True) (fun _ => [(x, .inr (2, [.ref bx, .ref px, .ref t, .int (hak_takePlain p1 g ak), .int (hsu_takePlain p1 g su), .int (hgt_takePlain p1 g gt), .int lf, .int rf, .int kn])), (bx, .inl (cI, 6, .inl f)), (px, .inl (cI, 2, .inl g)), (q, .inr (3, [.long (hn_takePlain p1 g su n0), sv]))]) 1 6 := by
  refine bodyJH (by decide +kernel) (Nat.le_of_ble_eq_true rfl) (fun p e s m args below meth c ls A ZZ => ?_)
  obtain ⟨FX, hr, hlk, hK, hP, hD, hS, hA, hz, htb, hl⟩ := ZZ
  have hl : lv_has ls 4 [(0, .ref x), (1, .int p1), (2, .ref q)] := hl
  have hP : va_P D KL [(x, .inr (2, [.ref bx, .ref px, .ref t, .int ak, .int su, .int gt, .int lf, .int rf, .int kn])), (bx, .inl (cI, 6, .inl f)), (px, .inl (cI, 2, .inl g)), (q, .inr (3, [.long n0, sv]))] s.heap := hP
  refine lv_aload_n FX.1 FX.2.1 dL_takePlain_0 rfl (lv_at hl 2 rfl) ?_
  refine lv_aload_n FX.1 FX.2.1 dL_takePlain_1 rfl (lv_at hl 0 rfl) ?_
  refine lv_iload_n FX.1 FX.2.1 dL_takePlain_2 rfl (lv_at hl 1 rfl) ?_
  by_cases hE : e_X0_takePlain p1 = 0
  · have q_1 : (e_X0_takePlain p1) = 0 := hE
    refine c_WRV (wr := [(q, .inr (3, [.long n0, sv]))]) (wsN := [(x, .inr (2, [.ref bx, .ref px, .ref t, .int (wak_X0_takePlain p1 g ak), .int (wsu_X0_takePlain p1 g su), .int (wgt_X0_takePlain p1 g gt), .int lf, .int rf, .int kn])), (bx, .inl (cI, 6, .inl f)), (px, .inl (cI, 2, .inl g)), (q, .inr (3, [.long n0, sv]))]) (i0 := 0) (ci := 2) FX (k_X0_takePlain l D cI cB x bx px t f g ak su gt lf rf kn p1 q_1) mi_X0_takePlain rfl ml_RL_104 (RMok.mk) hl.1 rfl (Nat.le_of_ble_eq_true rfl) dL_takePlain_3 (by decide) hK hP hD hS hA [0, 1, 2] rfl [3] rfl rfl (by decide) [1, 2, 3, 0] rfl rfl rfl rfl rfl (fun H locs hP hD hS => ?_)
    refine lv_i2l (v := (v_X0_takePlain p1 g su).toInt64) FX.1 FX.2.1 dL_takePlain_6 rfl ?_
    refine p_putN (wsN := [(x, .inr (2, [.ref bx, .ref px, .ref t, .int (wak_X0_takePlain p1 g ak), .int (wsu_X0_takePlain p1 g su), .int (wgt_X0_takePlain p1 g gt), .int lf, .int rf, .int kn])), (bx, .inl (cI, 6, .inl f)), (px, .inl (cI, 2, .inl g)), (q, .inr (3, [.long ((v_X0_takePlain p1 g su).toInt64), sv]))]) (ci := 3) (v := .long ((v_X0_takePlain p1 g su).toInt64)) (ty := .long) FX inX1 tyX1_ok nmX1 hK hP hD hS 3 rfl rfl 0 (by decide) hz.2 rfl (by decide +kernel) rfl rfl (Nat.le_of_ble_eq_true rfl) dL_takePlain_7 rfl (fun H locs hP hD hS => ?_)
    refine lv_goto (tgt := 16) FX.1 FX.2.1 dL_takePlain_10 (by decide) ?_
    refine lv_iconst (v := 0) FX.1 FX.2.1 dL_takePlain_16 (by decide) ?_
    exact retJi () FX hr hlk dL_takePlain_17 rfl (by rw [show hak_takePlain p1 g ak = wak_X0_takePlain p1 g ak from if_pos hE, show hsu_takePlain p1 g su = wsu_X0_takePlain p1 g su from if_pos hE, show hgt_takePlain p1 g gt = wgt_X0_takePlain p1 g gt from if_pos hE, show hn_takePlain p1 g su n0 = (v_X0_takePlain p1 g su).toInt64 from if_pos hE]; exact hP) hK (by rw [show hak_takePlain p1 g ak = wak_X0_takePlain p1 g ak from if_pos hE, show hsu_takePlain p1 g su = wsu_X0_takePlain p1 g su from if_pos hE, show hgt_takePlain p1 g gt = wgt_X0_takePlain p1 g gt from if_pos hE, show hn_takePlain p1 g su n0 = (v_X0_takePlain p1 g su).toInt64 from if_pos hE]; exact hD) hS (by decide) (by decide) (by rw [hk_takePlain, if_pos hE]) trivial
  · rcases (ev_takePlain p1) with hV | hV
    · exact absurd hV hE
    · refine c_XV1 (i0 := 0) (ci := 2) (k2 := 1) (h1 := (0, 10, 13, 19)) (hs := []) FX (x_X0_takePlain l hl0 D cI cB x bx px t f g ak su gt lf rf kn p1 hE) hV mi_X0_takePlain rfl ml_RL_104 (RMok.mk) hl.1 rfl (Nat.le_of_ble_eq_true rfl) dL_takePlain_3 (by decide) hK hP hA [0, 1, 2] rfl rfl rfl rfl hz.1.1 htb (by decide) (by decide) cl_RL_19 (by decide) (fun q9 H locs hP hS => ?_)
      refine lv_astore_n (lv' := [(3, .ref q9), (0, .ref x), (1, .int p1), (2, .ref q)]) FX.1 FX.2.1 dL_takePlain_13 rfl hl (by decide) rfl (fun ls hl => ?_)
      refine lv_iconst (v := 1) FX.1 FX.2.1 dL_takePlain_14 (by decide) ?_
      exact retJi () FX hr hlk dL_takePlain_15 rfl (by rw [show hak_takePlain p1 g ak = ak from if_neg hE, show hsu_takePlain p1 g su = su from if_neg hE, show hgt_takePlain p1 g gt = gt from if_neg hE, show hn_takePlain p1 g su n0 = n0 from if_neg hE]; exact hP) hK (by rw [show hak_takePlain p1 g ak = ak from if_neg hE, show hsu_takePlain p1 g su = su from if_neg hE, show hgt_takePlain p1 g gt = gt from if_neg hE, show hn_takePlain p1 g su n0 = n0 from if_neg hE]; exact hD) hS (by decide) (by decide) (by rw [hk_takePlain, if_neg hE]) trivial
def hk_toPlain (p1 : Int32) (b1 : Int32) : Int32 := if e_X0_toPlain p1 b1 = 0 then 0 else 1
theorem ev_toPlain (p1 : Int32) (b1 : Int32) : e_X0_toPlain p1 b1 = 0 ∨ e_X0_toPlain p1 b1 = 1 := by
  unfold e_X0_toPlain
  repeat' split
  all_goals first | exact Or.inl rfl | exact (rg_X0_needBox _) | exact (rg_X0_needPlain _) | exact Or.inr rfl
def hg_toPlain (p1 : Int32) (b1 : Int32) (f : Nat → Int32) (g : Nat → Int32) : Nat → Int32 := if e_X0_toPlain p1 b1 = 0 then wg_X0_toPlain p1 b1 f g else g
def hn_toPlain (p1 : Int32) (b1 : Int32) (f : Nat → Int32) (g : Nat → Int32) (n0 : Int64) : Int64 := if e_X0_toPlain p1 b1 = 0 then (v_X0_toPlain p1 b1 f g).toInt64 else n0
set_option maxRecDepth 100000 in
set_option maxHeartbeats 4000000 in
theorem j_L_toPlain (l : Launch) (hl0 : l.stackTraces = false) (D : va_G) (cI cB : ClassId) (x bx px t : Nat) (f g : Nat → Int32) (ak su gt lf rf kn : Int32) (q : Nat) (n0 : Int64) (sv : Value) (p1 : Int32) (b1 : Int32) : JH (S := Unit) l yL_toPlain cL_toPlain 5 (some .int) [(0, 11, 14, 19)] ({ frames := 8, cells := 1, slots := 6, locals := 132 } : Room) D cI cB [.ref x, .int p1, .int b1, .ref q] [(x, .inr (2, [.ref bx, .ref px, .ref t, .int ak, .int su, .int gt, .int lf, .int rf, .int kn])), (bx, .inl (cI, 6, .inl f)), (px, .inl (cI, 2, .inl g)), (q, .inr (3, [.long n0, sv]))] (zAnd (zAnd zz zN) (zF RL 13 RX1 "n" "J" RL)) (fun _ => some (.int (hk_toPlain p1 b1))) (fun _ => True) (fun _ => [(x, .inr (2, [.ref bx, .ref px, .ref t, .int ak, .int su, .int gt, .int lf, .int rf, .int kn])), (bx, .inl (cI, 6, .inl f)), (px, .inl (cI, 2, .inl (hg_toPlain p1 b1 f g))), (q, .inr (3, [.long (hn_toPlain p1 b1 f g n0), sv]))]) 1 6 := by
  refine bodyJH (by decide +kernel) (Nat.le_of_ble_eq_true rfl) (fun p e s m args below meth c ls A ZZ => ?_)
  obtain ⟨FX, hr, hlk, hK, hP, hD, hS, hA, hz, htb, hl⟩ := ZZ
  have hl : lv_has ls 5 [(0, .ref x), (1, .int p1), (2, .int b1), (3, .ref q)] := hl
  have hP : va_P D KL [(x, .inr (2, [.ref bx, .ref px, .ref t, .int ak, .int su, .int gt, .int lf, .int rf, .int kn])), (bx, .inl (cI, 6, .inl f)), (px, .inl (cI, 2, .inl g)), (q, .inr (3, [.long n0, sv]))] s.heap := hP
  refine lv_aload_n FX.1 FX.2.1 dL_toPlain_0 rfl (lv_at hl 3 rfl) ?_
  refine lv_aload_n FX.1 FX.2.1 dL_toPlain_1 rfl (lv_at hl 0 rfl) ?_
  refine lv_iload_n FX.1 FX.2.1 dL_toPlain_2 rfl (lv_at hl 1 rfl) ?_
  refine lv_iload_n FX.1 FX.2.1 dL_toPlain_3 rfl (lv_at hl 2 rfl) ?_
  by_cases hE : e_X0_toPlain p1 b1 = 0
  · have q_1 : (e_X0_toPlain p1 b1) = 0 := hE
    refine c_WRV (wr := [(q, .inr (3, [.long n0, sv]))]) (wsN := [(x, .inr (2, [.ref bx, .ref px, .ref t, .int ak, .int su, .int gt, .int lf, .int rf, .int kn])), (bx, .inl (cI, 6, .inl f)), (px, .inl (cI, 2, .inl (wg_X0_toPlain p1 b1 f g))), (q, .inr (3, [.long n0, sv]))]) (i0 := 0) (ci := 2) FX (k_X0_toPlain l D cI cB x bx px t f g ak su gt lf rf kn p1 b1 q_1) mi_X0_toPlain rfl ml_RL_107 (RMok.mk) hl.1 rfl (Nat.le_of_ble_eq_true rfl) dL_toPlain_4 (by decide) hK hP hD hS hA [0, 1, 2] rfl [3] rfl rfl (by decide) [1, 2, 3, 0] rfl rfl rfl rfl rfl (fun H locs hP hD hS => ?_)
    refine lv_i2l (v := (v_X0_toPlain p1 b1 f g).toInt64) FX.1 FX.2.1 dL_toPlain_7 rfl ?_
    refine p_putN (wsN := [(x, .inr (2, [.ref bx, .ref px, .ref t, .int ak, .int su, .int gt, .int lf, .int rf, .int kn])), (bx, .inl (cI, 6, .inl f)), (px, .inl (cI, 2, .inl (wg_X0_toPlain p1 b1 f g))), (q, .inr (3, [.long ((v_X0_toPlain p1 b1 f g).toInt64), sv]))]) (ci := 3) (v := .long ((v_X0_toPlain p1 b1 f g).toInt64)) (ty := .long) FX inX1 tyX1_ok nmX1 hK hP hD hS 3 rfl rfl 0 (by decide) hz.2 rfl (by decide +kernel) rfl rfl (Nat.le_of_ble_eq_true rfl) dL_toPlain_8 rfl (fun H locs hP hD hS => ?_)
    refine lv_goto (tgt := 18) FX.1 FX.2.1 dL_toPlain_11 (by decide) ?_
    refine lv_iconst (v := 0) FX.1 FX.2.1 dL_toPlain_18 (by decide) ?_
    exact retJi () FX hr hlk dL_toPlain_19 rfl (by rw [show hg_toPlain p1 b1 f g = wg_X0_toPlain p1 b1 f g from if_pos hE, show hn_toPlain p1 b1 f g n0 = (v_X0_toPlain p1 b1 f g).toInt64 from if_pos hE]; exact hP) hK (by rw [show hg_toPlain p1 b1 f g = wg_X0_toPlain p1 b1 f g from if_pos hE, show hn_toPlain p1 b1 f g n0 = (v_X0_toPlain p1 b1 f g).toInt64 from if_pos hE]; exact hD) hS (by decide) (by decide) (by rw [hk_toPlain, if_pos hE]) trivial
  · rcases (ev_toPlain p1 b1) with hV | hV
    · exact absurd hV hE
    · refine c_XV1 (i0 := 0) (ci := 2) (k2 := 1) (h1 := (0, 11, 14, 19)) (hs := []) FX (x_X0_toPlain l hl0 D cI cB x bx px t f g ak su gt lf rf kn p1 b1 hE) hV mi_X0_toPlain rfl ml_RL_107 (RMok.mk) hl.1 rfl (Nat.le_of_ble_eq_true rfl) dL_toPlain_4 (by decide) hK hP hA [0, 1, 2] rfl rfl rfl rfl hz.1.1 htb (by decide) (by decide) cl_RL_19 (by decide) (fun q9 H locs hP hS => ?_)
      refine lv_astore (lv' := [(4, .ref q9), (0, .ref x), (1, .int p1), (2, .int b1), (3, .ref q)]) FX.1 FX.2.1 dL_toPlain_14 hl (by decide) rfl (fun ls hl => ?_)
      refine lv_iconst (v := 1) FX.1 FX.2.1 dL_toPlain_16 (by decide) ?_
      exact retJi () FX hr hlk dL_toPlain_17 rfl (by rw [show hg_toPlain p1 b1 f g = g from if_neg hE, show hn_toPlain p1 b1 f g n0 = n0 from if_neg hE]; exact hP) hK (by rw [show hg_toPlain p1 b1 f g = g from if_neg hE, show hn_toPlain p1 b1 f g n0 = n0 from if_neg hE]; exact hD) hS (by decide) (by decide) (by rw [hk_toPlain, if_neg hE]) trivial
def hk_fromPlain (b1 : Int32) (p1 : Int32) : Int32 := if e_X0_fromPlain b1 p1 = 0 then 0 else 1
theorem ev_fromPlain (b1 : Int32) (p1 : Int32) : e_X0_fromPlain b1 p1 = 0 ∨ e_X0_fromPlain b1 p1 = 1 := by
  unfold e_X0_fromPlain
  repeat' split
  all_goals first | exact Or.inl rfl | exact (rg_X0_needBox _) | exact (rg_X0_needPlain _) | exact Or.inr rfl
def hf_fromPlain (b1 : Int32) (p1 : Int32) (f : Nat → Int32) (g : Nat → Int32) : Nat → Int32 := if e_X0_fromPlain b1 p1 = 0 then wf_X0_fromPlain b1 p1 f g else f
def hn_fromPlain (b1 : Int32) (p1 : Int32) (f : Nat → Int32) (g : Nat → Int32) (n0 : Int64) : Int64 := if e_X0_fromPlain b1 p1 = 0 then (v_X0_fromPlain b1 p1 f g).toInt64 else n0
set_option maxRecDepth 100000 in
set_option maxHeartbeats 4000000 in
theorem j_L_fromPlain (l : Launch) (hl0 : l.stackTraces = false) (D : va_G) (cI cB : ClassId) (x bx px t : Nat) (f g : Nat → Int32) (ak su gt lf rf kn : Int32) (q : Nat) (n0 : Int64) (sv : Value) (b1 : Int32) (p1 : Int32) : JH (S := Unit) l yL_fromPlain cL_fromPlain 5 (some .int) [(0, 11, 14, 19)] ({ frames := 8, cells := 1, slots := 6, locals := 132 } : Room) D cI cB [.ref x, .int b1, .int p1, .ref q] [(x, .inr (2, [.ref bx, .ref px, .ref t, .int ak, .int su, .int gt, .int lf, .int rf, .int kn])), (bx, .inl (cI, 6, .inl f)), (px, .inl (cI, 2, .inl g)), (q, .inr (3, [.long n0, sv]))] (zAnd (zAnd zz zN) (zF RL 13 RX1 "n" "J" RL)) (fun _ => some (.int (hk_fromPlain b1 p1))) (fun _ => True) (fun _ => [(x, .inr (2, [.ref bx, .ref px, .ref t, .int ak, .int su, .int gt, .int lf, .int rf, .int kn])), (bx, .inl (cI, 6, .inl (hf_fromPlain b1 p1 f g))), (px, .inl (cI, 2, .inl g)), (q, .inr (3, [.long (hn_fromPlain b1 p1 f g n0), sv]))]) 1 6 := by
  refine bodyJH (by decide +kernel) (Nat.le_of_ble_eq_true rfl) (fun p e s m args below meth c ls A ZZ => ?_)
  obtain ⟨FX, hr, hlk, hK, hP, hD, hS, hA, hz, htb, hl⟩ := ZZ
  have hl : lv_has ls 5 [(0, .ref x), (1, .int b1), (2, .int p1), (3, .ref q)] := hl
  have hP : va_P D KL [(x, .inr (2, [.ref bx, .ref px, .ref t, .int ak, .int su, .int gt, .int lf, .int rf, .int kn])), (bx, .inl (cI, 6, .inl f)), (px, .inl (cI, 2, .inl g)), (q, .inr (3, [.long n0, sv]))] s.heap := hP
  refine lv_aload_n FX.1 FX.2.1 dL_fromPlain_0 rfl (lv_at hl 3 rfl) ?_
  refine lv_aload_n FX.1 FX.2.1 dL_fromPlain_1 rfl (lv_at hl 0 rfl) ?_
  refine lv_iload_n FX.1 FX.2.1 dL_fromPlain_2 rfl (lv_at hl 1 rfl) ?_
  refine lv_iload_n FX.1 FX.2.1 dL_fromPlain_3 rfl (lv_at hl 2 rfl) ?_
  by_cases hE : e_X0_fromPlain b1 p1 = 0
  · have q_1 : (e_X0_fromPlain b1 p1) = 0 := hE
    refine c_WRV (wr := [(q, .inr (3, [.long n0, sv]))]) (wsN := [(x, .inr (2, [.ref bx, .ref px, .ref t, .int ak, .int su, .int gt, .int lf, .int rf, .int kn])), (bx, .inl (cI, 6, .inl (wf_X0_fromPlain b1 p1 f g))), (px, .inl (cI, 2, .inl g)), (q, .inr (3, [.long n0, sv]))]) (i0 := 0) (ci := 2) FX (k_X0_fromPlain l D cI cB x bx px t f g ak su gt lf rf kn b1 p1 q_1) mi_X0_fromPlain rfl ml_RL_110 (RMok.mk) hl.1 rfl (Nat.le_of_ble_eq_true rfl) dL_fromPlain_4 (by decide) hK hP hD hS hA [0, 1, 2] rfl [3] rfl rfl (by decide) [1, 2, 3, 0] rfl rfl rfl rfl rfl (fun H locs hP hD hS => ?_)
    refine lv_i2l (v := (v_X0_fromPlain b1 p1 f g).toInt64) FX.1 FX.2.1 dL_fromPlain_7 rfl ?_
    refine p_putN (wsN := [(x, .inr (2, [.ref bx, .ref px, .ref t, .int ak, .int su, .int gt, .int lf, .int rf, .int kn])), (bx, .inl (cI, 6, .inl (wf_X0_fromPlain b1 p1 f g))), (px, .inl (cI, 2, .inl g)), (q, .inr (3, [.long ((v_X0_fromPlain b1 p1 f g).toInt64), sv]))]) (ci := 3) (v := .long ((v_X0_fromPlain b1 p1 f g).toInt64)) (ty := .long) FX inX1 tyX1_ok nmX1 hK hP hD hS 3 rfl rfl 0 (by decide) hz.2 rfl (by decide +kernel) rfl rfl (Nat.le_of_ble_eq_true rfl) dL_fromPlain_8 rfl (fun H locs hP hD hS => ?_)
    refine lv_goto (tgt := 18) FX.1 FX.2.1 dL_fromPlain_11 (by decide) ?_
    refine lv_iconst (v := 0) FX.1 FX.2.1 dL_fromPlain_18 (by decide) ?_
    exact retJi () FX hr hlk dL_fromPlain_19 rfl (by rw [show hf_fromPlain b1 p1 f g = wf_X0_fromPlain b1 p1 f g from if_pos hE, show hn_fromPlain b1 p1 f g n0 = (v_X0_fromPlain b1 p1 f g).toInt64 from if_pos hE]; exact hP) hK (by rw [show hf_fromPlain b1 p1 f g = wf_X0_fromPlain b1 p1 f g from if_pos hE, show hn_fromPlain b1 p1 f g n0 = (v_X0_fromPlain b1 p1 f g).toInt64 from if_pos hE]; exact hD) hS (by decide) (by decide) (by rw [hk_fromPlain, if_pos hE]) trivial
  · rcases (ev_fromPlain b1 p1) with hV | hV
    · exact absurd hV hE
    · refine c_XV1 (i0 := 0) (ci := 2) (k2 := 1) (h1 := (0, 11, 14, 19)) (hs := []) FX (x_X0_fromPlain l hl0 D cI cB x bx px t f g ak su gt lf rf kn b1 p1 hE) hV mi_X0_fromPlain rfl ml_RL_110 (RMok.mk) hl.1 rfl (Nat.le_of_ble_eq_true rfl) dL_fromPlain_4 (by decide) hK hP hA [0, 1, 2] rfl rfl rfl rfl hz.1.1 htb (by decide) (by decide) cl_RL_19 (by decide) (fun q9 H locs hP hS => ?_)
      refine lv_astore (lv' := [(4, .ref q9), (0, .ref x), (1, .int b1), (2, .int p1), (3, .ref q)]) FX.1 FX.2.1 dL_fromPlain_14 hl (by decide) rfl (fun ls hl => ?_)
      refine lv_iconst (v := 1) FX.1 FX.2.1 dL_fromPlain_16 (by decide) ?_
      exact retJi () FX hr hlk dL_fromPlain_17 rfl (by rw [show hf_fromPlain b1 p1 f g = f from if_neg hE, show hn_fromPlain b1 p1 f g n0 = n0 from if_neg hE]; exact hP) hK (by rw [show hf_fromPlain b1 p1 f g = f from if_neg hE, show hn_fromPlain b1 p1 f g n0 = n0 from if_neg hE]; exact hD) hS (by decide) (by decide) (by rw [hk_fromPlain, if_neg hE]) trivial
def hk_areLike (b1 : Int32) (b2 : Int32) : Int32 := if e_X0_areLike b1 b2 = 0 then 0 else 1
theorem ev_areLike (b1 : Int32) (b2 : Int32) : e_X0_areLike b1 b2 = 0 ∨ e_X0_areLike b1 b2 = 1 := by
  unfold e_X0_areLike
  repeat' split
  all_goals first | exact Or.inl rfl | exact (rg_X0_needBox _) | exact (rg_X0_needPlain _) | exact Or.inr rfl
def hn_areLike (b1 : Int32) (b2 : Int32) (f : Nat → Int32) (n0 : Int64) : Int64 := if e_X0_areLike b1 b2 = 0 then (if v_X0_areLike b1 b2 f = 0 then 0 else 1) else n0
set_option maxRecDepth 100000 in
set_option maxHeartbeats 4000000 in
theorem j_L_areLike (l : Launch) (hl0 : l.stackTraces = false) (D : va_G) (cI cB : ClassId) (x bx px t : Nat) (f g : Nat → Int32) (ak su gt lf rf kn : Int32) (q : Nat) (n0 : Int64) (sv : Value) (b1 : Int32) (b2 : Int32) : JH (S := Unit) l yL_areLike cL_areLike 5 (some .int) [(0, 18, 21, 19)] ({ frames := 8, cells := 1, slots := 6, locals := 132 } : Room) D cI cB [.ref x, .int b1, .int b2, .ref q] [(x, .inr (2, [.ref bx, .ref px, .ref t, .int ak, .int su, .int gt, .int lf, .int rf, .int kn])), (bx, .inl (cI, 6, .inl f)), (px, .inl (cI, 2, .inl g)), (q, .inr (3, [.long n0, sv]))] (zAnd (zAnd zz zN) (zF RL 13 RX1 "n" "J" RL)) (fun _ => some (.int (hk_areLike b1 b2))) (fun _ => True) (fun _ => [(x, .inr (2, [.ref bx, .ref px, .ref t, .int ak, .int su, .int gt, .int lf, .int rf, .int kn])), (bx, .inl (cI, 6, .inl f)), (px, .inl (cI, 2, .inl g)), (q, .inr (3, [.long (hn_areLike b1 b2 f n0), sv]))]) 1 6 := by
  refine bodyJH (by decide +kernel) (Nat.le_of_ble_eq_true rfl) (fun p e s m args below meth c ls A ZZ => ?_)
  obtain ⟨FX, hr, hlk, hK, hP, hD, hS, hA, hz, htb, hl⟩ := ZZ
  have hl : lv_has ls 5 [(0, .ref x), (1, .int b1), (2, .int b2), (3, .ref q)] := hl
  have hP : va_P D KL [(x, .inr (2, [.ref bx, .ref px, .ref t, .int ak, .int su, .int gt, .int lf, .int rf, .int kn])), (bx, .inl (cI, 6, .inl f)), (px, .inl (cI, 2, .inl g)), (q, .inr (3, [.long n0, sv]))] s.heap := hP
  refine lv_aload_n FX.1 FX.2.1 dL_areLike_0 rfl (lv_at hl 3 rfl) ?_
  refine lv_aload_n FX.1 FX.2.1 dL_areLike_1 rfl (lv_at hl 0 rfl) ?_
  refine lv_iload_n FX.1 FX.2.1 dL_areLike_2 rfl (lv_at hl 1 rfl) ?_
  refine lv_iload_n FX.1 FX.2.1 dL_areLike_3 rfl (lv_at hl 2 rfl) ?_
  by_cases hE : e_X0_areLike b1 b2 = 0
  · have q_1 : (e_X0_areLike b1 b2) = 0 := hE
    refine c_RDV (i0 := 0) (ci := 2) FX (r_X0_areLike l D cI cB x bx px t f g ak su gt lf rf kn b1 b2 q_1) mi_X0_areLike rfl ml_RL_113 (RMok.mk) hl.1 rfl (Nat.le_of_ble_eq_true rfl) dL_areLike_4 (by decide) hK hP [0, 1, 2] rfl rfl rfl rfl ?_
    refine lv_if_eq (tgt := 14) FX.1 FX.2.1 dL_areLike_7 (by decide) (fun c_2 => ?_) (fun c_2 => ?_)
    · refine lv_lconst (v := 0) FX.1 FX.2.1 dL_areLike_14 (by decide) ?_
      refine p_putN (wsN := [(x, .inr (2, [.ref bx, .ref px, .ref t, .int ak, .int su, .int gt, .int lf, .int rf, .int kn])), (bx, .inl (cI, 6, .inl f)), (px, .inl (cI, 2, .inl g)), (q, .inr (3, [.long 0, sv]))]) (ci := 3) (v := .long 0) (ty := .long) FX inX1 tyX1_ok nmX1 hK hP hD hS 3 rfl rfl 0 (by decide) hz.2 rfl (by decide +kernel) rfl rfl (Nat.le_of_ble_eq_true rfl) dL_areLike_15 rfl (fun H locs hP hD hS => ?_)
      refine lv_goto (tgt := 25) FX.1 FX.2.1 dL_areLike_18 (by decide) ?_
      refine lv_iconst (v := 0) FX.1 FX.2.1 dL_areLike_25 (by decide) ?_
      exact retJi () FX hr hlk dL_areLike_26 rfl (by rw [show hn_areLike b1 b2 f n0 = 0 from (if_pos hE).trans (if_pos c_2)]; exact hP) hK (by rw [show hn_areLike b1 b2 f n0 = 0 from (if_pos hE).trans (if_pos c_2)]; exact hD) hS (by decide) (by decide) (by rw [hk_areLike, if_pos hE]) trivial
    · refine lv_lconst (v := 1) FX.1 FX.2.1 dL_areLike_10 (by decide) ?_
      refine lv_goto (tgt := 15) FX.1 FX.2.1 dL_areLike_11 (by decide) ?_
      refine p_putN (wsN := [(x, .inr (2, [.ref bx, .ref px, .ref t, .int ak, .int su, .int gt, .int lf, .int rf, .int kn])), (bx, .inl (cI, 6, .inl f)), (px, .inl (cI, 2, .inl g)), (q, .inr (3, [.long 1, sv]))]) (ci := 3) (v := .long 1) (ty := .long) FX inX1 tyX1_ok nmX1 hK hP hD hS 3 rfl rfl 0 (by decide) hz.2 rfl (by decide +kernel) rfl rfl (Nat.le_of_ble_eq_true rfl) dL_areLike_15 rfl (fun H locs hP hD hS => ?_)
      refine lv_goto (tgt := 25) FX.1 FX.2.1 dL_areLike_18 (by decide) ?_
      refine lv_iconst (v := 0) FX.1 FX.2.1 dL_areLike_25 (by decide) ?_
      exact retJi () FX hr hlk dL_areLike_26 rfl (by rw [show hn_areLike b1 b2 f n0 = 1 from (if_pos hE).trans (if_neg c_2)]; exact hP) hK (by rw [show hn_areLike b1 b2 f n0 = 1 from (if_pos hE).trans (if_neg c_2)]; exact hD) hS (by decide) (by decide) (by rw [hk_areLike, if_pos hE]) trivial
  · rcases (ev_areLike b1 b2) with hV | hV
    · exact absurd hV hE
    · refine c_XV1 (i0 := 0) (ci := 2) (k2 := 1) (h1 := (0, 18, 21, 19)) (hs := []) FX (x_X0_areLike l hl0 D cI cB x bx px t f g ak su gt lf rf kn b1 b2 hE) hV mi_X0_areLike rfl ml_RL_113 (RMok.mk) hl.1 rfl (Nat.le_of_ble_eq_true rfl) dL_areLike_4 (by decide) hK hP hA [0, 1, 2] rfl rfl rfl rfl hz.1.1 htb (by decide) (by decide) cl_RL_19 (by decide) (fun q9 H locs hP hS => ?_)
      refine lv_astore (lv' := [(4, .ref q9), (0, .ref x), (1, .int b1), (2, .int b2), (3, .ref q)]) FX.1 FX.2.1 dL_areLike_21 hl (by decide) rfl (fun ls hl => ?_)
      refine lv_iconst (v := 1) FX.1 FX.2.1 dL_areLike_23 (by decide) ?_
      exact retJi () FX hr hlk dL_areLike_24 rfl (by rw [show hn_areLike b1 b2 f n0 = n0 from if_neg hE]; exact hP) hK (by rw [show hn_areLike b1 b2 f n0 = n0 from if_neg hE]; exact hD) hS (by decide) (by decide) (by rw [hk_areLike, if_neg hE]) trivial
def hk_compare (b1 : Int32) (b2 : Int32) (k1 : Int32) : Int32 := if e_X0_compare b1 b2 k1 = 0 then 0 else if e_X0_compare b1 b2 k1 = 1 then 1 else 2
theorem ev_compare (b1 : Int32) (b2 : Int32) (k1 : Int32) : e_X0_compare b1 b2 k1 = 0 ∨ e_X0_compare b1 b2 k1 = 1 ∨ e_X0_compare b1 b2 k1 = 2 := by
  unfold e_X0_compare
  repeat' split
  all_goals first | exact Or.inl rfl | exact r21 (rg_X0_needBox _) | exact r21 (rg_X0_needPlain _) | exact r22 (rg_X0_needNumber _) | exact r22 (rg_X0_needKind _ _) | exact Or.inr (Or.inl rfl) | exact Or.inr (Or.inr rfl)
def hn_compare (b1 : Int32) (b2 : Int32) (k1 : Int32) (f : Nat → Int32) (n0 : Int64) : Int64 := if e_X0_compare b1 b2 k1 = 0 then (v_X0_compare b1 b2 k1 f).toInt64 else n0
set_option maxRecDepth 100000 in
set_option maxHeartbeats 4000000 in
theorem j_L_compare (l : Launch) (hl0 : l.stackTraces = false) (D : va_G) (cI cB : ClassId) (x bx px t : Nat) (f g : Nat → Int32) (ak su gt lf rf kn : Int32) (q : Nat) (n0 : Int64) (sv : Value) (b1 : Int32) (b2 : Int32) (k1 : Int32) : JH (S := Unit) l yL_compare cL_compare 6 (some .int) [(0, 13, 16, 19), (0, 13, 20, 21)] ({ frames := 8, cells := 1, slots := 6, locals := 136 } : Room) D cI cB [.ref x, .int b1, .int b2, .int k1, .ref q] [(x, .inr (2, [.ref bx, .ref px, .ref t, .int ak, .int su, .int gt, .int lf, .int rf, .int kn])), (bx, .inl (cI, 6, .inl f)), (px, .inl (cI, 2, .inl g)), (q, .inr (3, [.long n0, sv]))] (zAnd (zAnd zz zN) (zF RL 13 RX1 "n" "J" RL)) (fun _ => some (.int (hk_compare b1 b2 k1))) (fun _ => True) (fun _ => [(x, .inr (2, [.ref bx, .ref px, .ref t, .int ak, .int su, .int gt, .int lf, .int rf, .int kn])), (bx, .inl (cI, 6, .inl f)), (px, .inl (cI, 2, .inl g)), (q, .inr (3, [.long (hn_compare b1 b2 k1 f n0), sv]))]) 1 6 := by
  refine bodyJH (by decide +kernel) (Nat.le_of_ble_eq_true rfl) (fun p e s m args below meth c ls A ZZ => ?_)
  obtain ⟨FX, hr, hlk, hK, hP, hD, hS, hA, hz, htb, hl⟩ := ZZ
  have hl : lv_has ls 6 [(0, .ref x), (1, .int b1), (2, .int b2), (3, .int k1), (4, .ref q)] := hl
  have hP : va_P D KL [(x, .inr (2, [.ref bx, .ref px, .ref t, .int ak, .int su, .int gt, .int lf, .int rf, .int kn])), (bx, .inl (cI, 6, .inl f)), (px, .inl (cI, 2, .inl g)), (q, .inr (3, [.long n0, sv]))] s.heap := hP
  refine lv_aload FX.1 FX.2.1 dL_compare_0 (lv_at hl 4 rfl) ?_
  refine lv_aload_n FX.1 FX.2.1 dL_compare_2 rfl (lv_at hl 0 rfl) ?_
  refine lv_iload_n FX.1 FX.2.1 dL_compare_3 rfl (lv_at hl 1 rfl) ?_
  refine lv_iload_n FX.1 FX.2.1 dL_compare_4 rfl (lv_at hl 2 rfl) ?_
  refine lv_iload_n FX.1 FX.2.1 dL_compare_5 rfl (lv_at hl 3 rfl) ?_
  by_cases hE : e_X0_compare b1 b2 k1 = 0
  · have q_1 : (e_X0_compare b1 b2 k1) = 0 := hE
    refine c_RDV (i0 := 0) (ci := 2) FX (r_X0_compare l D cI cB x bx px t f g ak su gt lf rf kn b1 b2 k1 q_1) mi_X0_compare rfl ml_RL_116 (RMok.mk) hl.1 rfl (Nat.le_of_ble_eq_true rfl) dL_compare_6 (by decide) hK hP [0, 1, 2] rfl rfl rfl rfl ?_
    refine lv_i2l (v := (v_X0_compare b1 b2 k1 f).toInt64) FX.1 FX.2.1 dL_compare_9 rfl ?_
    refine p_putN (wsN := [(x, .inr (2, [.ref bx, .ref px, .ref t, .int ak, .int su, .int gt, .int lf, .int rf, .int kn])), (bx, .inl (cI, 6, .inl f)), (px, .inl (cI, 2, .inl g)), (q, .inr (3, [.long ((v_X0_compare b1 b2 k1 f).toInt64), sv]))]) (ci := 3) (v := .long ((v_X0_compare b1 b2 k1 f).toInt64)) (ty := .long) FX inX1 tyX1_ok nmX1 hK hP hD hS 3 rfl rfl 0 (by decide) hz.2 rfl (by decide +kernel) rfl rfl (Nat.le_of_ble_eq_true rfl) dL_compare_10 rfl (fun H locs hP hD hS => ?_)
    refine lv_goto (tgt := 24) FX.1 FX.2.1 dL_compare_13 (by decide) ?_
    refine lv_iconst (v := 0) FX.1 FX.2.1 dL_compare_24 (by decide) ?_
    exact retJi () FX hr hlk dL_compare_25 rfl (by rw [show hn_compare b1 b2 k1 f n0 = (v_X0_compare b1 b2 k1 f).toInt64 from if_pos hE]; exact hP) hK (by rw [show hn_compare b1 b2 k1 f n0 = (v_X0_compare b1 b2 k1 f).toInt64 from if_pos hE]; exact hD) hS (by decide) (by decide) (by rw [hk_compare, if_pos hE]) trivial
  · rcases (ev_compare b1 b2 k1) with hV | hV | hV
    · exact absurd hV hE
    · refine c_XV1 (i0 := 0) (ci := 2) (k2 := 1) (h1 := (0, 13, 16, 19)) (hs := [(0, 13, 20, 21)]) FX (x_X0_compare l hl0 D cI cB x bx px t f g ak su gt lf rf kn b1 b2 k1 hE) hV mi_X0_compare rfl ml_RL_116 (RMok.mk) hl.1 rfl (Nat.le_of_ble_eq_true rfl) dL_compare_6 (by decide) hK hP hA [0, 1, 2] rfl rfl rfl rfl hz.1.1 htb (by decide) (by decide) cl_RL_19 (by decide) (fun q9 H locs hP hS => ?_)
      refine lv_astore (lv' := [(5, .ref q9), (0, .ref x), (1, .int b1), (2, .int b2), (3, .int k1), (4, .ref q)]) FX.1 FX.2.1 dL_compare_16 hl (by decide) rfl (fun ls hl => ?_)
      refine lv_iconst (v := 1) FX.1 FX.2.1 dL_compare_18 (by decide) ?_
      exact retJi () FX hr hlk dL_compare_19 rfl (by rw [show hn_compare b1 b2 k1 f n0 = n0 from if_neg hE]; exact hP) hK (by rw [show hn_compare b1 b2 k1 f n0 = n0 from if_neg hE]; exact hD) hS (by decide) (by decide) (by rw [hk_compare, if_neg hE, if_pos hV]) trivial
    · refine c_XV2 (i0 := 0) (ci := 2) (k1 := 1) (k2 := 2) (h1 := (0, 13, 16, 19)) (h2 := (0, 13, 20, 21)) (hs := []) FX (x_X0_compare l hl0 D cI cB x bx px t f g ak su gt lf rf kn b1 b2 k1 hE) hV mi_X0_compare rfl ml_RL_116 (RMok.mk) hl.1 rfl (Nat.le_of_ble_eq_true rfl) dL_compare_6 (by decide) hK hP hA [0, 1, 2] rfl rfl rfl rfl hz.1.1 hz.1.2 htb (by decide) cl_RL_19 (by decide) (by decide) (by decide) cl_RL_21 (by decide) (fun q9 H locs hP hS => ?_)
      refine lv_astore (lv' := [(5, .ref q9), (0, .ref x), (1, .int b1), (2, .int b2), (3, .int k1), (4, .ref q)]) FX.1 FX.2.1 dL_compare_20 hl (by decide) rfl (fun ls hl => ?_)
      refine lv_iconst (v := 2) FX.1 FX.2.1 dL_compare_22 (by decide) ?_
      exact retJi () FX hr hlk dL_compare_23 rfl (by rw [show hn_compare b1 b2 k1 f n0 = n0 from if_neg hE]; exact hP) hK (by rw [show hn_compare b1 b2 k1 f n0 = n0 from if_neg hE]; exact hD) hS (by decide) (by decide) (by rw [hk_compare, if_neg hE, if_neg (by rw [hV]; decide)]) trivial
def hk_codes (b1 : Int32) (b2 : Int32) (b3 : Int32) : Int32 := if e_X0_codes b1 b2 b3 = 0 then 0 else 1
theorem ev_codes (b1 : Int32) (b2 : Int32) (b3 : Int32) : e_X0_codes b1 b2 b3 = 0 ∨ e_X0_codes b1 b2 b3 = 1 := by
  unfold e_X0_codes
  repeat' split
  all_goals first | exact Or.inl rfl | exact (rg_X0_needBox _) | exact (rg_X0_needPlain _) | exact Or.inr rfl
def hn_codes (b1 : Int32) (b2 : Int32) (b3 : Int32) (f : Nat → Int32) (n0 : Int64) : Int64 := if e_X0_codes b1 b2 b3 = 0 then (v_X0_codes b1 b2 b3 f).toInt64 else n0
set_option maxRecDepth 100000 in
set_option maxHeartbeats 4000000 in
theorem j_L_codes (l : Launch) (hl0 : l.stackTraces = false) (D : va_G) (cI cB : ClassId) (x bx px t : Nat) (f g : Nat → Int32) (ak su gt lf rf kn : Int32) (q : Nat) (n0 : Int64) (sv : Value) (b1 : Int32) (b2 : Int32) (b3 : Int32) : JH (S := Unit) l yL_codes cL_codes 6 (some .int) [(0, 13, 16, 19)] ({ frames := 8, cells := 1, slots := 6, locals := 134 } : Room) D cI cB [.ref x, .int b1, .int b2, .int b3, .ref q] [(x, .inr (2, [.ref bx, .ref px, .ref t, .int ak, .int su, .int gt, .int lf, .int rf, .int kn])), (bx, .inl (cI, 6, .inl f)), (px, .inl (cI, 2, .inl g)), (q, .inr (3, [.long n0, sv]))] (zAnd (zAnd zz zN) (zF RL 13 RX1 "n" "J" RL)) (fun _ => some (.int (hk_codes b1 b2 b3))) (fun _ => True) (fun _ => [(x, .inr (2, [.ref bx, .ref px, .ref t, .int ak, .int su, .int gt, .int lf, .int rf, .int kn])), (bx, .inl (cI, 6, .inl f)), (px, .inl (cI, 2, .inl g)), (q, .inr (3, [.long (hn_codes b1 b2 b3 f n0), sv]))]) 1 6 := by
  refine bodyJH (by decide +kernel) (Nat.le_of_ble_eq_true rfl) (fun p e s m args below meth c ls A ZZ => ?_)
  obtain ⟨FX, hr, hlk, hK, hP, hD, hS, hA, hz, htb, hl⟩ := ZZ
  have hl : lv_has ls 6 [(0, .ref x), (1, .int b1), (2, .int b2), (3, .int b3), (4, .ref q)] := hl
  have hP : va_P D KL [(x, .inr (2, [.ref bx, .ref px, .ref t, .int ak, .int su, .int gt, .int lf, .int rf, .int kn])), (bx, .inl (cI, 6, .inl f)), (px, .inl (cI, 2, .inl g)), (q, .inr (3, [.long n0, sv]))] s.heap := hP
  refine lv_aload FX.1 FX.2.1 dL_codes_0 (lv_at hl 4 rfl) ?_
  refine lv_aload_n FX.1 FX.2.1 dL_codes_2 rfl (lv_at hl 0 rfl) ?_
  refine lv_iload_n FX.1 FX.2.1 dL_codes_3 rfl (lv_at hl 1 rfl) ?_
  refine lv_iload_n FX.1 FX.2.1 dL_codes_4 rfl (lv_at hl 2 rfl) ?_
  refine lv_iload_n FX.1 FX.2.1 dL_codes_5 rfl (lv_at hl 3 rfl) ?_
  by_cases hE : e_X0_codes b1 b2 b3 = 0
  · have q_1 : (e_X0_codes b1 b2 b3) = 0 := hE
    refine c_RDV (i0 := 0) (ci := 2) FX (r_X0_codes l D cI cB x bx px t f g ak su gt lf rf kn b1 b2 b3 q_1) mi_X0_codes rfl ml_RL_119 (RMok.mk) hl.1 rfl (Nat.le_of_ble_eq_true rfl) dL_codes_6 (by decide) hK hP [0, 1, 2] rfl rfl rfl rfl ?_
    refine lv_i2l (v := (v_X0_codes b1 b2 b3 f).toInt64) FX.1 FX.2.1 dL_codes_9 rfl ?_
    refine p_putN (wsN := [(x, .inr (2, [.ref bx, .ref px, .ref t, .int ak, .int su, .int gt, .int lf, .int rf, .int kn])), (bx, .inl (cI, 6, .inl f)), (px, .inl (cI, 2, .inl g)), (q, .inr (3, [.long ((v_X0_codes b1 b2 b3 f).toInt64), sv]))]) (ci := 3) (v := .long ((v_X0_codes b1 b2 b3 f).toInt64)) (ty := .long) FX inX1 tyX1_ok nmX1 hK hP hD hS 3 rfl rfl 0 (by decide) hz.2 rfl (by decide +kernel) rfl rfl (Nat.le_of_ble_eq_true rfl) dL_codes_10 rfl (fun H locs hP hD hS => ?_)
    refine lv_goto (tgt := 20) FX.1 FX.2.1 dL_codes_13 (by decide) ?_
    refine lv_iconst (v := 0) FX.1 FX.2.1 dL_codes_20 (by decide) ?_
    exact retJi () FX hr hlk dL_codes_21 rfl (by rw [show hn_codes b1 b2 b3 f n0 = (v_X0_codes b1 b2 b3 f).toInt64 from if_pos hE]; exact hP) hK (by rw [show hn_codes b1 b2 b3 f n0 = (v_X0_codes b1 b2 b3 f).toInt64 from if_pos hE]; exact hD) hS (by decide) (by decide) (by rw [hk_codes, if_pos hE]) trivial
  · rcases (ev_codes b1 b2 b3) with hV | hV
    · exact absurd hV hE
    · refine c_XV1 (i0 := 0) (ci := 2) (k2 := 1) (h1 := (0, 13, 16, 19)) (hs := []) FX (x_X0_codes l hl0 D cI cB x bx px t f g ak su gt lf rf kn b1 b2 b3 hE) hV mi_X0_codes rfl ml_RL_119 (RMok.mk) hl.1 rfl (Nat.le_of_ble_eq_true rfl) dL_codes_6 (by decide) hK hP hA [0, 1, 2] rfl rfl rfl rfl hz.1.1 htb (by decide) (by decide) cl_RL_19 (by decide) (fun q9 H locs hP hS => ?_)
      refine lv_astore (lv' := [(5, .ref q9), (0, .ref x), (1, .int b1), (2, .int b2), (3, .int b3), (4, .ref q)]) FX.1 FX.2.1 dL_codes_16 hl (by decide) rfl (fun ls hl => ?_)
      refine lv_iconst (v := 1) FX.1 FX.2.1 dL_codes_18 (by decide) ?_
      exact retJi () FX hr hlk dL_codes_19 rfl (by rw [show hn_codes b1 b2 b3 f n0 = n0 from if_neg hE]; exact hP) hK (by rw [show hn_codes b1 b2 b3 f n0 = n0 from if_neg hE]; exact hD) hS (by decide) (by decide) (by rw [hk_codes, if_neg hE]) trivial
def hk_codeOf (b1 : Int32) : Int32 := if e_X0_codeOf b1 = 0 then 0 else 1
theorem ev_codeOf (b1 : Int32) : e_X0_codeOf b1 = 0 ∨ e_X0_codeOf b1 = 1 := by
  unfold e_X0_codeOf
  repeat' split
  all_goals first | exact Or.inl rfl | exact (rg_X0_needBox _) | exact (rg_X0_needPlain _) | exact Or.inr rfl
def hn_codeOf (b1 : Int32) (f : Nat → Int32) (n0 : Int64) : Int64 := if e_X0_codeOf b1 = 0 then (v_X0_codeOf b1 f).toInt64 else n0
set_option maxRecDepth 100000 in
set_option maxHeartbeats 4000000 in
theorem j_L_codeOf (l : Launch) (hl0 : l.stackTraces = false) (D : va_G) (cI cB : ClassId) (x bx px t : Nat) (f g : Nat → Int32) (ak su gt lf rf kn : Int32) (q : Nat) (n0 : Int64) (sv : Value) (b1 : Int32) : JH (S := Unit) l yL_codeOf cL_codeOf 4 (some .int) [(0, 10, 13, 19)] ({ frames := 8, cells := 1, slots := 6, locals := 131 } : Room) D cI cB [.ref x, .int b1, .ref q] [(x, .inr (2, [.ref bx, .ref px, .ref t, .int ak, .int su, .int gt, .int lf, .int rf, .int kn])), (bx, .inl (cI, 6, .inl f)), (px, .inl (cI, 2, .inl g)), (q, .inr (3, [.long n0, sv]))] (zAnd (zAnd zz zN) (zF RL 13 RX1 "n" "J" RL)) (fun _ => some (.int (hk_codeOf b1))) (fun _ => True) (fun _ => [(x, .inr (2, [.ref bx, .ref px, .ref t, .int ak, .int su, .int gt, .int lf, .int rf, .int kn])), (bx, .inl (cI, 6, .inl f)), (px, .inl (cI, 2, .inl g)), (q, .inr (3, [.long (hn_codeOf b1 f n0), sv]))]) 1 6 := by
  refine bodyJH (by decide +kernel) (Nat.le_of_ble_eq_true rfl) (fun p e s m args below meth c ls A ZZ => ?_)
  obtain ⟨FX, hr, hlk, hK, hP, hD, hS, hA, hz, htb, hl⟩ := ZZ
  have hl : lv_has ls 4 [(0, .ref x), (1, .int b1), (2, .ref q)] := hl
  have hP : va_P D KL [(x, .inr (2, [.ref bx, .ref px, .ref t, .int ak, .int su, .int gt, .int lf, .int rf, .int kn])), (bx, .inl (cI, 6, .inl f)), (px, .inl (cI, 2, .inl g)), (q, .inr (3, [.long n0, sv]))] s.heap := hP
  refine lv_aload_n FX.1 FX.2.1 dL_codeOf_0 rfl (lv_at hl 2 rfl) ?_
  refine lv_aload_n FX.1 FX.2.1 dL_codeOf_1 rfl (lv_at hl 0 rfl) ?_
  refine lv_iload_n FX.1 FX.2.1 dL_codeOf_2 rfl (lv_at hl 1 rfl) ?_
  by_cases hE : e_X0_codeOf b1 = 0
  · have q_1 : (e_X0_codeOf b1) = 0 := hE
    refine c_RDV (i0 := 0) (ci := 2) FX (r_X0_codeOf l D cI cB x bx px t f g ak su gt lf rf kn b1 q_1) mi_X0_codeOf rfl ml_RL_122 (RMok.mk) hl.1 rfl (Nat.le_of_ble_eq_true rfl) dL_codeOf_3 (by decide) hK hP [0, 1, 2] rfl rfl rfl rfl ?_
    refine lv_i2l (v := (v_X0_codeOf b1 f).toInt64) FX.1 FX.2.1 dL_codeOf_6 rfl ?_
    refine p_putN (wsN := [(x, .inr (2, [.ref bx, .ref px, .ref t, .int ak, .int su, .int gt, .int lf, .int rf, .int kn])), (bx, .inl (cI, 6, .inl f)), (px, .inl (cI, 2, .inl g)), (q, .inr (3, [.long ((v_X0_codeOf b1 f).toInt64), sv]))]) (ci := 3) (v := .long ((v_X0_codeOf b1 f).toInt64)) (ty := .long) FX inX1 tyX1_ok nmX1 hK hP hD hS 3 rfl rfl 0 (by decide) hz.2 rfl (by decide +kernel) rfl rfl (Nat.le_of_ble_eq_true rfl) dL_codeOf_7 rfl (fun H locs hP hD hS => ?_)
    refine lv_goto (tgt := 16) FX.1 FX.2.1 dL_codeOf_10 (by decide) ?_
    refine lv_iconst (v := 0) FX.1 FX.2.1 dL_codeOf_16 (by decide) ?_
    exact retJi () FX hr hlk dL_codeOf_17 rfl (by rw [show hn_codeOf b1 f n0 = (v_X0_codeOf b1 f).toInt64 from if_pos hE]; exact hP) hK (by rw [show hn_codeOf b1 f n0 = (v_X0_codeOf b1 f).toInt64 from if_pos hE]; exact hD) hS (by decide) (by decide) (by rw [hk_codeOf, if_pos hE]) trivial
  · rcases (ev_codeOf b1) with hV | hV
    · exact absurd hV hE
    · refine c_XV1 (i0 := 0) (ci := 2) (k2 := 1) (h1 := (0, 10, 13, 19)) (hs := []) FX (x_X0_codeOf l hl0 D cI cB x bx px t f g ak su gt lf rf kn b1 hE) hV mi_X0_codeOf rfl ml_RL_122 (RMok.mk) hl.1 rfl (Nat.le_of_ble_eq_true rfl) dL_codeOf_3 (by decide) hK hP hA [0, 1, 2] rfl rfl rfl rfl hz.1.1 htb (by decide) (by decide) cl_RL_19 (by decide) (fun q9 H locs hP hS => ?_)
      refine lv_astore_n (lv' := [(3, .ref q9), (0, .ref x), (1, .int b1), (2, .ref q)]) FX.1 FX.2.1 dL_codeOf_13 rfl hl (by decide) rfl (fun ls hl => ?_)
      refine lv_iconst (v := 1) FX.1 FX.2.1 dL_codeOf_14 (by decide) ?_
      exact retJi () FX hr hlk dL_codeOf_15 rfl (by rw [show hn_codeOf b1 f n0 = n0 from if_neg hE]; exact hP) hK (by rw [show hn_codeOf b1 f n0 = n0 from if_neg hE]; exact hD) hS (by decide) (by decide) (by rw [hk_codeOf, if_neg hE]) trivial
def hk_must (b1 : Int32) : Int32 := if e_X0_must b1 = 0 then 0 else 1
theorem ev_must (b1 : Int32) : e_X0_must b1 = 0 ∨ e_X0_must b1 = 1 := by
  unfold e_X0_must
  repeat' split
  all_goals first | exact Or.inl rfl | exact (rg_X0_needBox _) | exact (rg_X0_needPlain _) | exact Or.inr rfl
def hrf_must (b1 : Int32) (f : Nat → Int32) (rf : Int32) : Int32 := if e_X0_must b1 = 0 then wrf_X0_must b1 f rf else rf
def hn_must (b1 : Int32) (f : Nat → Int32) (n0 : Int64) : Int64 := if e_X0_must b1 = 0 then (v_X0_must b1 f).toInt64 else n0
set_option maxRecDepth 100000 in
set_option maxHeartbeats 4000000 in
theorem j_L_must (l : Launch) (hl0 : l.stackTraces = false) (D : va_G) (cI cB : ClassId) (x bx px t : Nat) (f g : Nat → Int32) (ak su gt lf rf kn : Int32) (q : Nat) (n0 : Int64) (sv : Value) (b1 : Int32) : JH (S := Unit) l yL_must cL_must 4 (some .int) [(0, 10, 13, 19)] ({ frames := 8, cells := 1, slots := 6, locals := 131 } : Room) D cI cB [.ref x, .int b1, .ref q] [(x, .inr (2, [.ref bx, .ref px, .ref t, .int ak, .int su, .int gt, .int lf, .int rf, .int kn])), (bx, .inl (cI, 6, .inl f)), (px, .inl (cI, 2, .inl g)), (q, .inr (3, [.long n0, sv]))] (zAnd (zAnd zz zN) (zF RL 13 RX1 "n" "J" RL)) (fun _ => some (.int (hk_must b1))) (fun _ => True) (fun _ => [(x, .inr (2, [.ref bx, .ref px, .ref t, .int ak, .int su, .int gt, .int lf, .int (hrf_must b1 f rf), .int kn])), (bx, .inl (cI, 6, .inl f)), (px, .inl (cI, 2, .inl g)), (q, .inr (3, [.long (hn_must b1 f n0), sv]))]) 1 6 := by
  refine bodyJH (by decide +kernel) (Nat.le_of_ble_eq_true rfl) (fun p e s m args below meth c ls A ZZ => ?_)
  obtain ⟨FX, hr, hlk, hK, hP, hD, hS, hA, hz, htb, hl⟩ := ZZ
  have hl : lv_has ls 4 [(0, .ref x), (1, .int b1), (2, .ref q)] := hl
  have hP : va_P D KL [(x, .inr (2, [.ref bx, .ref px, .ref t, .int ak, .int su, .int gt, .int lf, .int rf, .int kn])), (bx, .inl (cI, 6, .inl f)), (px, .inl (cI, 2, .inl g)), (q, .inr (3, [.long n0, sv]))] s.heap := hP
  refine lv_aload_n FX.1 FX.2.1 dL_must_0 rfl (lv_at hl 2 rfl) ?_
  refine lv_aload_n FX.1 FX.2.1 dL_must_1 rfl (lv_at hl 0 rfl) ?_
  refine lv_iload_n FX.1 FX.2.1 dL_must_2 rfl (lv_at hl 1 rfl) ?_
  by_cases hE : e_X0_must b1 = 0
  · have q_1 : (e_X0_must b1) = 0 := hE
    refine c_WRV (wr := [(q, .inr (3, [.long n0, sv]))]) (wsN := [(x, .inr (2, [.ref bx, .ref px, .ref t, .int ak, .int su, .int gt, .int lf, .int (wrf_X0_must b1 f rf), .int kn])), (bx, .inl (cI, 6, .inl f)), (px, .inl (cI, 2, .inl g)), (q, .inr (3, [.long n0, sv]))]) (i0 := 0) (ci := 2) FX (k_X0_must l D cI cB x bx px t f g ak su gt lf rf kn b1 q_1) mi_X0_must rfl ml_RL_125 (RMok.mk) hl.1 rfl (Nat.le_of_ble_eq_true rfl) dL_must_3 (by decide) hK hP hD hS hA [0, 1, 2] rfl [3] rfl rfl (by decide) [1, 2, 3, 0] rfl rfl rfl rfl rfl (fun H locs hP hD hS => ?_)
    refine lv_i2l (v := (v_X0_must b1 f).toInt64) FX.1 FX.2.1 dL_must_6 rfl ?_
    refine p_putN (wsN := [(x, .inr (2, [.ref bx, .ref px, .ref t, .int ak, .int su, .int gt, .int lf, .int (wrf_X0_must b1 f rf), .int kn])), (bx, .inl (cI, 6, .inl f)), (px, .inl (cI, 2, .inl g)), (q, .inr (3, [.long ((v_X0_must b1 f).toInt64), sv]))]) (ci := 3) (v := .long ((v_X0_must b1 f).toInt64)) (ty := .long) FX inX1 tyX1_ok nmX1 hK hP hD hS 3 rfl rfl 0 (by decide) hz.2 rfl (by decide +kernel) rfl rfl (Nat.le_of_ble_eq_true rfl) dL_must_7 rfl (fun H locs hP hD hS => ?_)
    refine lv_goto (tgt := 16) FX.1 FX.2.1 dL_must_10 (by decide) ?_
    refine lv_iconst (v := 0) FX.1 FX.2.1 dL_must_16 (by decide) ?_
    exact retJi () FX hr hlk dL_must_17 rfl (by rw [show hrf_must b1 f rf = wrf_X0_must b1 f rf from if_pos hE, show hn_must b1 f n0 = (v_X0_must b1 f).toInt64 from if_pos hE]; exact hP) hK (by rw [show hrf_must b1 f rf = wrf_X0_must b1 f rf from if_pos hE, show hn_must b1 f n0 = (v_X0_must b1 f).toInt64 from if_pos hE]; exact hD) hS (by decide) (by decide) (by rw [hk_must, if_pos hE]) trivial
  · rcases (ev_must b1) with hV | hV
    · exact absurd hV hE
    · refine c_XV1 (i0 := 0) (ci := 2) (k2 := 1) (h1 := (0, 10, 13, 19)) (hs := []) FX (x_X0_must l hl0 D cI cB x bx px t f g ak su gt lf rf kn b1 hE) hV mi_X0_must rfl ml_RL_125 (RMok.mk) hl.1 rfl (Nat.le_of_ble_eq_true rfl) dL_must_3 (by decide) hK hP hA [0, 1, 2] rfl rfl rfl rfl hz.1.1 htb (by decide) (by decide) cl_RL_19 (by decide) (fun q9 H locs hP hS => ?_)
      refine lv_astore_n (lv' := [(3, .ref q9), (0, .ref x), (1, .int b1), (2, .ref q)]) FX.1 FX.2.1 dL_must_13 rfl hl (by decide) rfl (fun ls hl => ?_)
      refine lv_iconst (v := 1) FX.1 FX.2.1 dL_must_14 (by decide) ?_
      exact retJi () FX hr hlk dL_must_15 rfl (by rw [show hrf_must b1 f rf = rf from if_neg hE, show hn_must b1 f n0 = n0 from if_neg hE]; exact hP) hK (by rw [show hrf_must b1 f rf = rf from if_neg hE, show hn_must b1 f n0 = n0 from if_neg hE]; exact hD) hS (by decide) (by decide) (by rw [hk_must, if_neg hE]) trivial
def hk_mustElse (b1 : Int32) (n1 : Int32) : Int32 := if e_X0_mustElse b1 n1 = 0 then 0 else if e_X0_mustElse b1 n1 = 1 then 1 else 2
theorem ev_mustElse (b1 : Int32) (n1 : Int32) : e_X0_mustElse b1 n1 = 0 ∨ e_X0_mustElse b1 n1 = 1 ∨ e_X0_mustElse b1 n1 = 2 := by
  unfold e_X0_mustElse
  repeat' split
  all_goals first | exact Or.inl rfl | exact r21 (rg_X0_needBox _) | exact r21 (rg_X0_needPlain _) | exact r22 (rg_X0_needNumber _) | exact r22 (rg_X0_needKind _ _) | exact Or.inr (Or.inl rfl) | exact Or.inr (Or.inr rfl)
def hn_mustElse (b1 : Int32) (n1 : Int32) (f : Nat → Int32) (n0 : Int64) : Int64 := if e_X0_mustElse b1 n1 = 0 then (v_X0_mustElse b1 n1 f).toInt64 else n0
set_option maxRecDepth 100000 in
set_option maxHeartbeats 4000000 in
theorem j_L_mustElse (l : Launch) (hl0 : l.stackTraces = false) (D : va_G) (cI cB : ClassId) (x bx px t : Nat) (f g : Nat → Int32) (ak su gt lf rf kn : Int32) (q : Nat) (n0 : Int64) (sv : Value) (b1 : Int32) (n1 : Int32) : JH (S := Unit) l yL_mustElse cL_mustElse 5 (some .int) [(0, 11, 14, 19), (0, 11, 18, 21)] ({ frames := 8, cells := 1, slots := 6, locals := 132 } : Room) D cI cB [.ref x, .int b1, .int n1, .ref q] [(x, .inr (2, [.ref bx, .ref px, .ref t, .int ak, .int su, .int gt, .int lf, .int rf, .int kn])), (bx, .inl (cI, 6, .inl f)), (px, .inl (cI, 2, .inl g)), (q, .inr (3, [.long n0, sv]))] (zAnd (zAnd zz zN) (zF RL 13 RX1 "n" "J" RL)) (fun _ => some (.int (hk_mustElse b1 n1))) (fun _ => True) (fun _ => [(x, .inr (2, [.ref bx, .ref px, .ref t, .int ak, .int su, .int gt, .int lf, .int rf, .int kn])), (bx, .inl (cI, 6, .inl f)), (px, .inl (cI, 2, .inl g)), (q, .inr (3, [.long (hn_mustElse b1 n1 f n0), sv]))]) 1 6 := by
  refine bodyJH (by decide +kernel) (Nat.le_of_ble_eq_true rfl) (fun p e s m args below meth c ls A ZZ => ?_)
  obtain ⟨FX, hr, hlk, hK, hP, hD, hS, hA, hz, htb, hl⟩ := ZZ
  have hl : lv_has ls 5 [(0, .ref x), (1, .int b1), (2, .int n1), (3, .ref q)] := hl
  have hP : va_P D KL [(x, .inr (2, [.ref bx, .ref px, .ref t, .int ak, .int su, .int gt, .int lf, .int rf, .int kn])), (bx, .inl (cI, 6, .inl f)), (px, .inl (cI, 2, .inl g)), (q, .inr (3, [.long n0, sv]))] s.heap := hP
  refine lv_aload_n FX.1 FX.2.1 dL_mustElse_0 rfl (lv_at hl 3 rfl) ?_
  refine lv_aload_n FX.1 FX.2.1 dL_mustElse_1 rfl (lv_at hl 0 rfl) ?_
  refine lv_iload_n FX.1 FX.2.1 dL_mustElse_2 rfl (lv_at hl 1 rfl) ?_
  refine lv_iload_n FX.1 FX.2.1 dL_mustElse_3 rfl (lv_at hl 2 rfl) ?_
  by_cases hE : e_X0_mustElse b1 n1 = 0
  · have q_1 : (e_X0_mustElse b1 n1) = 0 := hE
    refine c_RDV (i0 := 0) (ci := 2) FX (r_X0_mustElse l D cI cB x bx px t f g ak su gt lf rf kn b1 n1 q_1) mi_X0_mustElse rfl ml_RL_128 (RMok.mk) hl.1 rfl (Nat.le_of_ble_eq_true rfl) dL_mustElse_4 (by decide) hK hP [0, 1, 2] rfl rfl rfl rfl ?_
    refine lv_i2l (v := (v_X0_mustElse b1 n1 f).toInt64) FX.1 FX.2.1 dL_mustElse_7 rfl ?_
    refine p_putN (wsN := [(x, .inr (2, [.ref bx, .ref px, .ref t, .int ak, .int su, .int gt, .int lf, .int rf, .int kn])), (bx, .inl (cI, 6, .inl f)), (px, .inl (cI, 2, .inl g)), (q, .inr (3, [.long ((v_X0_mustElse b1 n1 f).toInt64), sv]))]) (ci := 3) (v := .long ((v_X0_mustElse b1 n1 f).toInt64)) (ty := .long) FX inX1 tyX1_ok nmX1 hK hP hD hS 3 rfl rfl 0 (by decide) hz.2 rfl (by decide +kernel) rfl rfl (Nat.le_of_ble_eq_true rfl) dL_mustElse_8 rfl (fun H locs hP hD hS => ?_)
    refine lv_goto (tgt := 22) FX.1 FX.2.1 dL_mustElse_11 (by decide) ?_
    refine lv_iconst (v := 0) FX.1 FX.2.1 dL_mustElse_22 (by decide) ?_
    exact retJi () FX hr hlk dL_mustElse_23 rfl (by rw [show hn_mustElse b1 n1 f n0 = (v_X0_mustElse b1 n1 f).toInt64 from if_pos hE]; exact hP) hK (by rw [show hn_mustElse b1 n1 f n0 = (v_X0_mustElse b1 n1 f).toInt64 from if_pos hE]; exact hD) hS (by decide) (by decide) (by rw [hk_mustElse, if_pos hE]) trivial
  · rcases (ev_mustElse b1 n1) with hV | hV | hV
    · exact absurd hV hE
    · refine c_XV1 (i0 := 0) (ci := 2) (k2 := 1) (h1 := (0, 11, 14, 19)) (hs := [(0, 11, 18, 21)]) FX (x_X0_mustElse l hl0 D cI cB x bx px t f g ak su gt lf rf kn b1 n1 hE) hV mi_X0_mustElse rfl ml_RL_128 (RMok.mk) hl.1 rfl (Nat.le_of_ble_eq_true rfl) dL_mustElse_4 (by decide) hK hP hA [0, 1, 2] rfl rfl rfl rfl hz.1.1 htb (by decide) (by decide) cl_RL_19 (by decide) (fun q9 H locs hP hS => ?_)
      refine lv_astore (lv' := [(4, .ref q9), (0, .ref x), (1, .int b1), (2, .int n1), (3, .ref q)]) FX.1 FX.2.1 dL_mustElse_14 hl (by decide) rfl (fun ls hl => ?_)
      refine lv_iconst (v := 1) FX.1 FX.2.1 dL_mustElse_16 (by decide) ?_
      exact retJi () FX hr hlk dL_mustElse_17 rfl (by rw [show hn_mustElse b1 n1 f n0 = n0 from if_neg hE]; exact hP) hK (by rw [show hn_mustElse b1 n1 f n0 = n0 from if_neg hE]; exact hD) hS (by decide) (by decide) (by rw [hk_mustElse, if_neg hE, if_pos hV]) trivial
    · refine c_XV2 (i0 := 0) (ci := 2) (k1 := 1) (k2 := 2) (h1 := (0, 11, 14, 19)) (h2 := (0, 11, 18, 21)) (hs := []) FX (x_X0_mustElse l hl0 D cI cB x bx px t f g ak su gt lf rf kn b1 n1 hE) hV mi_X0_mustElse rfl ml_RL_128 (RMok.mk) hl.1 rfl (Nat.le_of_ble_eq_true rfl) dL_mustElse_4 (by decide) hK hP hA [0, 1, 2] rfl rfl rfl rfl hz.1.1 hz.1.2 htb (by decide) cl_RL_19 (by decide) (by decide) (by decide) cl_RL_21 (by decide) (fun q9 H locs hP hS => ?_)
      refine lv_astore (lv' := [(4, .ref q9), (0, .ref x), (1, .int b1), (2, .int n1), (3, .ref q)]) FX.1 FX.2.1 dL_mustElse_18 hl (by decide) rfl (fun ls hl => ?_)
      refine lv_iconst (v := 2) FX.1 FX.2.1 dL_mustElse_20 (by decide) ?_
      exact retJi () FX hr hlk dL_mustElse_21 rfl (by rw [show hn_mustElse b1 n1 f n0 = n0 from if_neg hE]; exact hP) hK (by rw [show hn_mustElse b1 n1 f n0 = n0 from if_neg hE]; exact hD) hS (by decide) (by decide) (by rw [hk_mustElse, if_neg hE, if_neg (by rw [hV]; decide)]) trivial
def hk_isNothing (b1 : Int32) : Int32 := if e_X0_isNothing b1 = 0 then 0 else 1
theorem ev_isNothing (b1 : Int32) : e_X0_isNothing b1 = 0 ∨ e_X0_isNothing b1 = 1 := by
  unfold e_X0_isNothing
  repeat' split
  all_goals first | exact Or.inl rfl | exact (rg_X0_needBox _) | exact (rg_X0_needPlain _) | exact Or.inr rfl
def hn_isNothing (b1 : Int32) (f : Nat → Int32) (n0 : Int64) : Int64 := if e_X0_isNothing b1 = 0 then (if v_X0_isNothing b1 f = 0 then 0 else 1) else n0
set_option maxRecDepth 100000 in
set_option maxHeartbeats 4000000 in
theorem j_L_isNothing (l : Launch) (hl0 : l.stackTraces = false) (D : va_G) (cI cB : ClassId) (x bx px t : Nat) (f g : Nat → Int32) (ak su gt lf rf kn : Int32) (q : Nat) (n0 : Int64) (sv : Value) (b1 : Int32) : JH (S := Unit) l yL_isNothing cL_isNothing 4 (some .int) [(0, 17, 20, 19)] ({ frames := 8, cells := 1, slots := 6, locals := 131 } : Room) D cI cB [.ref x, .int b1, .ref q] [(x, .inr (2, [.ref bx, .ref px, .ref t, .int ak, .int su, .int gt, .int lf, .int rf, .int kn])), (bx, .inl (cI, 6, .inl f)), (px, .inl (cI, 2, .inl g)), (q, .inr (3, [.long n0, sv]))] (zAnd (zAnd zz zN) (zF RL 13 RX1 "n" "J" RL)) (fun _ => some (.int (hk_isNothing b1))) (fun _ => True) (fun _ => [(x, .inr (2, [.ref bx, .ref px, .ref t, .int ak, .int su, .int gt, .int lf, .int rf, .int kn])), (bx, .inl (cI, 6, .inl f)), (px, .inl (cI, 2, .inl g)), (q, .inr (3, [.long (hn_isNothing b1 f n0), sv]))]) 1 6 := by
  refine bodyJH (by decide +kernel) (Nat.le_of_ble_eq_true rfl) (fun p e s m args below meth c ls A ZZ => ?_)
  obtain ⟨FX, hr, hlk, hK, hP, hD, hS, hA, hz, htb, hl⟩ := ZZ
  have hl : lv_has ls 4 [(0, .ref x), (1, .int b1), (2, .ref q)] := hl
  have hP : va_P D KL [(x, .inr (2, [.ref bx, .ref px, .ref t, .int ak, .int su, .int gt, .int lf, .int rf, .int kn])), (bx, .inl (cI, 6, .inl f)), (px, .inl (cI, 2, .inl g)), (q, .inr (3, [.long n0, sv]))] s.heap := hP
  refine lv_aload_n FX.1 FX.2.1 dL_isNothing_0 rfl (lv_at hl 2 rfl) ?_
  refine lv_aload_n FX.1 FX.2.1 dL_isNothing_1 rfl (lv_at hl 0 rfl) ?_
  refine lv_iload_n FX.1 FX.2.1 dL_isNothing_2 rfl (lv_at hl 1 rfl) ?_
  by_cases hE : e_X0_isNothing b1 = 0
  · have q_1 : (e_X0_isNothing b1) = 0 := hE
    refine c_RDV (i0 := 0) (ci := 2) FX (r_X0_isNothing l D cI cB x bx px t f g ak su gt lf rf kn b1 q_1) mi_X0_isNothing rfl ml_RL_131 (RMok.mk) hl.1 rfl (Nat.le_of_ble_eq_true rfl) dL_isNothing_3 (by decide) hK hP [0, 1, 2] rfl rfl rfl rfl ?_
    refine lv_if_eq (tgt := 13) FX.1 FX.2.1 dL_isNothing_6 (by decide) (fun c_2 => ?_) (fun c_2 => ?_)
    · refine lv_lconst (v := 0) FX.1 FX.2.1 dL_isNothing_13 (by decide) ?_
      refine p_putN (wsN := [(x, .inr (2, [.ref bx, .ref px, .ref t, .int ak, .int su, .int gt, .int lf, .int rf, .int kn])), (bx, .inl (cI, 6, .inl f)), (px, .inl (cI, 2, .inl g)), (q, .inr (3, [.long 0, sv]))]) (ci := 3) (v := .long 0) (ty := .long) FX inX1 tyX1_ok nmX1 hK hP hD hS 3 rfl rfl 0 (by decide) hz.2 rfl (by decide +kernel) rfl rfl (Nat.le_of_ble_eq_true rfl) dL_isNothing_14 rfl (fun H locs hP hD hS => ?_)
      refine lv_goto (tgt := 23) FX.1 FX.2.1 dL_isNothing_17 (by decide) ?_
      refine lv_iconst (v := 0) FX.1 FX.2.1 dL_isNothing_23 (by decide) ?_
      exact retJi () FX hr hlk dL_isNothing_24 rfl (by rw [show hn_isNothing b1 f n0 = 0 from (if_pos hE).trans (if_pos c_2)]; exact hP) hK (by rw [show hn_isNothing b1 f n0 = 0 from (if_pos hE).trans (if_pos c_2)]; exact hD) hS (by decide) (by decide) (by rw [hk_isNothing, if_pos hE]) trivial
    · refine lv_lconst (v := 1) FX.1 FX.2.1 dL_isNothing_9 (by decide) ?_
      refine lv_goto (tgt := 14) FX.1 FX.2.1 dL_isNothing_10 (by decide) ?_
      refine p_putN (wsN := [(x, .inr (2, [.ref bx, .ref px, .ref t, .int ak, .int su, .int gt, .int lf, .int rf, .int kn])), (bx, .inl (cI, 6, .inl f)), (px, .inl (cI, 2, .inl g)), (q, .inr (3, [.long 1, sv]))]) (ci := 3) (v := .long 1) (ty := .long) FX inX1 tyX1_ok nmX1 hK hP hD hS 3 rfl rfl 0 (by decide) hz.2 rfl (by decide +kernel) rfl rfl (Nat.le_of_ble_eq_true rfl) dL_isNothing_14 rfl (fun H locs hP hD hS => ?_)
      refine lv_goto (tgt := 23) FX.1 FX.2.1 dL_isNothing_17 (by decide) ?_
      refine lv_iconst (v := 0) FX.1 FX.2.1 dL_isNothing_23 (by decide) ?_
      exact retJi () FX hr hlk dL_isNothing_24 rfl (by rw [show hn_isNothing b1 f n0 = 1 from (if_pos hE).trans (if_neg c_2)]; exact hP) hK (by rw [show hn_isNothing b1 f n0 = 1 from (if_pos hE).trans (if_neg c_2)]; exact hD) hS (by decide) (by decide) (by rw [hk_isNothing, if_pos hE]) trivial
  · rcases (ev_isNothing b1) with hV | hV
    · exact absurd hV hE
    · refine c_XV1 (i0 := 0) (ci := 2) (k2 := 1) (h1 := (0, 17, 20, 19)) (hs := []) FX (x_X0_isNothing l hl0 D cI cB x bx px t f g ak su gt lf rf kn b1 hE) hV mi_X0_isNothing rfl ml_RL_131 (RMok.mk) hl.1 rfl (Nat.le_of_ble_eq_true rfl) dL_isNothing_3 (by decide) hK hP hA [0, 1, 2] rfl rfl rfl rfl hz.1.1 htb (by decide) (by decide) cl_RL_19 (by decide) (fun q9 H locs hP hS => ?_)
      refine lv_astore_n (lv' := [(3, .ref q9), (0, .ref x), (1, .int b1), (2, .ref q)]) FX.1 FX.2.1 dL_isNothing_20 rfl hl (by decide) rfl (fun ls hl => ?_)
      refine lv_iconst (v := 1) FX.1 FX.2.1 dL_isNothing_21 (by decide) ?_
      exact retJi () FX hr hlk dL_isNothing_22 rfl (by rw [show hn_isNothing b1 f n0 = n0 from if_neg hE]; exact hP) hK (by rw [show hn_isNothing b1 f n0 = n0 from if_neg hE]; exact hD) hS (by decide) (by decide) (by rw [hk_isNothing, if_neg hE]) trivial
def hk_isSomething (b1 : Int32) : Int32 := if e_X0_isSomething b1 = 0 then 0 else 1
theorem ev_isSomething (b1 : Int32) : e_X0_isSomething b1 = 0 ∨ e_X0_isSomething b1 = 1 := by
  unfold e_X0_isSomething
  repeat' split
  all_goals first | exact Or.inl rfl | exact (rg_X0_needBox _) | exact (rg_X0_needPlain _) | exact Or.inr rfl
def hn_isSomething (b1 : Int32) (f : Nat → Int32) (n0 : Int64) : Int64 := if e_X0_isSomething b1 = 0 then (if v_X0_isSomething b1 f = 0 then 0 else 1) else n0
set_option maxRecDepth 100000 in
set_option maxHeartbeats 4000000 in
theorem j_L_isSomething (l : Launch) (hl0 : l.stackTraces = false) (D : va_G) (cI cB : ClassId) (x bx px t : Nat) (f g : Nat → Int32) (ak su gt lf rf kn : Int32) (q : Nat) (n0 : Int64) (sv : Value) (b1 : Int32) : JH (S := Unit) l yL_isSomething cL_isSomething 4 (some .int) [(0, 17, 20, 19)] ({ frames := 8, cells := 1, slots := 6, locals := 131 } : Room) D cI cB [.ref x, .int b1, .ref q] [(x, .inr (2, [.ref bx, .ref px, .ref t, .int ak, .int su, .int gt, .int lf, .int rf, .int kn])), (bx, .inl (cI, 6, .inl f)), (px, .inl (cI, 2, .inl g)), (q, .inr (3, [.long n0, sv]))] (zAnd (zAnd zz zN) (zF RL 13 RX1 "n" "J" RL)) (fun _ => some (.int (hk_isSomething b1))) (fun _ => True) (fun _ => [(x, .inr (2, [.ref bx, .ref px, .ref t, .int ak, .int su, .int gt, .int lf, .int rf, .int kn])), (bx, .inl (cI, 6, .inl f)), (px, .inl (cI, 2, .inl g)), (q, .inr (3, [.long (hn_isSomething b1 f n0), sv]))]) 1 6 := by
  refine bodyJH (by decide +kernel) (Nat.le_of_ble_eq_true rfl) (fun p e s m args below meth c ls A ZZ => ?_)
  obtain ⟨FX, hr, hlk, hK, hP, hD, hS, hA, hz, htb, hl⟩ := ZZ
  have hl : lv_has ls 4 [(0, .ref x), (1, .int b1), (2, .ref q)] := hl
  have hP : va_P D KL [(x, .inr (2, [.ref bx, .ref px, .ref t, .int ak, .int su, .int gt, .int lf, .int rf, .int kn])), (bx, .inl (cI, 6, .inl f)), (px, .inl (cI, 2, .inl g)), (q, .inr (3, [.long n0, sv]))] s.heap := hP
  refine lv_aload_n FX.1 FX.2.1 dL_isSomething_0 rfl (lv_at hl 2 rfl) ?_
  refine lv_aload_n FX.1 FX.2.1 dL_isSomething_1 rfl (lv_at hl 0 rfl) ?_
  refine lv_iload_n FX.1 FX.2.1 dL_isSomething_2 rfl (lv_at hl 1 rfl) ?_
  by_cases hE : e_X0_isSomething b1 = 0
  · have q_1 : (e_X0_isSomething b1) = 0 := hE
    refine c_RDV (i0 := 0) (ci := 2) FX (r_X0_isSomething l D cI cB x bx px t f g ak su gt lf rf kn b1 q_1) mi_X0_isSomething rfl ml_RL_134 (RMok.mk) hl.1 rfl (Nat.le_of_ble_eq_true rfl) dL_isSomething_3 (by decide) hK hP [0, 1, 2] rfl rfl rfl rfl ?_
    refine lv_if_eq (tgt := 13) FX.1 FX.2.1 dL_isSomething_6 (by decide) (fun c_2 => ?_) (fun c_2 => ?_)
    · refine lv_lconst (v := 0) FX.1 FX.2.1 dL_isSomething_13 (by decide) ?_
      refine p_putN (wsN := [(x, .inr (2, [.ref bx, .ref px, .ref t, .int ak, .int su, .int gt, .int lf, .int rf, .int kn])), (bx, .inl (cI, 6, .inl f)), (px, .inl (cI, 2, .inl g)), (q, .inr (3, [.long 0, sv]))]) (ci := 3) (v := .long 0) (ty := .long) FX inX1 tyX1_ok nmX1 hK hP hD hS 3 rfl rfl 0 (by decide) hz.2 rfl (by decide +kernel) rfl rfl (Nat.le_of_ble_eq_true rfl) dL_isSomething_14 rfl (fun H locs hP hD hS => ?_)
      refine lv_goto (tgt := 23) FX.1 FX.2.1 dL_isSomething_17 (by decide) ?_
      refine lv_iconst (v := 0) FX.1 FX.2.1 dL_isSomething_23 (by decide) ?_
      exact retJi () FX hr hlk dL_isSomething_24 rfl (by rw [show hn_isSomething b1 f n0 = 0 from (if_pos hE).trans (if_pos c_2)]; exact hP) hK (by rw [show hn_isSomething b1 f n0 = 0 from (if_pos hE).trans (if_pos c_2)]; exact hD) hS (by decide) (by decide) (by rw [hk_isSomething, if_pos hE]) trivial
    · refine lv_lconst (v := 1) FX.1 FX.2.1 dL_isSomething_9 (by decide) ?_
      refine lv_goto (tgt := 14) FX.1 FX.2.1 dL_isSomething_10 (by decide) ?_
      refine p_putN (wsN := [(x, .inr (2, [.ref bx, .ref px, .ref t, .int ak, .int su, .int gt, .int lf, .int rf, .int kn])), (bx, .inl (cI, 6, .inl f)), (px, .inl (cI, 2, .inl g)), (q, .inr (3, [.long 1, sv]))]) (ci := 3) (v := .long 1) (ty := .long) FX inX1 tyX1_ok nmX1 hK hP hD hS 3 rfl rfl 0 (by decide) hz.2 rfl (by decide +kernel) rfl rfl (Nat.le_of_ble_eq_true rfl) dL_isSomething_14 rfl (fun H locs hP hD hS => ?_)
      refine lv_goto (tgt := 23) FX.1 FX.2.1 dL_isSomething_17 (by decide) ?_
      refine lv_iconst (v := 0) FX.1 FX.2.1 dL_isSomething_23 (by decide) ?_
      exact retJi () FX hr hlk dL_isSomething_24 rfl (by rw [show hn_isSomething b1 f n0 = 1 from (if_pos hE).trans (if_neg c_2)]; exact hP) hK (by rw [show hn_isSomething b1 f n0 = 1 from (if_pos hE).trans (if_neg c_2)]; exact hD) hS (by decide) (by decide) (by rw [hk_isSomething, if_pos hE]) trivial
  · rcases (ev_isSomething b1) with hV | hV
    · exact absurd hV hE
    · refine c_XV1 (i0 := 0) (ci := 2) (k2 := 1) (h1 := (0, 17, 20, 19)) (hs := []) FX (x_X0_isSomething l hl0 D cI cB x bx px t f g ak su gt lf rf kn b1 hE) hV mi_X0_isSomething rfl ml_RL_134 (RMok.mk) hl.1 rfl (Nat.le_of_ble_eq_true rfl) dL_isSomething_3 (by decide) hK hP hA [0, 1, 2] rfl rfl rfl rfl hz.1.1 htb (by decide) (by decide) cl_RL_19 (by decide) (fun q9 H locs hP hS => ?_)
      refine lv_astore_n (lv' := [(3, .ref q9), (0, .ref x), (1, .int b1), (2, .ref q)]) FX.1 FX.2.1 dL_isSomething_20 rfl hl (by decide) rfl (fun ls hl => ?_)
      refine lv_iconst (v := 1) FX.1 FX.2.1 dL_isSomething_21 (by decide) ?_
      exact retJi () FX hr hlk dL_isSomething_22 rfl (by rw [show hn_isSomething b1 f n0 = n0 from if_neg hE]; exact hP) hK (by rw [show hn_isSomething b1 f n0 = n0 from if_neg hE]; exact hD) hS (by decide) (by decide) (by rw [hk_isSomething, if_neg hE]) trivial
def hk_told (b1 : Int32) : Int32 := if e_X0_told b1 = 0 then 0 else 1
theorem ev_told (b1 : Int32) : e_X0_told b1 = 0 ∨ e_X0_told b1 = 1 := by
  unfold e_X0_told
  repeat' split
  all_goals first | exact Or.inl rfl | exact (rg_X0_needBox _) | exact (rg_X0_needPlain _) | exact Or.inr rfl
set_option maxRecDepth 100000 in
set_option maxHeartbeats 4000000 in
theorem j_L_told_0 (l : Launch) (hl0 : l.stackTraces = false) (D : va_G) (cI cB : ClassId) (x bx px t bt : Nat) (f g : Nat → Int32) (ak su gt lf rf kn ml cn : Int32) (bs : Nat → Int32) (q : Nat) (n0 : Int64) (sv : Value) (b1 : Int32) (to tt : Nat) (go gu : Nat → Int32) (na nv : Nat) (nf : Nat → Int32) (hf : sb_Fit nf) (hb : sb_Fit bs) (hc : 0 ≤ cn) (hE : e_X0_told b1 = 0) (hn0 : f b1.toNatClampNeg = -10000) : JH (S := Int32 × (Nat → Int32) × Nat × Nat × (Nat → Int32)) l yL_told cL_told 4 (some .int) [(0, 9, 12, 19)] ({ frames := 7, cells := 2, slots := 20, locals := 192 } : Room) D cI cB [.ref x, .int b1, .ref q] [(x, .inr (2, [.ref bx, .ref px, .ref t, .int ak, .int su, .int gt, .int lf, .int rf, .int kn])), (bx, .inl (cI, 6, .inl f)), (px, .inl (cI, 2, .inl g)), (t, .inr (1, [.ref bt, .int 0, .int ml, .int cn])), (bt, .inl (cB, 16, .inl bs)), (q, .inr (3, [.long n0, sv]))] (zAnd (zAnd (zAnd zz zN) (zF RL 141 RX1 "s" "Ljava/lang/String;" RL)) (zAnd zC (zAnd (zAnd (zDg "DigitOnes" to go) (zDg "DigitTens" tt gu)) (zAnd (zR RX0 201 "none" na) (zS na nv 4 nf))))) (fun u => some (.int 0)) (fun u => sb_Fit u.2.1 ∧ TL 4 u.2.2.2.2 nf) (fun u => [(x, .inr (2, [.ref bx, .ref px, .ref t, .int ak, .int su, .int gt, .int lf, .int rf, .int kn])), (bx, .inl (cI, 6, .inl f)), (px, .inl (cI, 2, .inl g)), (t, .inr (1, [.ref bt, .int 0, .int u.1, .int 4])), (bt, .inl (cB, 16, .inl u.2.1)), (q, .inr (3, [.long n0, (.ref u.2.2.1)])), (u.2.2.1, .inr (0, [.ref u.2.2.2.1, .int 0, .int 0, .int 0])), (u.2.2.2.1, .inl (cB, 4, .inl u.2.2.2.2))]) 2 20 := by
  refine bodyJH (by decide +kernel) (Nat.le_of_ble_eq_true rfl) (fun p e s m args below meth c ls A ZZ => ?_)
  obtain ⟨FX, hr, hlk, hK, hP, hD, hS, hA, hz, htb, hl⟩ := ZZ
  have hl : lv_has ls 4 [(0, .ref x), (1, .int b1), (2, .ref q)] := hl
  have hP : va_P D KL [(x, .inr (2, [.ref bx, .ref px, .ref t, .int ak, .int su, .int gt, .int lf, .int rf, .int kn])), (bx, .inl (cI, 6, .inl f)), (px, .inl (cI, 2, .inl g)), (t, .inr (1, [.ref bt, .int 0, .int ml, .int cn])), (bt, .inl (cB, 16, .inl bs)), (q, .inr (3, [.long n0, sv]))] s.heap := hP
  refine lv_aload_n FX.1 FX.2.1 dL_told_0 rfl (lv_at hl 2 rfl) ?_
  refine lv_aload_n FX.1 FX.2.1 dL_told_1 rfl (lv_at hl 0 rfl) ?_
  refine lv_iload_n FX.1 FX.2.1 dL_told_2 rfl (lv_at hl 1 rfl) ?_
  refine c_J (W0 := [(x, .inr (2, [.ref bx, .ref px, .ref t, .int ak, .int su, .int gt, .int lf, .int rf, .int kn])), (bx, .inl (cI, 6, .inl f)), (px, .inl (cI, 2, .inl g)), (t, .inr (1, [.ref bt, .int 0, .int ml, .int cn])), (bt, .inl (cB, 16, .inl bs))]) (wr := [(q, .inr (3, [.long n0, sv]))]) (wsN := fun u1 => [(x, .inr (2, [.ref bx, .ref px, .ref t, .int ak, .int su, .int gt, .int lf, .int rf, .int kn])), (bx, .inl (cI, 6, .inl f)), (px, .inl (cI, 2, .inl g)), (t, .inr (1, [.ref bt, .int 0, .int u1.1, .int 4])), (bt, .inl (cB, 16, .inl u1.2.1)), (q, .inr (3, [.long n0, sv])), (u1.2.2.1, .inr (0, [.ref u1.2.2.2.1, .int 0, .int 0, .int 0])), (u1.2.2.2.1, .inl (cB, 4, .inl u1.2.2.2.2))]) (va_runV FX ((j_X0_told_0 l D cI cB x bx px t bt f g ak su gt lf rf kn ml cn bs b1 to tt go gu na nv nf hf hb hc hE hn0) s.heap.size) (my_cwV FX.2.2.2.2 mi_X0_told ml_RL_137 (RMok.mk)) ⟨PJ.blind (zAnd_ok zC_ok (zAnd_ok (zAnd_ok zDg_ok zDg_ok) (zAnd_ok zR_ok zS_ok))), (my_recv (i0 := 0) (ci := 2) hK hP rfl rfl rfl), fun U hU hW => ⟨rfl, my_preJ (zAnd_ok zC_ok (zAnd_ok (zAnd_ok zDg_ok zDg_ok) (zAnd_ok zR_ok zS_ok))) hz.2 hS hA hK hP hD [0, 1, 2, 3, 4] rfl rfl U hU hW⟩⟩ rfl rfl hl.1 rfl (lv_room (Nat.le_of_ble_eq_true rfl)) dL_told_3 (by decide)) hP hD hS hA [0, 1, 2, 3, 4] rfl [5] rfl (by decide) [1, 2, 3, 4, 5, 0, 6, 7] (fun _ => rfl) rfl (fun u1 H locs hp_1 hP hD hS => ?_)
  have hP : va_P D KL [(x, .inr (2, [.ref bx, .ref px, .ref t, .int ak, .int su, .int gt, .int lf, .int rf, .int kn])), (bx, .inl (cI, 6, .inl f)), (px, .inl (cI, 2, .inl g)), (t, .inr (1, [.ref bt, .int 0, .int u1.1, .int 4])), (bt, .inl (cB, 16, .inl u1.2.1)), (q, .inr (3, [.long n0, sv])), (u1.2.2.1, .inr (0, [.ref u1.2.2.2.1, .int 0, .int 0, .int 0])), (u1.2.2.2.1, .inl (cB, 4, .inl u1.2.2.2.2))] H := hP
  have hD : va_D A [(x, .inr (2, [.ref bx, .ref px, .ref t, .int ak, .int su, .int gt, .int lf, .int rf, .int kn])), (bx, .inl (cI, 6, .inl f)), (px, .inl (cI, 2, .inl g)), (t, .inr (1, [.ref bt, .int 0, .int u1.1, .int 4])), (bt, .inl (cB, 16, .inl u1.2.1)), (q, .inr (3, [.long n0, sv])), (u1.2.2.1, .inr (0, [.ref u1.2.2.2.1, .int 0, .int 0, .int 0])), (u1.2.2.2.1, .inl (cB, 4, .inl u1.2.2.2.2))] := hD
  refine W.eq (g2 := F0 m 6 ls [.ref u1.2.2.1, .ref q]) rfl ?_
  refine p_putN (wsN := [(x, .inr (2, [.ref bx, .ref px, .ref t, .int ak, .int su, .int gt, .int lf, .int rf, .int kn])), (bx, .inl (cI, 6, .inl f)), (px, .inl (cI, 2, .inl g)), (t, .inr (1, [.ref bt, .int 0, .int u1.1, .int 4])), (bt, .inl (cB, 16, .inl u1.2.1)), (q, .inr (3, [.long n0, (.ref u1.2.2.1)])), (u1.2.2.1, .inr (0, [.ref u1.2.2.2.1, .int 0, .int 0, .int 0])), (u1.2.2.2.1, .inl (cB, 4, .inl u1.2.2.2.2))]) (ci := 3) (v := .ref u1.2.2.1) (ty := (.object "java/lang/String")) FX inX1 tyX1_ok nmX1 hK hP hD hS 5 rfl rfl 1 (by decide) hz.1.2 rfl (by decide +kernel) rfl rfl (Nat.le_of_ble_eq_true rfl) dL_told_6 rfl (fun H locs hP hD hS => ?_)
  refine lv_goto (tgt := 15) FX.1 FX.2.1 dL_told_9 (by decide) ?_
  refine lv_iconst (v := 0) FX.1 FX.2.1 dL_told_15 (by decide) ?_
  exact retJi u1 FX hr hlk dL_told_16 rfl hP hK hD hS (by decide) (by decide) rfl hp_1
set_option maxRecDepth 100000 in
set_option maxHeartbeats 4000000 in
theorem j_L_told_1 (l : Launch) (hl0 : l.stackTraces = false) (D : va_G) (cI cB : ClassId) (x bx px t bt : Nat) (f g : Nat → Int32) (ak su gt lf rf kn ml cn : Int32) (bs : Nat → Int32) (q : Nat) (n0 : Int64) (sv : Value) (b1 : Int32) (k : Nat) (to tt : Nat) (go gu : Nat → Int32) (na nv : Nat) (nf : Nat → Int32) (hf : sb_Fit nf) (hb : sb_Fit bs) (hc : 0 ≤ cn) (hE : e_X0_told b1 = 0) (hv : -999 ≤ f b1.toNatClampNeg ∧ f b1.toNatClampNeg ≤ 999) (hk : k ≤ 4) (ek : v_J6_stringSize_0f7a4 (f b1.toNatClampNeg) = nI k) : JH (S := Int32 × (Nat → Int32) × Nat × Nat × (Nat → Int32)) l yL_told cL_told 4 (some .int) [(0, 9, 12, 19)] ({ frames := 7, cells := 2, slots := 20, locals := 192 } : Room) D cI cB [.ref x, .int b1, .ref q] [(x, .inr (2, [.ref bx, .ref px, .ref t, .int ak, .int su, .int gt, .int lf, .int rf, .int kn])), (bx, .inl (cI, 6, .inl f)), (px, .inl (cI, 2, .inl g)), (t, .inr (1, [.ref bt, .int 0, .int ml, .int cn])), (bt, .inl (cB, 16, .inl bs)), (q, .inr (3, [.long n0, sv]))] (zAnd (zAnd (zAnd zz zN) (zF RL 141 RX1 "s" "Ljava/lang/String;" RL)) (zAnd zC (zAnd (zAnd (zDg "DigitOnes" to go) (zDg "DigitTens" tt gu)) (zAnd (zR RX0 201 "none" na) (zS na nv 4 nf))))) (fun u => some (.int 0)) (fun u => sb_Fit u.2.1 ∧ TL k u.2.2.2.2 (tc (f b1.toNatClampNeg) go gu)) (fun u => [(x, .inr (2, [.ref bx, .ref px, .ref t, .int ak, .int su, .int gt, .int lf, .int rf, .int kn])), (bx, .inl (cI, 6, .inl f)), (px, .inl (cI, 2, .inl g)), (t, .inr (1, [.ref bt, .int 0, .int u.1, .int (nI k)])), (bt, .inl (cB, 16, .inl u.2.1)), (q, .inr (3, [.long n0, (.ref u.2.2.1)])), (u.2.2.1, .inr (0, [.ref u.2.2.2.1, .int 0, .int 0, .int 0])), (u.2.2.2.1, .inl (cB, k, .inl u.2.2.2.2))]) 2 20 := by
  refine bodyJH (by decide +kernel) (Nat.le_of_ble_eq_true rfl) (fun p e s m args below meth c ls A ZZ => ?_)
  obtain ⟨FX, hr, hlk, hK, hP, hD, hS, hA, hz, htb, hl⟩ := ZZ
  have hl : lv_has ls 4 [(0, .ref x), (1, .int b1), (2, .ref q)] := hl
  have hP : va_P D KL [(x, .inr (2, [.ref bx, .ref px, .ref t, .int ak, .int su, .int gt, .int lf, .int rf, .int kn])), (bx, .inl (cI, 6, .inl f)), (px, .inl (cI, 2, .inl g)), (t, .inr (1, [.ref bt, .int 0, .int ml, .int cn])), (bt, .inl (cB, 16, .inl bs)), (q, .inr (3, [.long n0, sv]))] s.heap := hP
  refine lv_aload_n FX.1 FX.2.1 dL_told_0 rfl (lv_at hl 2 rfl) ?_
  refine lv_aload_n FX.1 FX.2.1 dL_told_1 rfl (lv_at hl 0 rfl) ?_
  refine lv_iload_n FX.1 FX.2.1 dL_told_2 rfl (lv_at hl 1 rfl) ?_
  refine c_J (W0 := [(x, .inr (2, [.ref bx, .ref px, .ref t, .int ak, .int su, .int gt, .int lf, .int rf, .int kn])), (bx, .inl (cI, 6, .inl f)), (px, .inl (cI, 2, .inl g)), (t, .inr (1, [.ref bt, .int 0, .int ml, .int cn])), (bt, .inl (cB, 16, .inl bs))]) (wr := [(q, .inr (3, [.long n0, sv]))]) (wsN := fun u1 => [(x, .inr (2, [.ref bx, .ref px, .ref t, .int ak, .int su, .int gt, .int lf, .int rf, .int kn])), (bx, .inl (cI, 6, .inl f)), (px, .inl (cI, 2, .inl g)), (t, .inr (1, [.ref bt, .int 0, .int u1.1, .int (nI k)])), (bt, .inl (cB, 16, .inl u1.2.1)), (q, .inr (3, [.long n0, sv])), (u1.2.2.1, .inr (0, [.ref u1.2.2.2.1, .int 0, .int 0, .int 0])), (u1.2.2.2.1, .inl (cB, k, .inl u1.2.2.2.2))]) (va_runV FX ((j_X0_told_1 l D cI cB x bx px t bt f g ak su gt lf rf kn ml cn bs b1 k to tt go gu na nv nf hf hb hc hE hv hk ek) s.heap.size) (my_cwV FX.2.2.2.2 mi_X0_told ml_RL_137 (RMok.mk)) ⟨PJ.blind (zAnd_ok zC_ok (zAnd_ok (zAnd_ok zDg_ok zDg_ok) (zAnd_ok zR_ok zS_ok))), (my_recv (i0 := 0) (ci := 2) hK hP rfl rfl rfl), fun U hU hW => ⟨rfl, my_preJ (zAnd_ok zC_ok (zAnd_ok (zAnd_ok zDg_ok zDg_ok) (zAnd_ok zR_ok zS_ok))) hz.2 hS hA hK hP hD [0, 1, 2, 3, 4] rfl rfl U hU hW⟩⟩ rfl rfl hl.1 rfl (lv_room (Nat.le_of_ble_eq_true rfl)) dL_told_3 (by decide)) hP hD hS hA [0, 1, 2, 3, 4] rfl [5] rfl (by decide) [1, 2, 3, 4, 5, 0, 6, 7] (fun _ => rfl) rfl (fun u1 H locs hp_1 hP hD hS => ?_)
  have hP : va_P D KL [(x, .inr (2, [.ref bx, .ref px, .ref t, .int ak, .int su, .int gt, .int lf, .int rf, .int kn])), (bx, .inl (cI, 6, .inl f)), (px, .inl (cI, 2, .inl g)), (t, .inr (1, [.ref bt, .int 0, .int u1.1, .int (nI k)])), (bt, .inl (cB, 16, .inl u1.2.1)), (q, .inr (3, [.long n0, sv])), (u1.2.2.1, .inr (0, [.ref u1.2.2.2.1, .int 0, .int 0, .int 0])), (u1.2.2.2.1, .inl (cB, k, .inl u1.2.2.2.2))] H := hP
  have hD : va_D A [(x, .inr (2, [.ref bx, .ref px, .ref t, .int ak, .int su, .int gt, .int lf, .int rf, .int kn])), (bx, .inl (cI, 6, .inl f)), (px, .inl (cI, 2, .inl g)), (t, .inr (1, [.ref bt, .int 0, .int u1.1, .int (nI k)])), (bt, .inl (cB, 16, .inl u1.2.1)), (q, .inr (3, [.long n0, sv])), (u1.2.2.1, .inr (0, [.ref u1.2.2.2.1, .int 0, .int 0, .int 0])), (u1.2.2.2.1, .inl (cB, k, .inl u1.2.2.2.2))] := hD
  refine W.eq (g2 := F0 m 6 ls [.ref u1.2.2.1, .ref q]) rfl ?_
  refine p_putN (wsN := [(x, .inr (2, [.ref bx, .ref px, .ref t, .int ak, .int su, .int gt, .int lf, .int rf, .int kn])), (bx, .inl (cI, 6, .inl f)), (px, .inl (cI, 2, .inl g)), (t, .inr (1, [.ref bt, .int 0, .int u1.1, .int (nI k)])), (bt, .inl (cB, 16, .inl u1.2.1)), (q, .inr (3, [.long n0, (.ref u1.2.2.1)])), (u1.2.2.1, .inr (0, [.ref u1.2.2.2.1, .int 0, .int 0, .int 0])), (u1.2.2.2.1, .inl (cB, k, .inl u1.2.2.2.2))]) (ci := 3) (v := .ref u1.2.2.1) (ty := (.object "java/lang/String")) FX inX1 tyX1_ok nmX1 hK hP hD hS 5 rfl rfl 1 (by decide) hz.1.2 rfl (by decide +kernel) rfl rfl (Nat.le_of_ble_eq_true rfl) dL_told_6 rfl (fun H locs hP hD hS => ?_)
  refine lv_goto (tgt := 15) FX.1 FX.2.1 dL_told_9 (by decide) ?_
  refine lv_iconst (v := 0) FX.1 FX.2.1 dL_told_15 (by decide) ?_
  exact retJi u1 FX hr hlk dL_told_16 rfl hP hK hD hS (by decide) (by decide) rfl hp_1
set_option maxRecDepth 100000 in
set_option maxHeartbeats 4000000 in
theorem j_L_told_x (l : Launch) (hl0 : l.stackTraces = false) (D : va_G) (cI cB : ClassId) (x bx px t bt : Nat) (f g : Nat → Int32) (ak su gt lf rf kn ml cn : Int32) (bs : Nat → Int32) (q : Nat) (n0 : Int64) (sv : Value) (b1 : Int32) (to tt : Nat) (go gu : Nat → Int32) (na nv : Nat) (nf : Nat → Int32) (hE : ¬ e_X0_told b1 = 0) : JH (S := Unit) l yL_told cL_told 4 (some .int) [(0, 9, 12, 19)] ({ frames := 8, cells := 1, slots := 6, locals := 131 } : Room) D cI cB [.ref x, .int b1, .ref q] [(x, .inr (2, [.ref bx, .ref px, .ref t, .int ak, .int su, .int gt, .int lf, .int rf, .int kn])), (bx, .inl (cI, 6, .inl f)), (px, .inl (cI, 2, .inl g)), (t, .inr (1, [.ref bt, .int 0, .int ml, .int cn])), (bt, .inl (cB, 16, .inl bs)), (q, .inr (3, [.long n0, sv]))] (zAnd (zAnd (zAnd zz zN) (zF RL 141 RX1 "s" "Ljava/lang/String;" RL)) (zAnd zC (zAnd (zAnd (zDg "DigitOnes" to go) (zDg "DigitTens" tt gu)) (zAnd (zR RX0 201 "none" na) (zS na nv 4 nf))))) (fun _ => some (.int 1)) (fun _ => True) (fun _ => [(x, .inr (2, [.ref bx, .ref px, .ref t, .int ak, .int su, .int gt, .int lf, .int rf, .int kn])), (bx, .inl (cI, 6, .inl f)), (px, .inl (cI, 2, .inl g)), (t, .inr (1, [.ref bt, .int 0, .int ml, .int cn])), (bt, .inl (cB, 16, .inl bs)), (q, .inr (3, [.long n0, sv]))]) 1 6 := by
  refine bodyJH (by decide +kernel) (Nat.le_of_ble_eq_true rfl) (fun p e s m args below meth c ls A ZZ => ?_)
  obtain ⟨FX, hr, hlk, hK, hP, hD, hS, hA, hz, htb, hl⟩ := ZZ
  have hl : lv_has ls 4 [(0, .ref x), (1, .int b1), (2, .ref q)] := hl
  have hP : va_P D KL [(x, .inr (2, [.ref bx, .ref px, .ref t, .int ak, .int su, .int gt, .int lf, .int rf, .int kn])), (bx, .inl (cI, 6, .inl f)), (px, .inl (cI, 2, .inl g)), (t, .inr (1, [.ref bt, .int 0, .int ml, .int cn])), (bt, .inl (cB, 16, .inl bs)), (q, .inr (3, [.long n0, sv]))] s.heap := hP
  refine lv_aload_n FX.1 FX.2.1 dL_told_0 rfl (lv_at hl 2 rfl) ?_
  refine lv_aload_n FX.1 FX.2.1 dL_told_1 rfl (lv_at hl 0 rfl) ?_
  refine lv_iload_n FX.1 FX.2.1 dL_told_2 rfl (lv_at hl 1 rfl) ?_
  rcases (ev_told b1) with hV | hV
  · exact absurd hV hE
  · refine c_XV1 (i0 := 0) (ci := 2) (k2 := 1) (h1 := (0, 9, 12, 19)) (hs := []) FX (x_X0_told l hl0 D cI cB x bx px t f g ak su gt lf rf kn b1 hE) hV mi_X0_told rfl ml_RL_137 (RMok.mk) hl.1 rfl (Nat.le_of_ble_eq_true rfl) dL_told_3 (by decide) hK hP hA [0, 1, 2] rfl rfl rfl rfl hz.1.1.1 htb (by decide) (by decide) cl_RL_19 (by decide) (fun q9 H locs hP hS => ?_)
    refine lv_astore_n (lv' := [(3, .ref q9), (0, .ref x), (1, .int b1), (2, .ref q)]) FX.1 FX.2.1 dL_told_12 rfl hl (by decide) rfl (fun ls hl => ?_)
    refine lv_iconst (v := 1) FX.1 FX.2.1 dL_told_13 (by decide) ?_
    exact retJi () FX hr hlk dL_told_14 rfl hP hK hD hS (by decide) (by decide) rfl trivial
def hk_place (n1 : Int32) (n2 : Int32) : Int32 := if e_X0_place n1 n2 = 0 then 0 else if e_X0_place n1 n2 = 2 then 1 else 2
theorem ev_place (n1 : Int32) (n2 : Int32) : e_X0_place n1 n2 = 0 ∨ e_X0_place n1 n2 = 2 ∨ e_X0_place n1 n2 = 1 := by
  unfold e_X0_place
  repeat' split
  all_goals first | exact Or.inl rfl | exact r12 (rg_X0_needNumber _) | exact r12 (rg_X0_needKind _ _) | exact Or.inr (Or.inl rfl) | exact Or.inr (Or.inr rfl)
def hn_place (n1 : Int32) (n2 : Int32) (n0 : Int64) : Int64 := if e_X0_place n1 n2 = 0 then (v_X0_place n1).toInt64 else n0
set_option maxRecDepth 100000 in
set_option maxHeartbeats 4000000 in
theorem j_L_place (l : Launch) (hl0 : l.stackTraces = false) (D : va_G) (cI cB : ClassId) (x bx px t : Nat) (f g : Nat → Int32) (ak su gt lf rf kn : Int32) (q : Nat) (n0 : Int64) (sv : Value) (n1 : Int32) (n2 : Int32) : JH (S := Unit) l yL_place cL_place 5 (some .int) [(0, 11, 14, 21), (0, 11, 18, 19)] ({ frames := 7, cells := 1, slots := 6, locals := 112 } : Room) D cI cB [.ref x, .int n1, .int n2, .ref q] [(x, .inr (2, [.ref bx, .ref px, .ref t, .int ak, .int su, .int gt, .int lf, .int rf, .int kn])), (bx, .inl (cI, 6, .inl f)), (px, .inl (cI, 2, .inl g)), (q, .inr (3, [.long n0, sv]))] (zAnd (zAnd zz zN) (zF RL 13 RX1 "n" "J" RL)) (fun _ => some (.int (hk_place n1 n2))) (fun _ => True) (fun _ => [(x, .inr (2, [.ref bx, .ref px, .ref t, .int ak, .int su, .int gt, .int lf, .int rf, .int kn])), (bx, .inl (cI, 6, .inl f)), (px, .inl (cI, 2, .inl g)), (q, .inr (3, [.long (hn_place n1 n2 n0), sv]))]) 1 6 := by
  refine bodyJH (by decide +kernel) (Nat.le_of_ble_eq_true rfl) (fun p e s m args below meth c ls A ZZ => ?_)
  obtain ⟨FX, hr, hlk, hK, hP, hD, hS, hA, hz, htb, hl⟩ := ZZ
  have hl : lv_has ls 5 [(0, .ref x), (1, .int n1), (2, .int n2), (3, .ref q)] := hl
  have hP : va_P D KL [(x, .inr (2, [.ref bx, .ref px, .ref t, .int ak, .int su, .int gt, .int lf, .int rf, .int kn])), (bx, .inl (cI, 6, .inl f)), (px, .inl (cI, 2, .inl g)), (q, .inr (3, [.long n0, sv]))] s.heap := hP
  refine lv_aload_n FX.1 FX.2.1 dL_place_0 rfl (lv_at hl 3 rfl) ?_
  refine lv_aload_n FX.1 FX.2.1 dL_place_1 rfl (lv_at hl 0 rfl) ?_
  refine lv_iload_n FX.1 FX.2.1 dL_place_2 rfl (lv_at hl 1 rfl) ?_
  refine lv_iload_n FX.1 FX.2.1 dL_place_3 rfl (lv_at hl 2 rfl) ?_
  by_cases hE : e_X0_place n1 n2 = 0
  · have q_1 : (e_X0_place n1 n2) = 0 := hE
    refine c_RDV (i0 := 0) (ci := 2) FX (r_X0_place l D cI cB x bx px t f g ak su gt lf rf kn n1 n2 q_1) mi_X0_place rfl ml_RL_145 (RMok.mk) hl.1 rfl (Nat.le_of_ble_eq_true rfl) dL_place_4 (by decide) hK hP [0, 1, 2] rfl rfl rfl rfl ?_
    refine lv_i2l (v := (v_X0_place n1).toInt64) FX.1 FX.2.1 dL_place_7 rfl ?_
    refine p_putN (wsN := [(x, .inr (2, [.ref bx, .ref px, .ref t, .int ak, .int su, .int gt, .int lf, .int rf, .int kn])), (bx, .inl (cI, 6, .inl f)), (px, .inl (cI, 2, .inl g)), (q, .inr (3, [.long ((v_X0_place n1).toInt64), sv]))]) (ci := 3) (v := .long ((v_X0_place n1).toInt64)) (ty := .long) FX inX1 tyX1_ok nmX1 hK hP hD hS 3 rfl rfl 0 (by decide) hz.2 rfl (by decide +kernel) rfl rfl (Nat.le_of_ble_eq_true rfl) dL_place_8 rfl (fun H locs hP hD hS => ?_)
    refine lv_goto (tgt := 22) FX.1 FX.2.1 dL_place_11 (by decide) ?_
    refine lv_iconst (v := 0) FX.1 FX.2.1 dL_place_22 (by decide) ?_
    exact retJi () FX hr hlk dL_place_23 rfl (by rw [show hn_place n1 n2 n0 = (v_X0_place n1).toInt64 from if_pos hE]; exact hP) hK (by rw [show hn_place n1 n2 n0 = (v_X0_place n1).toInt64 from if_pos hE]; exact hD) hS (by decide) (by decide) (by rw [hk_place, if_pos hE]) trivial
  · rcases (ev_place n1 n2) with hV | hV | hV
    · exact absurd hV hE
    · refine c_XV1 (i0 := 0) (ci := 2) (k2 := 2) (h1 := (0, 11, 14, 21)) (hs := [(0, 11, 18, 19)]) FX (x_X0_place l hl0 D cI cB x bx px t f g ak su gt lf rf kn n1 n2 hE) hV mi_X0_place rfl ml_RL_145 (RMok.mk) hl.1 rfl (Nat.le_of_ble_eq_true rfl) dL_place_4 (by decide) hK hP hA [0, 1, 2] rfl rfl rfl rfl hz.1.1 htb (by decide) (by decide) cl_RL_21 (by decide) (fun q9 H locs hP hS => ?_)
      refine lv_astore (lv' := [(4, .ref q9), (0, .ref x), (1, .int n1), (2, .int n2), (3, .ref q)]) FX.1 FX.2.1 dL_place_14 hl (by decide) rfl (fun ls hl => ?_)
      refine lv_iconst (v := 1) FX.1 FX.2.1 dL_place_16 (by decide) ?_
      exact retJi () FX hr hlk dL_place_17 rfl (by rw [show hn_place n1 n2 n0 = n0 from if_neg hE]; exact hP) hK (by rw [show hn_place n1 n2 n0 = n0 from if_neg hE]; exact hD) hS (by decide) (by decide) (by rw [hk_place, if_neg hE, if_pos hV]) trivial
    · refine c_XV2 (i0 := 0) (ci := 2) (k1 := 2) (k2 := 1) (h1 := (0, 11, 14, 21)) (h2 := (0, 11, 18, 19)) (hs := []) FX (x_X0_place l hl0 D cI cB x bx px t f g ak su gt lf rf kn n1 n2 hE) hV mi_X0_place rfl ml_RL_145 (RMok.mk) hl.1 rfl (Nat.le_of_ble_eq_true rfl) dL_place_4 (by decide) hK hP hA [0, 1, 2] rfl rfl rfl rfl hz.1.1 hz.1.2 htb (by decide) cl_RL_21 (by decide) (by decide) (by decide) cl_RL_19 (by decide) (fun q9 H locs hP hS => ?_)
      refine lv_astore (lv' := [(4, .ref q9), (0, .ref x), (1, .int n1), (2, .int n2), (3, .ref q)]) FX.1 FX.2.1 dL_place_18 hl (by decide) rfl (fun ls hl => ?_)
      refine lv_iconst (v := 2) FX.1 FX.2.1 dL_place_20 (by decide) ?_
      exact retJi () FX hr hlk dL_place_21 rfl (by rw [show hn_place n1 n2 n0 = n0 from if_neg hE]; exact hP) hK (by rw [show hn_place n1 n2 n0 = n0 from if_neg hE]; exact hD) hS (by decide) (by decide) (by rw [hk_place, if_neg hE, if_neg (by rw [hV]; decide)]) trivial
def hk_house (k1 : Int32) : Int32 := if e_X0_house k1 = 0 then 0 else 1
theorem ev_house (k1 : Int32) : e_X0_house k1 = 0 ∨ e_X0_house k1 = 2 := by
  unfold e_X0_house
  repeat' split
  all_goals first | exact Or.inl rfl | exact (rg_X0_needNumber _) | exact (rg_X0_needKind _ _) | exact Or.inr rfl
def hn_house (k1 : Int32) (f : Nat → Int32) (g : Nat → Int32) (ak : Int32) (su : Int32) (gt : Int32) (lf : Int32) (rf : Int32) (kn : Int32) (n0 : Int64) : Int64 := if e_X0_house k1 = 0 then (v_X0_house k1 f g ak su gt lf rf kn).toInt64 else n0
set_option maxRecDepth 100000 in
set_option maxHeartbeats 4000000 in
theorem j_L_house (l : Launch) (hl0 : l.stackTraces = false) (D : va_G) (cI cB : ClassId) (x bx px t : Nat) (f g : Nat → Int32) (ak su gt lf rf kn : Int32) (q : Nat) (n0 : Int64) (sv : Value) (k1 : Int32) : JH (S := Unit) l yL_house cL_house 4 (some .int) [(0, 10, 13, 21)] ({ frames := 8, cells := 1, slots := 6, locals := 132 } : Room) D cI cB [.ref x, .int k1, .ref q] [(x, .inr (2, [.ref bx, .ref px, .ref t, .int ak, .int su, .int gt, .int lf, .int rf, .int kn])), (bx, .inl (cI, 6, .inl f)), (px, .inl (cI, 2, .inl g)), (q, .inr (3, [.long n0, sv]))] (zAnd (zAnd zz zN) (zF RL 13 RX1 "n" "J" RL)) (fun _ => some (.int (hk_house k1))) (fun _ => True) (fun _ => [(x, .inr (2, [.ref bx, .ref px, .ref t, .int ak, .int su, .int gt, .int lf, .int rf, .int kn])), (bx, .inl (cI, 6, .inl f)), (px, .inl (cI, 2, .inl g)), (q, .inr (3, [.long (hn_house k1 f g ak su gt lf rf kn n0), sv]))]) 1 6 := by
  refine bodyJH (by decide +kernel) (Nat.le_of_ble_eq_true rfl) (fun p e s m args below meth c ls A ZZ => ?_)
  obtain ⟨FX, hr, hlk, hK, hP, hD, hS, hA, hz, htb, hl⟩ := ZZ
  have hl : lv_has ls 4 [(0, .ref x), (1, .int k1), (2, .ref q)] := hl
  have hP : va_P D KL [(x, .inr (2, [.ref bx, .ref px, .ref t, .int ak, .int su, .int gt, .int lf, .int rf, .int kn])), (bx, .inl (cI, 6, .inl f)), (px, .inl (cI, 2, .inl g)), (q, .inr (3, [.long n0, sv]))] s.heap := hP
  refine lv_aload_n FX.1 FX.2.1 dL_house_0 rfl (lv_at hl 2 rfl) ?_
  refine lv_aload_n FX.1 FX.2.1 dL_house_1 rfl (lv_at hl 0 rfl) ?_
  refine lv_iload_n FX.1 FX.2.1 dL_house_2 rfl (lv_at hl 1 rfl) ?_
  by_cases hE : e_X0_house k1 = 0
  · have q_1 : (e_X0_house k1) = 0 := hE
    refine c_RDV (i0 := 0) (ci := 2) FX (r_X0_house l D cI cB x bx px t f g ak su gt lf rf kn k1 q_1) mi_X0_house rfl ml_RL_148 (RMok.mk) hl.1 rfl (Nat.le_of_ble_eq_true rfl) dL_house_3 (by decide) hK hP [0, 1, 2] rfl rfl rfl rfl ?_
    refine lv_i2l (v := (v_X0_house k1 f g ak su gt lf rf kn).toInt64) FX.1 FX.2.1 dL_house_6 rfl ?_
    refine p_putN (wsN := [(x, .inr (2, [.ref bx, .ref px, .ref t, .int ak, .int su, .int gt, .int lf, .int rf, .int kn])), (bx, .inl (cI, 6, .inl f)), (px, .inl (cI, 2, .inl g)), (q, .inr (3, [.long ((v_X0_house k1 f g ak su gt lf rf kn).toInt64), sv]))]) (ci := 3) (v := .long ((v_X0_house k1 f g ak su gt lf rf kn).toInt64)) (ty := .long) FX inX1 tyX1_ok nmX1 hK hP hD hS 3 rfl rfl 0 (by decide) hz.2 rfl (by decide +kernel) rfl rfl (Nat.le_of_ble_eq_true rfl) dL_house_7 rfl (fun H locs hP hD hS => ?_)
    refine lv_goto (tgt := 16) FX.1 FX.2.1 dL_house_10 (by decide) ?_
    refine lv_iconst (v := 0) FX.1 FX.2.1 dL_house_16 (by decide) ?_
    exact retJi () FX hr hlk dL_house_17 rfl (by rw [show hn_house k1 f g ak su gt lf rf kn n0 = (v_X0_house k1 f g ak su gt lf rf kn).toInt64 from if_pos hE]; exact hP) hK (by rw [show hn_house k1 f g ak su gt lf rf kn n0 = (v_X0_house k1 f g ak su gt lf rf kn).toInt64 from if_pos hE]; exact hD) hS (by decide) (by decide) (by rw [hk_house, if_pos hE]) trivial
  · rcases (ev_house k1) with hV | hV
    · exact absurd hV hE
    · refine c_XV1 (i0 := 0) (ci := 2) (k2 := 2) (h1 := (0, 10, 13, 21)) (hs := []) FX (x_X0_house l hl0 D cI cB x bx px t f g ak su gt lf rf kn k1 hE) hV mi_X0_house rfl ml_RL_148 (RMok.mk) hl.1 rfl (Nat.le_of_ble_eq_true rfl) dL_house_3 (by decide) hK hP hA [0, 1, 2] rfl rfl rfl rfl hz.1.1 htb (by decide) (by decide) cl_RL_21 (by decide) (fun q9 H locs hP hS => ?_)
      refine lv_astore_n (lv' := [(3, .ref q9), (0, .ref x), (1, .int k1), (2, .ref q)]) FX.1 FX.2.1 dL_house_13 rfl hl (by decide) rfl (fun ls hl => ?_)
      refine lv_iconst (v := 1) FX.1 FX.2.1 dL_house_14 (by decide) ?_
      exact retJi () FX hr hlk dL_house_15 rfl (by rw [show hn_house k1 f g ak su gt lf rf kn n0 = n0 from if_neg hE]; exact hP) hK (by rw [show hn_house k1 f g ak su gt lf rf kn n0 = n0 from if_neg hE]; exact hD) hS (by decide) (by decide) (by rw [hk_house, if_neg hE]) trivial

set_option maxRecDepth 20000 in
theorem ml_RX2_47 : Cond.methodLink RX2 47 yX2_become ∈ bigW := bt5 16 rfl rfl
set_option maxRecDepth 20000 in
theorem mi_X2_become : MIv RX2 yX2_become cX2_become 3 (some .int) 2 := ⟨⟨bt5 19 rfl rfl, bt1 6 rfl rfl, by decide, by decide, by decide +kernel⟩, bt5 18 rfl rfl, bt0 12 rfl rfl⟩
set_option maxRecDepth 20000 in
theorem ml_RX2_51 : Cond.methodLink RX2 51 yX2_isNoTwo ∈ bigW := bt5 28 rfl rfl
set_option maxRecDepth 20000 in
theorem mi_X2_isNoTwo : MIv RX2 yX2_isNoTwo cX2_isNoTwo 6 (some .boolean) 5 := ⟨⟨bt5 31 rfl rfl, bt1 6 rfl rfl, by decide, by decide, by decide +kernel⟩, bt5 30 rfl rfl, bt0 13 rfl rfl⟩
set_option maxRecDepth 20000 in
theorem ml_RX2_58 : Cond.methodLink RX2 58 yX2_rule ∈ bigW := bt5 32 rfl rfl
set_option maxRecDepth 20000 in
theorem mi_X2_rule : MIs yX2_rule cX2_rule 3 (some .int) 3 := ⟨⟨bt5 34 rfl rfl, bt1 6 rfl rfl, by decide, by decide, by decide +kernel⟩, bt5 33 rfl rfl⟩
set_option maxRecDepth 20000 in
theorem ml_RX2_62 : Cond.methodLink RX2 62 yX2_turned ∈ bigW := bt5 42 rfl rfl
set_option maxRecDepth 20000 in
theorem mi_X2_turned : MIv RX2 yX2_turned cX2_turned 5 (some .int) 3 := ⟨⟨bt5 45 rfl rfl, bt1 6 rfl rfl, by decide, by decide, by decide +kernel⟩, bt5 44 rfl rfl, bt0 14 rfl rfl⟩
set_option maxRecDepth 20000 in
theorem ml_RX2_65 : Cond.methodLink RX2 65 yX2_isLet ∈ bigW := bt5 50 rfl rfl
set_option maxRecDepth 20000 in
theorem mi_X2_isLet : MIs yX2_isLet cX2_isLet 3 (some .boolean) 3 := ⟨⟨bt5 52 rfl rfl, bt1 6 rfl rfl, by decide, by decide, by decide +kernel⟩, bt5 51 rfl rfl⟩
set_option maxRecDepth 20000 in
theorem ml_RX2_68 : Cond.methodLink RX2 68 yX2_copy ∈ bigW := bt5 61 rfl rfl
set_option maxRecDepth 20000 in
theorem mi_X2_copy : MIv RX2 yX2_copy cX2_copy 3 (some .int) 2 := ⟨⟨bt5 23 rfl rfl, bt1 6 rfl rfl, by decide, by decide, by decide +kernel⟩, bt5 21 rfl rfl, bt5 22 rfl rfl⟩
set_option maxRecDepth 20000 in
theorem ml_RX2_77 : Cond.methodLink RX2 77 yX2_give ∈ bigW := bt5 70 rfl rfl
set_option maxRecDepth 20000 in
theorem mi_X2_give : MIv RX2 yX2_give cX2_give 2 none 1 := ⟨⟨bt5 73 rfl rfl, bt1 6 rfl rfl, by decide, by decide, by decide +kernel⟩, bt5 72 rfl rfl, bt0 15 rfl rfl⟩
set_option maxRecDepth 20000 in
theorem fl_RX2_81 : Cond.fieldLink RX2 81 "MaybehallModel" "left" "I" ∈ bigW := bt4 202 rfl rfl
set_option maxRecDepth 20000 in
theorem ml_RX2_84 : Cond.methodLink RX2 84 yX2_refuse ∈ bigW := bt5 82 rfl rfl
set_option maxRecDepth 20000 in
theorem mi_X2_refuse : MIv RX2 yX2_refuse cX2_refuse 1 (some .int) 0 := ⟨⟨bt5 85 rfl rfl, bt1 6 rfl rfl, by decide, by decide, by decide +kernel⟩, bt5 84 rfl rfl, bt0 16 rfl rfl⟩
set_option maxRecDepth 20000 in
theorem ml_RX2_91 : Cond.methodLink RX2 91 yX2_isNoPlain ∈ bigW := bt5 121 rfl rfl
set_option maxRecDepth 20000 in
theorem mi_X2_isNoPlain : MIs yX2_isNoPlain cX2_isNoPlain 1 (some .boolean) 1 := ⟨⟨bt5 123 rfl rfl, bt1 6 rfl rfl, by decide, by decide, by decide +kernel⟩, bt5 122 rfl rfl⟩
set_option maxRecDepth 20000 in
theorem fl_RX2_14 : Cond.fieldLink RX2 14 "MaybehallModel" "plains" "[I" ∈ bigW := bt4 198 rfl rfl
set_option maxRecDepth 20000 in
theorem ml_RX2_94 : Cond.methodLink RX2 94 yX2_isLike ∈ bigW := bt5 160 rfl rfl
set_option maxRecDepth 20000 in
theorem mi_X2_isLike : MIv RX2 yX2_isLike cX2_isLike 3 (some .boolean) 2 := ⟨⟨bt5 109 rfl rfl, bt1 6 rfl rfl, by decide, by decide, by decide +kernel⟩, bt5 107 rfl rfl, bt5 108 rfl rfl⟩
set_option maxRecDepth 20000 in
theorem ml_RX2_103 : Cond.methodLink RX2 103 yX2_compared ∈ bigW := bt5 165 rfl rfl
set_option maxRecDepth 20000 in
theorem mi_X2_compared : MIs yX2_compared cX2_compared 6 (some .int) 3 := ⟨⟨bt5 167 rfl rfl, bt1 6 rfl rfl, by decide, by decide, by decide +kernel⟩, bt5 166 rfl rfl⟩
set_option maxRecDepth 20000 in
theorem ml_RX2_106 : Cond.methodLink RX2 106 yX2_codesTold ∈ bigW := bt5 173 rfl rfl
set_option maxRecDepth 20000 in
theorem mi_X2_codesTold : MIv RX2 yX2_codesTold cX2_codesTold 4 (some .int) 3 := ⟨⟨bt5 176 rfl rfl, bt1 6 rfl rfl, by decide, by decide, by decide +kernel⟩, bt5 175 rfl rfl, bt0 17 rfl rfl⟩
set_option maxRecDepth 20000 in
theorem ml_RX2_109 : Cond.methodLink RX2 109 yX2_code ∈ bigW := bt5 181 rfl rfl
set_option maxRecDepth 20000 in
theorem mi_X2_code : MIv RX2 yX2_code cX2_code 2 (some .int) 1 := ⟨⟨bt5 113 rfl rfl, bt1 6 rfl rfl, by decide, by decide, by decide +kernel⟩, bt5 111 rfl rfl, bt5 112 rfl rfl⟩
set_option maxRecDepth 20000 in
theorem ml_RX2_112 : Cond.methodLink RX2 112 yX2_get ∈ bigW := bt5 186 rfl rfl
set_option maxRecDepth 20000 in
theorem mi_X2_get : MIv RX2 yX2_get cX2_get 2 (some .int) 1 := ⟨⟨bt5 81 rfl rfl, bt1 6 rfl rfl, by decide, by decide, by decide +kernel⟩, bt5 79 rfl rfl, bt5 80 rfl rfl⟩
set_option maxRecDepth 20000 in
theorem ml_RX2_115 : Cond.methodLink RX2 115 yX2_orElse ∈ bigW := bt5 191 rfl rfl
set_option maxRecDepth 20000 in
theorem mi_X2_orElse : MIv RX2 yX2_orElse cX2_orElse 3 (some .int) 2 := ⟨⟨bt5 89 rfl rfl, bt1 6 rfl rfl, by decide, by decide, by decide +kernel⟩, bt5 87 rfl rfl, bt5 88 rfl rfl⟩
set_option maxRecDepth 20000 in
theorem ml_RX2_118 : Cond.methodLink RX2 118 yX2_isEmpty ∈ bigW := bt5 196 rfl rfl
set_option maxRecDepth 20000 in
theorem mi_X2_isEmpty : MIv RX2 yX2_isEmpty cX2_isEmpty 2 (some .boolean) 1 := ⟨⟨bt5 105 rfl rfl, bt1 6 rfl rfl, by decide, by decide, by decide +kernel⟩, bt5 103 rfl rfl, bt5 104 rfl rfl⟩
set_option maxRecDepth 20000 in
theorem ml_RX2_121 : Cond.methodLink RX2 121 yX2_isFull ∈ bigW := bt5 201 rfl rfl
set_option maxRecDepth 20000 in
theorem mi_X2_isFull : MIv RX2 yX2_isFull cX2_isFull 2 (some .boolean) 1 := ⟨⟨bt5 101 rfl rfl, bt1 6 rfl rfl, by decide, by decide, by decide +kernel⟩, bt5 99 rfl rfl, bt5 100 rfl rfl⟩
set_option maxRecDepth 20000 in
theorem fl_RX2_146 : Cond.fieldLink RX2 146 "MaybehallModel" "knocks" "I" ∈ bigW := bt4 204 rfl rfl
theorem dX2_areLike_0 : decode cX2_areLike 0 = .ok (.aload_n 0, 1) := by decide +kernel
theorem dX2_areLike_1 : decode cX2_areLike 1 = .ok (.iload_n 1, 1) := by decide +kernel
theorem dX2_areLike_2 : decode cX2_areLike 2 = .ok (.iload_n 2, 1) := by decide +kernel
theorem dX2_areLike_3 : decode cX2_areLike 3 = .ok (.invokevirtual 94, 3) := by decide +kernel
theorem dX2_areLike_6 : decode cX2_areLike 6 = .ok (.ireturn, 1) := by decide +kernel
theorem dX2_arePlainLike_0 : decode cX2_arePlainLike 0 = .ok (.aload_n 0, 1) := by decide +kernel
theorem dX2_arePlainLike_1 : decode cX2_arePlainLike 1 = .ok (.iconst 0, 1) := by decide +kernel
theorem dX2_arePlainLike_2 : decode cX2_arePlainLike 2 = .ok (.putfield 17, 3) := by decide +kernel
theorem dX2_arePlainLike_5 : decode cX2_arePlainLike 5 = .ok (.aload_n 0, 1) := by decide +kernel
theorem dX2_arePlainLike_6 : decode cX2_arePlainLike 6 = .ok (.getfield 14, 3) := by decide +kernel
theorem dX2_arePlainLike_9 : decode cX2_arePlainLike 9 = .ok (.iconst 0, 1) := by decide +kernel
theorem dX2_arePlainLike_10 : decode cX2_arePlainLike 10 = .ok (.iaload, 1) := by decide +kernel
theorem dX2_arePlainLike_11 : decode cX2_arePlainLike 11 = .ok (.aload_n 0, 1) := by decide +kernel
theorem dX2_arePlainLike_12 : decode cX2_arePlainLike 12 = .ok (.getfield 14, 3) := by decide +kernel
theorem dX2_arePlainLike_15 : decode cX2_arePlainLike 15 = .ok (.iconst 1, 1) := by decide +kernel
theorem dX2_arePlainLike_16 : decode cX2_arePlainLike 16 = .ok (.iaload, 1) := by decide +kernel
theorem dX2_arePlainLike_17 : decode cX2_arePlainLike 17 = .ok (.if_icmp .ne 7, 3) := by decide +kernel
theorem dX2_arePlainLike_20 : decode cX2_arePlainLike 20 = .ok (.iconst 1, 1) := by decide +kernel
theorem dX2_arePlainLike_21 : decode cX2_arePlainLike 21 = .ok (.goto 4, 3) := by decide +kernel
theorem dX2_arePlainLike_24 : decode cX2_arePlainLike 24 = .ok (.iconst 0, 1) := by decide +kernel
theorem dX2_arePlainLike_25 : decode cX2_arePlainLike 25 = .ok (.ireturn, 1) := by decide +kernel
theorem dX2_both_0 : decode cX2_both 0 = .ok (.aload_n 0, 1) := by decide +kernel
theorem dX2_both_1 : decode cX2_both 1 = .ok (.iload_n 1, 1) := by decide +kernel
theorem dX2_both_2 : decode cX2_both 2 = .ok (.invokestatic 40, 3) := by decide +kernel
theorem dX2_both_5 : decode cX2_both 5 = .ok (.ifCond .ne 10, 3) := by decide +kernel
theorem dX2_both_8 : decode cX2_both 8 = .ok (.iload_n 2, 1) := by decide +kernel
theorem dX2_both_9 : decode cX2_both 9 = .ok (.invokestatic 40, 3) := by decide +kernel
theorem dX2_both_12 : decode cX2_both 12 = .ok (.ifCond .eq 7, 3) := by decide +kernel
theorem dX2_both_15 : decode cX2_both 15 = .ok (.iconst 1, 1) := by decide +kernel
theorem dX2_both_16 : decode cX2_both 16 = .ok (.goto 4, 3) := by decide +kernel
theorem dX2_both_19 : decode cX2_both 19 = .ok (.iconst 0, 1) := by decide +kernel
theorem dX2_both_20 : decode cX2_both 20 = .ok (.iload_n 3, 1) := by decide +kernel
theorem dX2_both_21 : decode cX2_both 21 = .ok (.iconst 0, 1) := by decide +kernel
theorem dX2_both_22 : decode cX2_both 22 = .ok (.iconst 5, 1) := by decide +kernel
theorem dX2_both_23 : decode cX2_both 23 = .ok (.invokestatic 21, 3) := by decide +kernel
theorem dX2_both_26 : decode cX2_both 26 = .ok (.ifCond .eq 21, 3) := by decide +kernel
theorem dX2_both_29 : decode cX2_both 29 = .ok (.iload 4, 2) := by decide +kernel
theorem dX2_both_31 : decode cX2_both 31 = .ok (.iconst 0, 1) := by decide +kernel
theorem dX2_both_32 : decode cX2_both 32 = .ok (.iconst 4, 1) := by decide +kernel
theorem dX2_both_33 : decode cX2_both 33 = .ok (.invokestatic 21, 3) := by decide +kernel
theorem dX2_both_36 : decode cX2_both 36 = .ok (.ifCond .eq 11, 3) := by decide +kernel
theorem dX2_both_39 : decode cX2_both 39 = .ok (.iload 5, 2) := by decide +kernel
theorem dX2_both_41 : decode cX2_both 41 = .ok (.invokestatic 25, 3) := by decide +kernel
theorem dX2_both_44 : decode cX2_both 44 = .ok (.ifCond .eq 7, 3) := by decide +kernel
theorem dX2_both_47 : decode cX2_both 47 = .ok (.iconst 1, 1) := by decide +kernel
theorem dX2_both_48 : decode cX2_both 48 = .ok (.goto 4, 3) := by decide +kernel
theorem dX2_both_51 : decode cX2_both 51 = .ok (.iconst 0, 1) := by decide +kernel
theorem dX2_both_52 : decode cX2_both 52 = .ok (.invokevirtual 43, 3) := by decide +kernel
theorem dX2_both_55 : decode cX2_both 55 = .ok (.ifCond .eq 5, 3) := by decide +kernel
theorem dX2_both_58 : decode cX2_both 58 = .ok (.iconst 0, 1) := by decide +kernel
theorem dX2_both_59 : decode cX2_both 59 = .ok (.ireturn, 1) := by decide +kernel
theorem dX2_both_60 : decode cX2_both 60 = .ok (.aload_n 0, 1) := by decide +kernel
theorem dX2_both_61 : decode cX2_both 61 = .ok (.getfield 10, 3) := by decide +kernel
theorem dX2_both_64 : decode cX2_both 64 = .ok (.iload_n 2, 1) := by decide +kernel
theorem dX2_both_65 : decode cX2_both 65 = .ok (.iaload, 1) := by decide +kernel
theorem dX2_both_66 : decode cX2_both 66 = .ok (.ldc 9, 2) := by decide +kernel
theorem dX2_both_68 : decode cX2_both 68 = .ok (.if_icmp .ne 11, 3) := by decide +kernel
theorem dX2_both_71 : decode cX2_both 71 = .ok (.aload_n 0, 1) := by decide +kernel
theorem dX2_both_72 : decode cX2_both 72 = .ok (.iload_n 1, 1) := by decide +kernel
theorem dX2_both_73 : decode cX2_both 73 = .ok (.ldc 9, 2) := by decide +kernel
theorem dX2_both_75 : decode cX2_both 75 = .ok (.invokevirtual 47, 3) := by decide +kernel
theorem dX2_both_78 : decode cX2_both 78 = .ok (.ireturn, 1) := by decide +kernel
theorem dX2_both_79 : decode cX2_both 79 = .ok (.aload_n 0, 1) := by decide +kernel
theorem dX2_both_80 : decode cX2_both 80 = .ok (.dup, 1) := by decide +kernel
theorem dX2_both_81 : decode cX2_both 81 = .ok (.getfield 55, 3) := by decide +kernel
theorem dX2_both_84 : decode cX2_both 84 = .ok (.iconst 1, 1) := by decide +kernel
theorem dX2_both_85 : decode cX2_both 85 = .ok (.iadd, 1) := by decide +kernel
theorem dX2_both_86 : decode cX2_both 86 = .ok (.putfield 55, 3) := by decide +kernel
theorem dX2_both_89 : decode cX2_both 89 = .ok (.iload_n 3, 1) := by decide +kernel
theorem dX2_both_90 : decode cX2_both 90 = .ok (.aload_n 0, 1) := by decide +kernel
theorem dX2_both_91 : decode cX2_both 91 = .ok (.getfield 10, 3) := by decide +kernel
theorem dX2_both_94 : decode cX2_both 94 = .ok (.iload_n 2, 1) := by decide +kernel
theorem dX2_both_95 : decode cX2_both 95 = .ok (.iaload, 1) := by decide +kernel
theorem dX2_both_96 : decode cX2_both 96 = .ok (.iload 5, 2) := by decide +kernel
theorem dX2_both_98 : decode cX2_both 98 = .ok (.invokestatic 58, 3) := by decide +kernel
theorem dX2_both_101 : decode cX2_both 101 = .ok (.istore 6, 2) := by decide +kernel
theorem dX2_both_103 : decode cX2_both 103 = .ok (.iload 6, 2) := by decide +kernel
theorem dX2_both_105 : decode cX2_both 105 = .ok (.ldc 9, 2) := by decide +kernel
theorem dX2_both_107 : decode cX2_both 107 = .ok (.if_icmp .ne 11, 3) := by decide +kernel
theorem dX2_both_110 : decode cX2_both 110 = .ok (.aload_n 0, 1) := by decide +kernel
theorem dX2_both_111 : decode cX2_both 111 = .ok (.iload_n 1, 1) := by decide +kernel
theorem dX2_both_112 : decode cX2_both 112 = .ok (.ldc 9, 2) := by decide +kernel
theorem dX2_both_114 : decode cX2_both 114 = .ok (.invokevirtual 47, 3) := by decide +kernel
theorem dX2_both_117 : decode cX2_both 117 = .ok (.ireturn, 1) := by decide +kernel
theorem dX2_both_118 : decode cX2_both 118 = .ok (.aload_n 0, 1) := by decide +kernel
theorem dX2_both_119 : decode cX2_both 119 = .ok (.dup, 1) := by decide +kernel
theorem dX2_both_120 : decode cX2_both 120 = .ok (.getfield 55, 3) := by decide +kernel
theorem dX2_both_123 : decode cX2_both 123 = .ok (.iconst 1, 1) := by decide +kernel
theorem dX2_both_124 : decode cX2_both 124 = .ok (.iadd, 1) := by decide +kernel
theorem dX2_both_125 : decode cX2_both 125 = .ok (.putfield 55, 3) := by decide +kernel
theorem dX2_both_128 : decode cX2_both 128 = .ok (.aload_n 0, 1) := by decide +kernel
theorem dX2_both_129 : decode cX2_both 129 = .ok (.iload_n 1, 1) := by decide +kernel
theorem dX2_both_130 : decode cX2_both 130 = .ok (.aload_n 0, 1) := by decide +kernel
theorem dX2_both_131 : decode cX2_both 131 = .ok (.iload 4, 2) := by decide +kernel
theorem dX2_both_133 : decode cX2_both 133 = .ok (.iload 6, 2) := by decide +kernel
theorem dX2_both_135 : decode cX2_both 135 = .ok (.iload 5, 2) := by decide +kernel
theorem dX2_both_137 : decode cX2_both 137 = .ok (.invokevirtual 62, 3) := by decide +kernel
theorem dX2_both_140 : decode cX2_both 140 = .ok (.invokevirtual 47, 3) := by decide +kernel
theorem dX2_both_143 : decode cX2_both 143 = .ok (.ireturn, 1) := by decide +kernel
theorem dX2_code_0 : decode cX2_code 0 = .ok (.aload_n 0, 1) := by decide +kernel
theorem dX2_code_1 : decode cX2_code 1 = .ok (.iload_n 1, 1) := by decide +kernel
theorem dX2_code_2 : decode cX2_code 2 = .ok (.invokestatic 40, 3) := by decide +kernel
theorem dX2_code_5 : decode cX2_code 5 = .ok (.iconst 0, 1) := by decide +kernel
theorem dX2_code_6 : decode cX2_code 6 = .ok (.invokevirtual 43, 3) := by decide +kernel
theorem dX2_code_9 : decode cX2_code 9 = .ok (.ifCond .eq 7, 3) := by decide +kernel
theorem dX2_code_12 : decode cX2_code 12 = .ok (.iconst 0, 1) := by decide +kernel
theorem dX2_code_13 : decode cX2_code 13 = .ok (.goto 12, 3) := by decide +kernel
theorem dX2_code_16 : decode cX2_code 16 = .ok (.aload_n 0, 1) := by decide +kernel
theorem dX2_code_17 : decode cX2_code 17 = .ok (.getfield 10, 3) := by decide +kernel
theorem dX2_code_20 : decode cX2_code 20 = .ok (.iload_n 1, 1) := by decide +kernel
theorem dX2_code_21 : decode cX2_code 21 = .ok (.iaload, 1) := by decide +kernel
theorem dX2_code_22 : decode cX2_code 22 = .ok (.invokestatic 88, 3) := by decide +kernel
theorem dX2_code_25 : decode cX2_code 25 = .ok (.ireturn, 1) := by decide +kernel
theorem dX2_codeOf_0 : decode cX2_codeOf 0 = .ok (.aload_n 0, 1) := by decide +kernel
theorem dX2_codeOf_1 : decode cX2_codeOf 1 = .ok (.iload_n 1, 1) := by decide +kernel
theorem dX2_codeOf_2 : decode cX2_codeOf 2 = .ok (.invokevirtual 109, 3) := by decide +kernel
theorem dX2_codeOf_5 : decode cX2_codeOf 5 = .ok (.ireturn, 1) := by decide +kernel
theorem dX2_codes_0 : decode cX2_codes 0 = .ok (.aload_n 0, 1) := by decide +kernel
theorem dX2_codes_1 : decode cX2_codes 1 = .ok (.iload_n 1, 1) := by decide +kernel
theorem dX2_codes_2 : decode cX2_codes 2 = .ok (.invokestatic 40, 3) := by decide +kernel
theorem dX2_codes_5 : decode cX2_codes 5 = .ok (.ifCond .ne 17, 3) := by decide +kernel
theorem dX2_codes_8 : decode cX2_codes 8 = .ok (.iload_n 2, 1) := by decide +kernel
theorem dX2_codes_9 : decode cX2_codes 9 = .ok (.invokestatic 40, 3) := by decide +kernel
theorem dX2_codes_12 : decode cX2_codes 12 = .ok (.ifCond .ne 10, 3) := by decide +kernel
theorem dX2_codes_15 : decode cX2_codes 15 = .ok (.iload_n 3, 1) := by decide +kernel
theorem dX2_codes_16 : decode cX2_codes 16 = .ok (.invokestatic 40, 3) := by decide +kernel
theorem dX2_codes_19 : decode cX2_codes 19 = .ok (.ifCond .eq 7, 3) := by decide +kernel
theorem dX2_codes_22 : decode cX2_codes 22 = .ok (.iconst 1, 1) := by decide +kernel
theorem dX2_codes_23 : decode cX2_codes 23 = .ok (.goto 4, 3) := by decide +kernel
theorem dX2_codes_26 : decode cX2_codes 26 = .ok (.iconst 0, 1) := by decide +kernel
theorem dX2_codes_27 : decode cX2_codes 27 = .ok (.iconst 0, 1) := by decide +kernel
theorem dX2_codes_28 : decode cX2_codes 28 = .ok (.invokevirtual 43, 3) := by decide +kernel
theorem dX2_codes_31 : decode cX2_codes 31 = .ok (.ifCond .eq 7, 3) := by decide +kernel
theorem dX2_codes_34 : decode cX2_codes 34 = .ok (.iconst 0, 1) := by decide +kernel
theorem dX2_codes_35 : decode cX2_codes 35 = .ok (.goto 10, 3) := by decide +kernel
theorem dX2_codes_38 : decode cX2_codes 38 = .ok (.aload_n 0, 1) := by decide +kernel
theorem dX2_codes_39 : decode cX2_codes 39 = .ok (.iload_n 1, 1) := by decide +kernel
theorem dX2_codes_40 : decode cX2_codes 40 = .ok (.iload_n 2, 1) := by decide +kernel
theorem dX2_codes_41 : decode cX2_codes 41 = .ok (.iload_n 3, 1) := by decide +kernel
theorem dX2_codes_42 : decode cX2_codes 42 = .ok (.invokevirtual 106, 3) := by decide +kernel
theorem dX2_codes_45 : decode cX2_codes 45 = .ok (.ireturn, 1) := by decide +kernel
theorem dX2_compare_0 : decode cX2_compare 0 = .ok (.aload_n 0, 1) := by decide +kernel
theorem dX2_compare_1 : decode cX2_compare 1 = .ok (.iload_n 1, 1) := by decide +kernel
theorem dX2_compare_2 : decode cX2_compare 2 = .ok (.invokestatic 40, 3) := by decide +kernel
theorem dX2_compare_5 : decode cX2_compare 5 = .ok (.ifCond .ne 10, 3) := by decide +kernel
theorem dX2_compare_8 : decode cX2_compare 8 = .ok (.iload_n 2, 1) := by decide +kernel
theorem dX2_compare_9 : decode cX2_compare 9 = .ok (.invokestatic 40, 3) := by decide +kernel
theorem dX2_compare_12 : decode cX2_compare 12 = .ok (.ifCond .eq 7, 3) := by decide +kernel
theorem dX2_compare_15 : decode cX2_compare 15 = .ok (.iconst 1, 1) := by decide +kernel
theorem dX2_compare_16 : decode cX2_compare 16 = .ok (.goto 4, 3) := by decide +kernel
theorem dX2_compare_19 : decode cX2_compare 19 = .ok (.iconst 0, 1) := by decide +kernel
theorem dX2_compare_20 : decode cX2_compare 20 = .ok (.iload_n 3, 1) := by decide +kernel
theorem dX2_compare_21 : decode cX2_compare 21 = .ok (.iconst 0, 1) := by decide +kernel
theorem dX2_compare_22 : decode cX2_compare 22 = .ok (.iconst 2, 1) := by decide +kernel
theorem dX2_compare_23 : decode cX2_compare 23 = .ok (.invokestatic 21, 3) := by decide +kernel
theorem dX2_compare_26 : decode cX2_compare 26 = .ok (.ifCond .ne 7, 3) := by decide +kernel
theorem dX2_compare_29 : decode cX2_compare 29 = .ok (.iconst 1, 1) := by decide +kernel
theorem dX2_compare_30 : decode cX2_compare 30 = .ok (.goto 4, 3) := by decide +kernel
theorem dX2_compare_33 : decode cX2_compare 33 = .ok (.iconst 0, 1) := by decide +kernel
theorem dX2_compare_34 : decode cX2_compare 34 = .ok (.invokevirtual 43, 3) := by decide +kernel
theorem dX2_compare_37 : decode cX2_compare 37 = .ok (.ifCond .eq 7, 3) := by decide +kernel
theorem dX2_compare_40 : decode cX2_compare 40 = .ok (.iconst 0, 1) := by decide +kernel
theorem dX2_compare_41 : decode cX2_compare 41 = .ok (.goto 19, 3) := by decide +kernel
theorem dX2_compare_44 : decode cX2_compare 44 = .ok (.aload_n 0, 1) := by decide +kernel
theorem dX2_compare_45 : decode cX2_compare 45 = .ok (.getfield 10, 3) := by decide +kernel
theorem dX2_compare_48 : decode cX2_compare 48 = .ok (.iload_n 1, 1) := by decide +kernel
theorem dX2_compare_49 : decode cX2_compare 49 = .ok (.iaload, 1) := by decide +kernel
theorem dX2_compare_50 : decode cX2_compare 50 = .ok (.aload_n 0, 1) := by decide +kernel
theorem dX2_compare_51 : decode cX2_compare 51 = .ok (.getfield 10, 3) := by decide +kernel
theorem dX2_compare_54 : decode cX2_compare 54 = .ok (.iload_n 2, 1) := by decide +kernel
theorem dX2_compare_55 : decode cX2_compare 55 = .ok (.iaload, 1) := by decide +kernel
theorem dX2_compare_56 : decode cX2_compare 56 = .ok (.iload_n 3, 1) := by decide +kernel
theorem dX2_compare_57 : decode cX2_compare 57 = .ok (.invokestatic 103, 3) := by decide +kernel
theorem dX2_compare_60 : decode cX2_compare 60 = .ok (.ireturn, 1) := by decide +kernel
theorem dX2_copy_0 : decode cX2_copy 0 = .ok (.aload_n 0, 1) := by decide +kernel
theorem dX2_copy_1 : decode cX2_copy 1 = .ok (.iload_n 1, 1) := by decide +kernel
theorem dX2_copy_2 : decode cX2_copy 2 = .ok (.invokestatic 40, 3) := by decide +kernel
theorem dX2_copy_5 : decode cX2_copy 5 = .ok (.ifCond .ne 10, 3) := by decide +kernel
theorem dX2_copy_8 : decode cX2_copy 8 = .ok (.iload_n 2, 1) := by decide +kernel
theorem dX2_copy_9 : decode cX2_copy 9 = .ok (.invokestatic 40, 3) := by decide +kernel
theorem dX2_copy_12 : decode cX2_copy 12 = .ok (.ifCond .eq 7, 3) := by decide +kernel
theorem dX2_copy_15 : decode cX2_copy 15 = .ok (.iconst 1, 1) := by decide +kernel
theorem dX2_copy_16 : decode cX2_copy 16 = .ok (.goto 4, 3) := by decide +kernel
theorem dX2_copy_19 : decode cX2_copy 19 = .ok (.iconst 0, 1) := by decide +kernel
theorem dX2_copy_20 : decode cX2_copy 20 = .ok (.iconst 0, 1) := by decide +kernel
theorem dX2_copy_21 : decode cX2_copy 21 = .ok (.invokevirtual 43, 3) := by decide +kernel
theorem dX2_copy_24 : decode cX2_copy 24 = .ok (.ifCond .eq 7, 3) := by decide +kernel
theorem dX2_copy_27 : decode cX2_copy 27 = .ok (.iconst 0, 1) := by decide +kernel
theorem dX2_copy_28 : decode cX2_copy 28 = .ok (.goto 14, 3) := by decide +kernel
theorem dX2_copy_31 : decode cX2_copy 31 = .ok (.aload_n 0, 1) := by decide +kernel
theorem dX2_copy_32 : decode cX2_copy 32 = .ok (.iload_n 1, 1) := by decide +kernel
theorem dX2_copy_33 : decode cX2_copy 33 = .ok (.aload_n 0, 1) := by decide +kernel
theorem dX2_copy_34 : decode cX2_copy 34 = .ok (.getfield 10, 3) := by decide +kernel
theorem dX2_copy_37 : decode cX2_copy 37 = .ok (.iload_n 2, 1) := by decide +kernel
theorem dX2_copy_38 : decode cX2_copy 38 = .ok (.iaload, 1) := by decide +kernel
theorem dX2_copy_39 : decode cX2_copy 39 = .ok (.invokevirtual 47, 3) := by decide +kernel
theorem dX2_copy_42 : decode cX2_copy 42 = .ok (.ireturn, 1) := by decide +kernel
theorem dX2_empty_0 : decode cX2_empty 0 = .ok (.aload_n 0, 1) := by decide +kernel
theorem dX2_empty_1 : decode cX2_empty 1 = .ok (.iload_n 1, 1) := by decide +kernel
theorem dX2_empty_2 : decode cX2_empty 2 = .ok (.invokestatic 40, 3) := by decide +kernel
theorem dX2_empty_5 : decode cX2_empty 5 = .ok (.iconst 0, 1) := by decide +kernel
theorem dX2_empty_6 : decode cX2_empty 6 = .ok (.invokevirtual 43, 3) := by decide +kernel
theorem dX2_empty_9 : decode cX2_empty 9 = .ok (.ifCond .eq 5, 3) := by decide +kernel
theorem dX2_empty_12 : decode cX2_empty 12 = .ok (.iconst 0, 1) := by decide +kernel
theorem dX2_empty_13 : decode cX2_empty 13 = .ok (.ireturn, 1) := by decide +kernel
theorem dX2_empty_14 : decode cX2_empty 14 = .ok (.aload_n 0, 1) := by decide +kernel
theorem dX2_empty_15 : decode cX2_empty 15 = .ok (.getfield 10, 3) := by decide +kernel
theorem dX2_empty_18 : decode cX2_empty 18 = .ok (.iload_n 1, 1) := by decide +kernel
theorem dX2_empty_19 : decode cX2_empty 19 = .ok (.iaload, 1) := by decide +kernel
theorem dX2_empty_20 : decode cX2_empty 20 = .ok (.ldc 9, 2) := by decide +kernel
theorem dX2_empty_22 : decode cX2_empty 22 = .ok (.if_icmp .eq 7, 3) := by decide +kernel
theorem dX2_empty_25 : decode cX2_empty 25 = .ok (.iconst 1, 1) := by decide +kernel
theorem dX2_empty_26 : decode cX2_empty 26 = .ok (.goto 4, 3) := by decide +kernel
theorem dX2_empty_29 : decode cX2_empty 29 = .ok (.iconst 0, 1) := by decide +kernel
theorem dX2_empty_30 : decode cX2_empty 30 = .ok (.invokestatic 32, 3) := by decide +kernel
theorem dX2_empty_33 : decode cX2_empty 33 = .ok (.istore_n 2, 1) := by decide +kernel
theorem dX2_empty_34 : decode cX2_empty 34 = .ok (.aload_n 0, 1) := by decide +kernel
theorem dX2_empty_35 : decode cX2_empty 35 = .ok (.getfield 10, 3) := by decide +kernel
theorem dX2_empty_38 : decode cX2_empty 38 = .ok (.iload_n 1, 1) := by decide +kernel
theorem dX2_empty_39 : decode cX2_empty 39 = .ok (.ldc 9, 2) := by decide +kernel
theorem dX2_empty_41 : decode cX2_empty 41 = .ok (.iastore, 1) := by decide +kernel
theorem dX2_empty_42 : decode cX2_empty 42 = .ok (.iload_n 2, 1) := by decide +kernel
theorem dX2_empty_43 : decode cX2_empty 43 = .ok (.ireturn, 1) := by decide +kernel
theorem dX2_emptyPlain_0 : decode cX2_emptyPlain 0 = .ok (.aload_n 0, 1) := by decide +kernel
theorem dX2_emptyPlain_1 : decode cX2_emptyPlain 1 = .ok (.iload_n 1, 1) := by decide +kernel
theorem dX2_emptyPlain_2 : decode cX2_emptyPlain 2 = .ok (.invokestatic 91, 3) := by decide +kernel
theorem dX2_emptyPlain_5 : decode cX2_emptyPlain 5 = .ok (.iconst 0, 1) := by decide +kernel
theorem dX2_emptyPlain_6 : decode cX2_emptyPlain 6 = .ok (.invokevirtual 43, 3) := by decide +kernel
theorem dX2_emptyPlain_9 : decode cX2_emptyPlain 9 = .ok (.ifCond .eq 5, 3) := by decide +kernel
theorem dX2_emptyPlain_12 : decode cX2_emptyPlain 12 = .ok (.iconst 0, 1) := by decide +kernel
theorem dX2_emptyPlain_13 : decode cX2_emptyPlain 13 = .ok (.ireturn, 1) := by decide +kernel
theorem dX2_emptyPlain_14 : decode cX2_emptyPlain 14 = .ok (.aload_n 0, 1) := by decide +kernel
theorem dX2_emptyPlain_15 : decode cX2_emptyPlain 15 = .ok (.getfield 14, 3) := by decide +kernel
theorem dX2_emptyPlain_18 : decode cX2_emptyPlain 18 = .ok (.iload_n 1, 1) := by decide +kernel
theorem dX2_emptyPlain_19 : decode cX2_emptyPlain 19 = .ok (.iaload, 1) := by decide +kernel
theorem dX2_emptyPlain_20 : decode cX2_emptyPlain 20 = .ok (.ldc 9, 2) := by decide +kernel
theorem dX2_emptyPlain_22 : decode cX2_emptyPlain 22 = .ok (.if_icmp .eq 7, 3) := by decide +kernel
theorem dX2_emptyPlain_25 : decode cX2_emptyPlain 25 = .ok (.iconst 1, 1) := by decide +kernel
theorem dX2_emptyPlain_26 : decode cX2_emptyPlain 26 = .ok (.goto 4, 3) := by decide +kernel
theorem dX2_emptyPlain_29 : decode cX2_emptyPlain 29 = .ok (.iconst 0, 1) := by decide +kernel
theorem dX2_emptyPlain_30 : decode cX2_emptyPlain 30 = .ok (.invokestatic 32, 3) := by decide +kernel
theorem dX2_emptyPlain_33 : decode cX2_emptyPlain 33 = .ok (.istore_n 2, 1) := by decide +kernel
theorem dX2_emptyPlain_34 : decode cX2_emptyPlain 34 = .ok (.aload_n 0, 1) := by decide +kernel
theorem dX2_emptyPlain_35 : decode cX2_emptyPlain 35 = .ok (.getfield 14, 3) := by decide +kernel
theorem dX2_emptyPlain_38 : decode cX2_emptyPlain 38 = .ok (.iload_n 1, 1) := by decide +kernel
theorem dX2_emptyPlain_39 : decode cX2_emptyPlain 39 = .ok (.ldc 9, 2) := by decide +kernel
theorem dX2_emptyPlain_41 : decode cX2_emptyPlain 41 = .ok (.iastore, 1) := by decide +kernel
theorem dX2_emptyPlain_42 : decode cX2_emptyPlain 42 = .ok (.iload_n 2, 1) := by decide +kernel
theorem dX2_emptyPlain_43 : decode cX2_emptyPlain 43 = .ok (.ireturn, 1) := by decide +kernel
theorem dX2_fill_0 : decode cX2_fill 0 = .ok (.aload_n 0, 1) := by decide +kernel
theorem dX2_fill_1 : decode cX2_fill 1 = .ok (.iload_n 1, 1) := by decide +kernel
theorem dX2_fill_2 : decode cX2_fill 2 = .ok (.invokestatic 40, 3) := by decide +kernel
theorem dX2_fill_5 : decode cX2_fill 5 = .ok (.iload_n 2, 1) := by decide +kernel
theorem dX2_fill_6 : decode cX2_fill 6 = .ok (.invokestatic 25, 3) := by decide +kernel
theorem dX2_fill_9 : decode cX2_fill 9 = .ok (.invokevirtual 43, 3) := by decide +kernel
theorem dX2_fill_12 : decode cX2_fill 12 = .ok (.ifCond .eq 5, 3) := by decide +kernel
theorem dX2_fill_15 : decode cX2_fill 15 = .ok (.iconst 0, 1) := by decide +kernel
theorem dX2_fill_16 : decode cX2_fill 16 = .ok (.ireturn, 1) := by decide +kernel
theorem dX2_fill_17 : decode cX2_fill 17 = .ok (.aload_n 0, 1) := by decide +kernel
theorem dX2_fill_18 : decode cX2_fill 18 = .ok (.getfield 10, 3) := by decide +kernel
theorem dX2_fill_21 : decode cX2_fill 21 = .ok (.iload_n 1, 1) := by decide +kernel
theorem dX2_fill_22 : decode cX2_fill 22 = .ok (.iaload, 1) := by decide +kernel
theorem dX2_fill_23 : decode cX2_fill 23 = .ok (.ldc 9, 2) := by decide +kernel
theorem dX2_fill_25 : decode cX2_fill 25 = .ok (.if_icmp .eq 7, 3) := by decide +kernel
theorem dX2_fill_28 : decode cX2_fill 28 = .ok (.iconst 1, 1) := by decide +kernel
theorem dX2_fill_29 : decode cX2_fill 29 = .ok (.goto 4, 3) := by decide +kernel
theorem dX2_fill_32 : decode cX2_fill 32 = .ok (.iconst 0, 1) := by decide +kernel
theorem dX2_fill_33 : decode cX2_fill 33 = .ok (.invokestatic 32, 3) := by decide +kernel
theorem dX2_fill_36 : decode cX2_fill 36 = .ok (.istore_n 3, 1) := by decide +kernel
theorem dX2_fill_37 : decode cX2_fill 37 = .ok (.aload_n 0, 1) := by decide +kernel
theorem dX2_fill_38 : decode cX2_fill 38 = .ok (.getfield 10, 3) := by decide +kernel
theorem dX2_fill_41 : decode cX2_fill 41 = .ok (.iload_n 1, 1) := by decide +kernel
theorem dX2_fill_42 : decode cX2_fill 42 = .ok (.iload_n 2, 1) := by decide +kernel
theorem dX2_fill_43 : decode cX2_fill 43 = .ok (.iastore, 1) := by decide +kernel
theorem dX2_fill_44 : decode cX2_fill 44 = .ok (.iload_n 3, 1) := by decide +kernel
theorem dX2_fill_45 : decode cX2_fill 45 = .ok (.ireturn, 1) := by decide +kernel
theorem dX2_fillMaybe_0 : decode cX2_fillMaybe 0 = .ok (.aload_n 0, 1) := by decide +kernel
theorem dX2_fillMaybe_1 : decode cX2_fillMaybe 1 = .ok (.iload_n 1, 1) := by decide +kernel
theorem dX2_fillMaybe_2 : decode cX2_fillMaybe 2 = .ok (.invokestatic 40, 3) := by decide +kernel
theorem dX2_fillMaybe_5 : decode cX2_fillMaybe 5 = .ok (.iload_n 2, 1) := by decide +kernel
theorem dX2_fillMaybe_6 : decode cX2_fillMaybe 6 = .ok (.invokestatic 25, 3) := by decide +kernel
theorem dX2_fillMaybe_9 : decode cX2_fillMaybe 9 = .ok (.invokevirtual 43, 3) := by decide +kernel
theorem dX2_fillMaybe_12 : decode cX2_fillMaybe 12 = .ok (.ifCond .eq 7, 3) := by decide +kernel
theorem dX2_fillMaybe_15 : decode cX2_fillMaybe 15 = .ok (.iconst 0, 1) := by decide +kernel
theorem dX2_fillMaybe_16 : decode cX2_fillMaybe 16 = .ok (.goto 18, 3) := by decide +kernel
theorem dX2_fillMaybe_19 : decode cX2_fillMaybe 19 = .ok (.aload_n 0, 1) := by decide +kernel
theorem dX2_fillMaybe_20 : decode cX2_fillMaybe 20 = .ok (.iload_n 1, 1) := by decide +kernel
theorem dX2_fillMaybe_21 : decode cX2_fillMaybe 21 = .ok (.iload_n 3, 1) := by decide +kernel
theorem dX2_fillMaybe_22 : decode cX2_fillMaybe 22 = .ok (.ifCond .eq 7, 3) := by decide +kernel
theorem dX2_fillMaybe_25 : decode cX2_fillMaybe 25 = .ok (.iload_n 2, 1) := by decide +kernel
theorem dX2_fillMaybe_26 : decode cX2_fillMaybe 26 = .ok (.goto 5, 3) := by decide +kernel
theorem dX2_fillMaybe_29 : decode cX2_fillMaybe 29 = .ok (.ldc 9, 2) := by decide +kernel
theorem dX2_fillMaybe_31 : decode cX2_fillMaybe 31 = .ok (.invokevirtual 47, 3) := by decide +kernel
theorem dX2_fillMaybe_34 : decode cX2_fillMaybe 34 = .ok (.ireturn, 1) := by decide +kernel
theorem dX2_fillPlain_0 : decode cX2_fillPlain 0 = .ok (.aload_n 0, 1) := by decide +kernel
theorem dX2_fillPlain_1 : decode cX2_fillPlain 1 = .ok (.iload_n 1, 1) := by decide +kernel
theorem dX2_fillPlain_2 : decode cX2_fillPlain 2 = .ok (.invokestatic 91, 3) := by decide +kernel
theorem dX2_fillPlain_5 : decode cX2_fillPlain 5 = .ok (.iload_n 2, 1) := by decide +kernel
theorem dX2_fillPlain_6 : decode cX2_fillPlain 6 = .ok (.invokestatic 25, 3) := by decide +kernel
theorem dX2_fillPlain_9 : decode cX2_fillPlain 9 = .ok (.invokevirtual 43, 3) := by decide +kernel
theorem dX2_fillPlain_12 : decode cX2_fillPlain 12 = .ok (.ifCond .eq 5, 3) := by decide +kernel
theorem dX2_fillPlain_15 : decode cX2_fillPlain 15 = .ok (.iconst 0, 1) := by decide +kernel
theorem dX2_fillPlain_16 : decode cX2_fillPlain 16 = .ok (.ireturn, 1) := by decide +kernel
theorem dX2_fillPlain_17 : decode cX2_fillPlain 17 = .ok (.aload_n 0, 1) := by decide +kernel
theorem dX2_fillPlain_18 : decode cX2_fillPlain 18 = .ok (.getfield 14, 3) := by decide +kernel
theorem dX2_fillPlain_21 : decode cX2_fillPlain 21 = .ok (.iload_n 1, 1) := by decide +kernel
theorem dX2_fillPlain_22 : decode cX2_fillPlain 22 = .ok (.iaload, 1) := by decide +kernel
theorem dX2_fillPlain_23 : decode cX2_fillPlain 23 = .ok (.ldc 9, 2) := by decide +kernel
theorem dX2_fillPlain_25 : decode cX2_fillPlain 25 = .ok (.if_icmp .eq 7, 3) := by decide +kernel
theorem dX2_fillPlain_28 : decode cX2_fillPlain 28 = .ok (.iconst 1, 1) := by decide +kernel
theorem dX2_fillPlain_29 : decode cX2_fillPlain 29 = .ok (.goto 4, 3) := by decide +kernel
theorem dX2_fillPlain_32 : decode cX2_fillPlain 32 = .ok (.iconst 0, 1) := by decide +kernel
theorem dX2_fillPlain_33 : decode cX2_fillPlain 33 = .ok (.invokestatic 32, 3) := by decide +kernel
theorem dX2_fillPlain_36 : decode cX2_fillPlain 36 = .ok (.istore_n 3, 1) := by decide +kernel
theorem dX2_fillPlain_37 : decode cX2_fillPlain 37 = .ok (.aload_n 0, 1) := by decide +kernel
theorem dX2_fillPlain_38 : decode cX2_fillPlain 38 = .ok (.getfield 14, 3) := by decide +kernel
theorem dX2_fillPlain_41 : decode cX2_fillPlain 41 = .ok (.iload_n 1, 1) := by decide +kernel
theorem dX2_fillPlain_42 : decode cX2_fillPlain 42 = .ok (.iload_n 2, 1) := by decide +kernel
theorem dX2_fillPlain_43 : decode cX2_fillPlain 43 = .ok (.iastore, 1) := by decide +kernel
theorem dX2_fillPlain_44 : decode cX2_fillPlain 44 = .ok (.iload_n 3, 1) := by decide +kernel
theorem dX2_fillPlain_45 : decode cX2_fillPlain 45 = .ok (.ireturn, 1) := by decide +kernel
theorem dX2_filter_0 : decode cX2_filter 0 = .ok (.aload_n 0, 1) := by decide +kernel
theorem dX2_filter_1 : decode cX2_filter 1 = .ok (.iload_n 1, 1) := by decide +kernel
theorem dX2_filter_2 : decode cX2_filter 2 = .ok (.iload_n 2, 1) := by decide +kernel
theorem dX2_filter_3 : decode cX2_filter 3 = .ok (.iload_n 3, 1) := by decide +kernel
theorem dX2_filter_4 : decode cX2_filter 4 = .ok (.iconst 4, 1) := by decide +kernel
theorem dX2_filter_5 : decode cX2_filter 5 = .ok (.iload 4, 2) := by decide +kernel
theorem dX2_filter_7 : decode cX2_filter 7 = .ok (.invokevirtual 51, 3) := by decide +kernel
theorem dX2_filter_10 : decode cX2_filter 10 = .ok (.ifCond .eq 5, 3) := by decide +kernel
theorem dX2_filter_13 : decode cX2_filter 13 = .ok (.iconst 0, 1) := by decide +kernel
theorem dX2_filter_14 : decode cX2_filter 14 = .ok (.ireturn, 1) := by decide +kernel
theorem dX2_filter_15 : decode cX2_filter 15 = .ok (.aload_n 0, 1) := by decide +kernel
theorem dX2_filter_16 : decode cX2_filter 16 = .ok (.getfield 10, 3) := by decide +kernel
theorem dX2_filter_19 : decode cX2_filter 19 = .ok (.iload_n 2, 1) := by decide +kernel
theorem dX2_filter_20 : decode cX2_filter 20 = .ok (.iaload, 1) := by decide +kernel
theorem dX2_filter_21 : decode cX2_filter 21 = .ok (.ldc 9, 2) := by decide +kernel
theorem dX2_filter_23 : decode cX2_filter 23 = .ok (.if_icmp .ne 11, 3) := by decide +kernel
theorem dX2_filter_26 : decode cX2_filter 26 = .ok (.aload_n 0, 1) := by decide +kernel
theorem dX2_filter_27 : decode cX2_filter 27 = .ok (.iload_n 1, 1) := by decide +kernel
theorem dX2_filter_28 : decode cX2_filter 28 = .ok (.ldc 9, 2) := by decide +kernel
theorem dX2_filter_30 : decode cX2_filter 30 = .ok (.invokevirtual 47, 3) := by decide +kernel
theorem dX2_filter_33 : decode cX2_filter 33 = .ok (.ireturn, 1) := by decide +kernel
theorem dX2_filter_34 : decode cX2_filter 34 = .ok (.aload_n 0, 1) := by decide +kernel
theorem dX2_filter_35 : decode cX2_filter 35 = .ok (.dup, 1) := by decide +kernel
theorem dX2_filter_36 : decode cX2_filter 36 = .ok (.getfield 55, 3) := by decide +kernel
theorem dX2_filter_39 : decode cX2_filter 39 = .ok (.iconst 1, 1) := by decide +kernel
theorem dX2_filter_40 : decode cX2_filter 40 = .ok (.iadd, 1) := by decide +kernel
theorem dX2_filter_41 : decode cX2_filter 41 = .ok (.putfield 55, 3) := by decide +kernel
theorem dX2_filter_44 : decode cX2_filter 44 = .ok (.aload_n 0, 1) := by decide +kernel
theorem dX2_filter_45 : decode cX2_filter 45 = .ok (.iload_n 1, 1) := by decide +kernel
theorem dX2_filter_46 : decode cX2_filter 46 = .ok (.iload_n 3, 1) := by decide +kernel
theorem dX2_filter_47 : decode cX2_filter 47 = .ok (.aload_n 0, 1) := by decide +kernel
theorem dX2_filter_48 : decode cX2_filter 48 = .ok (.getfield 10, 3) := by decide +kernel
theorem dX2_filter_51 : decode cX2_filter 51 = .ok (.iload_n 2, 1) := by decide +kernel
theorem dX2_filter_52 : decode cX2_filter 52 = .ok (.iaload, 1) := by decide +kernel
theorem dX2_filter_53 : decode cX2_filter 53 = .ok (.iload 4, 2) := by decide +kernel
theorem dX2_filter_55 : decode cX2_filter 55 = .ok (.invokestatic 65, 3) := by decide +kernel
theorem dX2_filter_58 : decode cX2_filter 58 = .ok (.ifCond .eq 12, 3) := by decide +kernel
theorem dX2_filter_61 : decode cX2_filter 61 = .ok (.aload_n 0, 1) := by decide +kernel
theorem dX2_filter_62 : decode cX2_filter 62 = .ok (.getfield 10, 3) := by decide +kernel
theorem dX2_filter_65 : decode cX2_filter 65 = .ok (.iload_n 2, 1) := by decide +kernel
theorem dX2_filter_66 : decode cX2_filter 66 = .ok (.iaload, 1) := by decide +kernel
theorem dX2_filter_67 : decode cX2_filter 67 = .ok (.goto 5, 3) := by decide +kernel
theorem dX2_filter_70 : decode cX2_filter 70 = .ok (.ldc 9, 2) := by decide +kernel
theorem dX2_filter_72 : decode cX2_filter 72 = .ok (.invokevirtual 47, 3) := by decide +kernel
theorem dX2_filter_75 : decode cX2_filter 75 = .ok (.ireturn, 1) := by decide +kernel
theorem dX2_fromPlain_0 : decode cX2_fromPlain 0 = .ok (.aload_n 0, 1) := by decide +kernel
theorem dX2_fromPlain_1 : decode cX2_fromPlain 1 = .ok (.iload_n 1, 1) := by decide +kernel
theorem dX2_fromPlain_2 : decode cX2_fromPlain 2 = .ok (.invokestatic 40, 3) := by decide +kernel
theorem dX2_fromPlain_5 : decode cX2_fromPlain 5 = .ok (.ifCond .ne 10, 3) := by decide +kernel
theorem dX2_fromPlain_8 : decode cX2_fromPlain 8 = .ok (.iload_n 2, 1) := by decide +kernel
theorem dX2_fromPlain_9 : decode cX2_fromPlain 9 = .ok (.invokestatic 91, 3) := by decide +kernel
theorem dX2_fromPlain_12 : decode cX2_fromPlain 12 = .ok (.ifCond .eq 7, 3) := by decide +kernel
theorem dX2_fromPlain_15 : decode cX2_fromPlain 15 = .ok (.iconst 1, 1) := by decide +kernel
theorem dX2_fromPlain_16 : decode cX2_fromPlain 16 = .ok (.goto 4, 3) := by decide +kernel
theorem dX2_fromPlain_19 : decode cX2_fromPlain 19 = .ok (.iconst 0, 1) := by decide +kernel
theorem dX2_fromPlain_20 : decode cX2_fromPlain 20 = .ok (.iconst 0, 1) := by decide +kernel
theorem dX2_fromPlain_21 : decode cX2_fromPlain 21 = .ok (.invokevirtual 43, 3) := by decide +kernel
theorem dX2_fromPlain_24 : decode cX2_fromPlain 24 = .ok (.ifCond .eq 7, 3) := by decide +kernel
theorem dX2_fromPlain_27 : decode cX2_fromPlain 27 = .ok (.iconst 0, 1) := by decide +kernel
theorem dX2_fromPlain_28 : decode cX2_fromPlain 28 = .ok (.goto 14, 3) := by decide +kernel
theorem dX2_fromPlain_31 : decode cX2_fromPlain 31 = .ok (.aload_n 0, 1) := by decide +kernel
theorem dX2_fromPlain_32 : decode cX2_fromPlain 32 = .ok (.iload_n 1, 1) := by decide +kernel
theorem dX2_fromPlain_33 : decode cX2_fromPlain 33 = .ok (.aload_n 0, 1) := by decide +kernel
theorem dX2_fromPlain_34 : decode cX2_fromPlain 34 = .ok (.getfield 14, 3) := by decide +kernel
theorem dX2_fromPlain_37 : decode cX2_fromPlain 37 = .ok (.iload_n 2, 1) := by decide +kernel
theorem dX2_fromPlain_38 : decode cX2_fromPlain 38 = .ok (.iaload, 1) := by decide +kernel
theorem dX2_fromPlain_39 : decode cX2_fromPlain 39 = .ok (.invokevirtual 47, 3) := by decide +kernel
theorem dX2_fromPlain_42 : decode cX2_fromPlain 42 = .ok (.ireturn, 1) := by decide +kernel
theorem dX2_get_0 : decode cX2_get 0 = .ok (.aload_n 0, 1) := by decide +kernel
theorem dX2_get_1 : decode cX2_get 1 = .ok (.iload_n 1, 1) := by decide +kernel
theorem dX2_get_2 : decode cX2_get 2 = .ok (.invokestatic 40, 3) := by decide +kernel
theorem dX2_get_5 : decode cX2_get 5 = .ok (.iconst 0, 1) := by decide +kernel
theorem dX2_get_6 : decode cX2_get 6 = .ok (.invokevirtual 43, 3) := by decide +kernel
theorem dX2_get_9 : decode cX2_get 9 = .ok (.ifCond .eq 7, 3) := by decide +kernel
theorem dX2_get_12 : decode cX2_get 12 = .ok (.iconst 0, 1) := by decide +kernel
theorem dX2_get_13 : decode cX2_get 13 = .ok (.goto 27, 3) := by decide +kernel
theorem dX2_get_16 : decode cX2_get 16 = .ok (.aload_n 0, 1) := by decide +kernel
theorem dX2_get_17 : decode cX2_get 17 = .ok (.getfield 10, 3) := by decide +kernel
theorem dX2_get_20 : decode cX2_get 20 = .ok (.iload_n 1, 1) := by decide +kernel
theorem dX2_get_21 : decode cX2_get 21 = .ok (.iaload, 1) := by decide +kernel
theorem dX2_get_22 : decode cX2_get 22 = .ok (.ldc 9, 2) := by decide +kernel
theorem dX2_get_24 : decode cX2_get 24 = .ok (.if_icmp .ne 10, 3) := by decide +kernel
theorem dX2_get_27 : decode cX2_get 27 = .ok (.aload_n 0, 1) := by decide +kernel
theorem dX2_get_28 : decode cX2_get 28 = .ok (.invokevirtual 84, 3) := by decide +kernel
theorem dX2_get_31 : decode cX2_get 31 = .ok (.goto 9, 3) := by decide +kernel
theorem dX2_get_34 : decode cX2_get 34 = .ok (.aload_n 0, 1) := by decide +kernel
theorem dX2_get_35 : decode cX2_get 35 = .ok (.getfield 10, 3) := by decide +kernel
theorem dX2_get_38 : decode cX2_get 38 = .ok (.iload_n 1, 1) := by decide +kernel
theorem dX2_get_39 : decode cX2_get 39 = .ok (.iaload, 1) := by decide +kernel
theorem dX2_get_40 : decode cX2_get 40 = .ok (.ireturn, 1) := by decide +kernel
theorem dX2_getPlain_0 : decode cX2_getPlain 0 = .ok (.aload_n 0, 1) := by decide +kernel
theorem dX2_getPlain_1 : decode cX2_getPlain 1 = .ok (.iload_n 1, 1) := by decide +kernel
theorem dX2_getPlain_2 : decode cX2_getPlain 2 = .ok (.invokestatic 91, 3) := by decide +kernel
theorem dX2_getPlain_5 : decode cX2_getPlain 5 = .ok (.iconst 0, 1) := by decide +kernel
theorem dX2_getPlain_6 : decode cX2_getPlain 6 = .ok (.invokevirtual 43, 3) := by decide +kernel
theorem dX2_getPlain_9 : decode cX2_getPlain 9 = .ok (.ifCond .eq 7, 3) := by decide +kernel
theorem dX2_getPlain_12 : decode cX2_getPlain 12 = .ok (.iconst 0, 1) := by decide +kernel
theorem dX2_getPlain_13 : decode cX2_getPlain 13 = .ok (.goto 27, 3) := by decide +kernel
theorem dX2_getPlain_16 : decode cX2_getPlain 16 = .ok (.aload_n 0, 1) := by decide +kernel
theorem dX2_getPlain_17 : decode cX2_getPlain 17 = .ok (.getfield 14, 3) := by decide +kernel
theorem dX2_getPlain_20 : decode cX2_getPlain 20 = .ok (.iload_n 1, 1) := by decide +kernel
theorem dX2_getPlain_21 : decode cX2_getPlain 21 = .ok (.iaload, 1) := by decide +kernel
theorem dX2_getPlain_22 : decode cX2_getPlain 22 = .ok (.ldc 9, 2) := by decide +kernel
theorem dX2_getPlain_24 : decode cX2_getPlain 24 = .ok (.if_icmp .ne 10, 3) := by decide +kernel
theorem dX2_getPlain_27 : decode cX2_getPlain 27 = .ok (.aload_n 0, 1) := by decide +kernel
theorem dX2_getPlain_28 : decode cX2_getPlain 28 = .ok (.invokevirtual 84, 3) := by decide +kernel
theorem dX2_getPlain_31 : decode cX2_getPlain 31 = .ok (.goto 9, 3) := by decide +kernel
theorem dX2_getPlain_34 : decode cX2_getPlain 34 = .ok (.aload_n 0, 1) := by decide +kernel
theorem dX2_getPlain_35 : decode cX2_getPlain 35 = .ok (.getfield 14, 3) := by decide +kernel
theorem dX2_getPlain_38 : decode cX2_getPlain 38 = .ok (.iload_n 1, 1) := by decide +kernel
theorem dX2_getPlain_39 : decode cX2_getPlain 39 = .ok (.iaload, 1) := by decide +kernel
theorem dX2_getPlain_40 : decode cX2_getPlain 40 = .ok (.ireturn, 1) := by decide +kernel
theorem dX2_isEmpty_0 : decode cX2_isEmpty 0 = .ok (.aload_n 0, 1) := by decide +kernel
theorem dX2_isEmpty_1 : decode cX2_isEmpty 1 = .ok (.iload_n 1, 1) := by decide +kernel
theorem dX2_isEmpty_2 : decode cX2_isEmpty 2 = .ok (.invokestatic 40, 3) := by decide +kernel
theorem dX2_isEmpty_5 : decode cX2_isEmpty 5 = .ok (.iconst 0, 1) := by decide +kernel
theorem dX2_isEmpty_6 : decode cX2_isEmpty 6 = .ok (.invokevirtual 43, 3) := by decide +kernel
theorem dX2_isEmpty_9 : decode cX2_isEmpty 9 = .ok (.ifCond .ne 18, 3) := by decide +kernel
theorem dX2_isEmpty_12 : decode cX2_isEmpty 12 = .ok (.aload_n 0, 1) := by decide +kernel
theorem dX2_isEmpty_13 : decode cX2_isEmpty 13 = .ok (.getfield 10, 3) := by decide +kernel
theorem dX2_isEmpty_16 : decode cX2_isEmpty 16 = .ok (.iload_n 1, 1) := by decide +kernel
theorem dX2_isEmpty_17 : decode cX2_isEmpty 17 = .ok (.iaload, 1) := by decide +kernel
theorem dX2_isEmpty_18 : decode cX2_isEmpty 18 = .ok (.ldc 9, 2) := by decide +kernel
theorem dX2_isEmpty_20 : decode cX2_isEmpty 20 = .ok (.if_icmp .ne 7, 3) := by decide +kernel
theorem dX2_isEmpty_23 : decode cX2_isEmpty 23 = .ok (.iconst 1, 1) := by decide +kernel
theorem dX2_isEmpty_24 : decode cX2_isEmpty 24 = .ok (.goto 4, 3) := by decide +kernel
theorem dX2_isEmpty_27 : decode cX2_isEmpty 27 = .ok (.iconst 0, 1) := by decide +kernel
theorem dX2_isEmpty_28 : decode cX2_isEmpty 28 = .ok (.ireturn, 1) := by decide +kernel
theorem dX2_isFull_0 : decode cX2_isFull 0 = .ok (.aload_n 0, 1) := by decide +kernel
theorem dX2_isFull_1 : decode cX2_isFull 1 = .ok (.iload_n 1, 1) := by decide +kernel
theorem dX2_isFull_2 : decode cX2_isFull 2 = .ok (.invokestatic 40, 3) := by decide +kernel
theorem dX2_isFull_5 : decode cX2_isFull 5 = .ok (.iconst 0, 1) := by decide +kernel
theorem dX2_isFull_6 : decode cX2_isFull 6 = .ok (.invokevirtual 43, 3) := by decide +kernel
theorem dX2_isFull_9 : decode cX2_isFull 9 = .ok (.ifCond .ne 18, 3) := by decide +kernel
theorem dX2_isFull_12 : decode cX2_isFull 12 = .ok (.aload_n 0, 1) := by decide +kernel
theorem dX2_isFull_13 : decode cX2_isFull 13 = .ok (.getfield 10, 3) := by decide +kernel
theorem dX2_isFull_16 : decode cX2_isFull 16 = .ok (.iload_n 1, 1) := by decide +kernel
theorem dX2_isFull_17 : decode cX2_isFull 17 = .ok (.iaload, 1) := by decide +kernel
theorem dX2_isFull_18 : decode cX2_isFull 18 = .ok (.ldc 9, 2) := by decide +kernel
theorem dX2_isFull_20 : decode cX2_isFull 20 = .ok (.if_icmp .eq 7, 3) := by decide +kernel
theorem dX2_isFull_23 : decode cX2_isFull 23 = .ok (.iconst 1, 1) := by decide +kernel
theorem dX2_isFull_24 : decode cX2_isFull 24 = .ok (.goto 4, 3) := by decide +kernel
theorem dX2_isFull_27 : decode cX2_isFull 27 = .ok (.iconst 0, 1) := by decide +kernel
theorem dX2_isFull_28 : decode cX2_isFull 28 = .ok (.ireturn, 1) := by decide +kernel
theorem dX2_isFullPlain_0 : decode cX2_isFullPlain 0 = .ok (.aload_n 0, 1) := by decide +kernel
theorem dX2_isFullPlain_1 : decode cX2_isFullPlain 1 = .ok (.iload_n 1, 1) := by decide +kernel
theorem dX2_isFullPlain_2 : decode cX2_isFullPlain 2 = .ok (.invokestatic 91, 3) := by decide +kernel
theorem dX2_isFullPlain_5 : decode cX2_isFullPlain 5 = .ok (.iconst 0, 1) := by decide +kernel
theorem dX2_isFullPlain_6 : decode cX2_isFullPlain 6 = .ok (.invokevirtual 43, 3) := by decide +kernel
theorem dX2_isFullPlain_9 : decode cX2_isFullPlain 9 = .ok (.ifCond .ne 18, 3) := by decide +kernel
theorem dX2_isFullPlain_12 : decode cX2_isFullPlain 12 = .ok (.aload_n 0, 1) := by decide +kernel
theorem dX2_isFullPlain_13 : decode cX2_isFullPlain 13 = .ok (.getfield 14, 3) := by decide +kernel
theorem dX2_isFullPlain_16 : decode cX2_isFullPlain 16 = .ok (.iload_n 1, 1) := by decide +kernel
theorem dX2_isFullPlain_17 : decode cX2_isFullPlain 17 = .ok (.iaload, 1) := by decide +kernel
theorem dX2_isFullPlain_18 : decode cX2_isFullPlain 18 = .ok (.ldc 9, 2) := by decide +kernel
theorem dX2_isFullPlain_20 : decode cX2_isFullPlain 20 = .ok (.if_icmp .eq 7, 3) := by decide +kernel
theorem dX2_isFullPlain_23 : decode cX2_isFullPlain 23 = .ok (.iconst 1, 1) := by decide +kernel
theorem dX2_isFullPlain_24 : decode cX2_isFullPlain 24 = .ok (.goto 4, 3) := by decide +kernel
theorem dX2_isFullPlain_27 : decode cX2_isFullPlain 27 = .ok (.iconst 0, 1) := by decide +kernel
theorem dX2_isFullPlain_28 : decode cX2_isFullPlain 28 = .ok (.ireturn, 1) := by decide +kernel
theorem dX2_isLike_0 : decode cX2_isLike 0 = .ok (.aload_n 0, 1) := by decide +kernel
theorem dX2_isLike_1 : decode cX2_isLike 1 = .ok (.iload_n 1, 1) := by decide +kernel
theorem dX2_isLike_2 : decode cX2_isLike 2 = .ok (.invokestatic 40, 3) := by decide +kernel
theorem dX2_isLike_5 : decode cX2_isLike 5 = .ok (.ifCond .ne 10, 3) := by decide +kernel
theorem dX2_isLike_8 : decode cX2_isLike 8 = .ok (.iload_n 2, 1) := by decide +kernel
theorem dX2_isLike_9 : decode cX2_isLike 9 = .ok (.invokestatic 40, 3) := by decide +kernel
theorem dX2_isLike_12 : decode cX2_isLike 12 = .ok (.ifCond .eq 7, 3) := by decide +kernel
theorem dX2_isLike_15 : decode cX2_isLike 15 = .ok (.iconst 1, 1) := by decide +kernel
theorem dX2_isLike_16 : decode cX2_isLike 16 = .ok (.goto 4, 3) := by decide +kernel
theorem dX2_isLike_19 : decode cX2_isLike 19 = .ok (.iconst 0, 1) := by decide +kernel
theorem dX2_isLike_20 : decode cX2_isLike 20 = .ok (.iconst 0, 1) := by decide +kernel
theorem dX2_isLike_21 : decode cX2_isLike 21 = .ok (.invokevirtual 43, 3) := by decide +kernel
theorem dX2_isLike_24 : decode cX2_isLike 24 = .ok (.ifCond .ne 22, 3) := by decide +kernel
theorem dX2_isLike_27 : decode cX2_isLike 27 = .ok (.aload_n 0, 1) := by decide +kernel
theorem dX2_isLike_28 : decode cX2_isLike 28 = .ok (.getfield 10, 3) := by decide +kernel
theorem dX2_isLike_31 : decode cX2_isLike 31 = .ok (.iload_n 1, 1) := by decide +kernel
theorem dX2_isLike_32 : decode cX2_isLike 32 = .ok (.iaload, 1) := by decide +kernel
theorem dX2_isLike_33 : decode cX2_isLike 33 = .ok (.aload_n 0, 1) := by decide +kernel
theorem dX2_isLike_34 : decode cX2_isLike 34 = .ok (.getfield 10, 3) := by decide +kernel
theorem dX2_isLike_37 : decode cX2_isLike 37 = .ok (.iload_n 2, 1) := by decide +kernel
theorem dX2_isLike_38 : decode cX2_isLike 38 = .ok (.iaload, 1) := by decide +kernel
theorem dX2_isLike_39 : decode cX2_isLike 39 = .ok (.if_icmp .ne 7, 3) := by decide +kernel
theorem dX2_isLike_42 : decode cX2_isLike 42 = .ok (.iconst 1, 1) := by decide +kernel
theorem dX2_isLike_43 : decode cX2_isLike 43 = .ok (.goto 4, 3) := by decide +kernel
theorem dX2_isLike_46 : decode cX2_isLike 46 = .ok (.iconst 0, 1) := by decide +kernel
theorem dX2_isLike_47 : decode cX2_isLike 47 = .ok (.ireturn, 1) := by decide +kernel
theorem dX2_isNothing_0 : decode cX2_isNothing 0 = .ok (.aload_n 0, 1) := by decide +kernel
theorem dX2_isNothing_1 : decode cX2_isNothing 1 = .ok (.iload_n 1, 1) := by decide +kernel
theorem dX2_isNothing_2 : decode cX2_isNothing 2 = .ok (.invokevirtual 118, 3) := by decide +kernel
theorem dX2_isNothing_5 : decode cX2_isNothing 5 = .ok (.ireturn, 1) := by decide +kernel
theorem dX2_isSomething_0 : decode cX2_isSomething 0 = .ok (.aload_n 0, 1) := by decide +kernel
theorem dX2_isSomething_1 : decode cX2_isSomething 1 = .ok (.iload_n 1, 1) := by decide +kernel
theorem dX2_isSomething_2 : decode cX2_isSomething 2 = .ok (.invokevirtual 121, 3) := by decide +kernel
theorem dX2_isSomething_5 : decode cX2_isSomething 5 = .ok (.ireturn, 1) := by decide +kernel
theorem dX2_knock_0 : decode cX2_knock 0 = .ok (.aload_n 0, 1) := by decide +kernel
theorem dX2_knock_1 : decode cX2_knock 1 = .ok (.iconst 0, 1) := by decide +kernel
theorem dX2_knock_2 : decode cX2_knock 2 = .ok (.putfield 17, 3) := by decide +kernel
theorem dX2_knock_5 : decode cX2_knock 5 = .ok (.aload_n 0, 1) := by decide +kernel
theorem dX2_knock_6 : decode cX2_knock 6 = .ok (.dup, 1) := by decide +kernel
theorem dX2_knock_7 : decode cX2_knock 7 = .ok (.getfield 146, 3) := by decide +kernel
theorem dX2_knock_10 : decode cX2_knock 10 = .ok (.iconst 1, 1) := by decide +kernel
theorem dX2_knock_11 : decode cX2_knock 11 = .ok (.iadd, 1) := by decide +kernel
theorem dX2_knock_12 : decode cX2_knock 12 = .ok (.dup_x1, 1) := by decide +kernel
theorem dX2_knock_13 : decode cX2_knock 13 = .ok (.putfield 146, 3) := by decide +kernel
theorem dX2_knock_16 : decode cX2_knock 16 = .ok (.ireturn, 1) := by decide +kernel
theorem dX2_map_0 : decode cX2_map 0 = .ok (.aload_n 0, 1) := by decide +kernel
theorem dX2_map_1 : decode cX2_map 1 = .ok (.iload_n 1, 1) := by decide +kernel
theorem dX2_map_2 : decode cX2_map 2 = .ok (.iload_n 2, 1) := by decide +kernel
theorem dX2_map_3 : decode cX2_map 3 = .ok (.iload_n 3, 1) := by decide +kernel
theorem dX2_map_4 : decode cX2_map 4 = .ok (.iconst 5, 1) := by decide +kernel
theorem dX2_map_5 : decode cX2_map 5 = .ok (.iload 4, 2) := by decide +kernel
theorem dX2_map_7 : decode cX2_map 7 = .ok (.invokevirtual 51, 3) := by decide +kernel
theorem dX2_map_10 : decode cX2_map 10 = .ok (.ifCond .eq 5, 3) := by decide +kernel
theorem dX2_map_13 : decode cX2_map 13 = .ok (.iconst 0, 1) := by decide +kernel
theorem dX2_map_14 : decode cX2_map 14 = .ok (.ireturn, 1) := by decide +kernel
theorem dX2_map_15 : decode cX2_map 15 = .ok (.aload_n 0, 1) := by decide +kernel
theorem dX2_map_16 : decode cX2_map 16 = .ok (.getfield 10, 3) := by decide +kernel
theorem dX2_map_19 : decode cX2_map 19 = .ok (.iload_n 2, 1) := by decide +kernel
theorem dX2_map_20 : decode cX2_map 20 = .ok (.iaload, 1) := by decide +kernel
theorem dX2_map_21 : decode cX2_map 21 = .ok (.ldc 9, 2) := by decide +kernel
theorem dX2_map_23 : decode cX2_map 23 = .ok (.if_icmp .ne 11, 3) := by decide +kernel
theorem dX2_map_26 : decode cX2_map 26 = .ok (.aload_n 0, 1) := by decide +kernel
theorem dX2_map_27 : decode cX2_map 27 = .ok (.iload_n 1, 1) := by decide +kernel
theorem dX2_map_28 : decode cX2_map 28 = .ok (.ldc 9, 2) := by decide +kernel
theorem dX2_map_30 : decode cX2_map 30 = .ok (.invokevirtual 47, 3) := by decide +kernel
theorem dX2_map_33 : decode cX2_map 33 = .ok (.ireturn, 1) := by decide +kernel
theorem dX2_map_34 : decode cX2_map 34 = .ok (.aload_n 0, 1) := by decide +kernel
theorem dX2_map_35 : decode cX2_map 35 = .ok (.dup, 1) := by decide +kernel
theorem dX2_map_36 : decode cX2_map 36 = .ok (.getfield 55, 3) := by decide +kernel
theorem dX2_map_39 : decode cX2_map 39 = .ok (.iconst 1, 1) := by decide +kernel
theorem dX2_map_40 : decode cX2_map 40 = .ok (.iadd, 1) := by decide +kernel
theorem dX2_map_41 : decode cX2_map 41 = .ok (.putfield 55, 3) := by decide +kernel
theorem dX2_map_44 : decode cX2_map 44 = .ok (.aload_n 0, 1) := by decide +kernel
theorem dX2_map_45 : decode cX2_map 45 = .ok (.iload_n 1, 1) := by decide +kernel
theorem dX2_map_46 : decode cX2_map 46 = .ok (.iload_n 3, 1) := by decide +kernel
theorem dX2_map_47 : decode cX2_map 47 = .ok (.aload_n 0, 1) := by decide +kernel
theorem dX2_map_48 : decode cX2_map 48 = .ok (.getfield 10, 3) := by decide +kernel
theorem dX2_map_51 : decode cX2_map 51 = .ok (.iload_n 2, 1) := by decide +kernel
theorem dX2_map_52 : decode cX2_map 52 = .ok (.iaload, 1) := by decide +kernel
theorem dX2_map_53 : decode cX2_map 53 = .ok (.iload 4, 2) := by decide +kernel
theorem dX2_map_55 : decode cX2_map 55 = .ok (.invokestatic 58, 3) := by decide +kernel
theorem dX2_map_58 : decode cX2_map 58 = .ok (.invokevirtual 47, 3) := by decide +kernel
theorem dX2_map_61 : decode cX2_map 61 = .ok (.ireturn, 1) := by decide +kernel
theorem dX2_must_0 : decode cX2_must 0 = .ok (.aload_n 0, 1) := by decide +kernel
theorem dX2_must_1 : decode cX2_must 1 = .ok (.iload_n 1, 1) := by decide +kernel
theorem dX2_must_2 : decode cX2_must 2 = .ok (.invokevirtual 112, 3) := by decide +kernel
theorem dX2_must_5 : decode cX2_must 5 = .ok (.ireturn, 1) := by decide +kernel
theorem dX2_mustElse_0 : decode cX2_mustElse 0 = .ok (.aload_n 0, 1) := by decide +kernel
theorem dX2_mustElse_1 : decode cX2_mustElse 1 = .ok (.iload_n 1, 1) := by decide +kernel
theorem dX2_mustElse_2 : decode cX2_mustElse 2 = .ok (.iload_n 2, 1) := by decide +kernel
theorem dX2_mustElse_3 : decode cX2_mustElse 3 = .ok (.invokevirtual 115, 3) := by decide +kernel
theorem dX2_mustElse_6 : decode cX2_mustElse 6 = .ok (.ireturn, 1) := by decide +kernel
theorem dX2_or_0 : decode cX2_or 0 = .ok (.aload_n 0, 1) := by decide +kernel
theorem dX2_or_1 : decode cX2_or 1 = .ok (.iload_n 1, 1) := by decide +kernel
theorem dX2_or_2 : decode cX2_or 2 = .ok (.invokestatic 40, 3) := by decide +kernel
theorem dX2_or_5 : decode cX2_or 5 = .ok (.ifCond .ne 17, 3) := by decide +kernel
theorem dX2_or_8 : decode cX2_or 8 = .ok (.iload_n 2, 1) := by decide +kernel
theorem dX2_or_9 : decode cX2_or 9 = .ok (.invokestatic 40, 3) := by decide +kernel
theorem dX2_or_12 : decode cX2_or 12 = .ok (.ifCond .ne 10, 3) := by decide +kernel
theorem dX2_or_15 : decode cX2_or 15 = .ok (.iload_n 3, 1) := by decide +kernel
theorem dX2_or_16 : decode cX2_or 16 = .ok (.invokestatic 40, 3) := by decide +kernel
theorem dX2_or_19 : decode cX2_or 19 = .ok (.ifCond .eq 7, 3) := by decide +kernel
theorem dX2_or_22 : decode cX2_or 22 = .ok (.iconst 1, 1) := by decide +kernel
theorem dX2_or_23 : decode cX2_or 23 = .ok (.goto 4, 3) := by decide +kernel
theorem dX2_or_26 : decode cX2_or 26 = .ok (.iconst 0, 1) := by decide +kernel
theorem dX2_or_27 : decode cX2_or 27 = .ok (.iconst 0, 1) := by decide +kernel
theorem dX2_or_28 : decode cX2_or 28 = .ok (.invokevirtual 43, 3) := by decide +kernel
theorem dX2_or_31 : decode cX2_or 31 = .ok (.ifCond .eq 5, 3) := by decide +kernel
theorem dX2_or_34 : decode cX2_or 34 = .ok (.iconst 0, 1) := by decide +kernel
theorem dX2_or_35 : decode cX2_or 35 = .ok (.ireturn, 1) := by decide +kernel
theorem dX2_or_36 : decode cX2_or 36 = .ok (.aload_n 0, 1) := by decide +kernel
theorem dX2_or_37 : decode cX2_or 37 = .ok (.dup, 1) := by decide +kernel
theorem dX2_or_38 : decode cX2_or 38 = .ok (.getfield 55, 3) := by decide +kernel
theorem dX2_or_41 : decode cX2_or 41 = .ok (.aload_n 0, 1) := by decide +kernel
theorem dX2_or_42 : decode cX2_or 42 = .ok (.getfield 10, 3) := by decide +kernel
theorem dX2_or_45 : decode cX2_or 45 = .ok (.iload_n 2, 1) := by decide +kernel
theorem dX2_or_46 : decode cX2_or 46 = .ok (.iaload, 1) := by decide +kernel
theorem dX2_or_47 : decode cX2_or 47 = .ok (.ldc 9, 2) := by decide +kernel
theorem dX2_or_49 : decode cX2_or 49 = .ok (.if_icmp .ne 7, 3) := by decide +kernel
theorem dX2_or_52 : decode cX2_or 52 = .ok (.iconst 1, 1) := by decide +kernel
theorem dX2_or_53 : decode cX2_or 53 = .ok (.goto 4, 3) := by decide +kernel
theorem dX2_or_56 : decode cX2_or 56 = .ok (.iconst 0, 1) := by decide +kernel
theorem dX2_or_57 : decode cX2_or 57 = .ok (.invokestatic 32, 3) := by decide +kernel
theorem dX2_or_60 : decode cX2_or 60 = .ok (.iadd, 1) := by decide +kernel
theorem dX2_or_61 : decode cX2_or 61 = .ok (.putfield 55, 3) := by decide +kernel
theorem dX2_or_64 : decode cX2_or 64 = .ok (.aload_n 0, 1) := by decide +kernel
theorem dX2_or_65 : decode cX2_or 65 = .ok (.iload_n 1, 1) := by decide +kernel
theorem dX2_or_66 : decode cX2_or 66 = .ok (.aload_n 0, 1) := by decide +kernel
theorem dX2_or_67 : decode cX2_or 67 = .ok (.getfield 10, 3) := by decide +kernel
theorem dX2_or_70 : decode cX2_or 70 = .ok (.iload_n 2, 1) := by decide +kernel
theorem dX2_or_71 : decode cX2_or 71 = .ok (.iaload, 1) := by decide +kernel
theorem dX2_or_72 : decode cX2_or 72 = .ok (.ldc 9, 2) := by decide +kernel
theorem dX2_or_74 : decode cX2_or 74 = .ok (.if_icmp .ne 12, 3) := by decide +kernel
theorem dX2_or_77 : decode cX2_or 77 = .ok (.aload_n 0, 1) := by decide +kernel
theorem dX2_or_78 : decode cX2_or 78 = .ok (.getfield 10, 3) := by decide +kernel
theorem dX2_or_81 : decode cX2_or 81 = .ok (.iload_n 3, 1) := by decide +kernel
theorem dX2_or_82 : decode cX2_or 82 = .ok (.iaload, 1) := by decide +kernel
theorem dX2_or_83 : decode cX2_or 83 = .ok (.goto 9, 3) := by decide +kernel
theorem dX2_or_86 : decode cX2_or 86 = .ok (.aload_n 0, 1) := by decide +kernel
theorem dX2_or_87 : decode cX2_or 87 = .ok (.getfield 10, 3) := by decide +kernel
theorem dX2_or_90 : decode cX2_or 90 = .ok (.iload_n 2, 1) := by decide +kernel
theorem dX2_or_91 : decode cX2_or 91 = .ok (.iaload, 1) := by decide +kernel
theorem dX2_or_92 : decode cX2_or 92 = .ok (.invokevirtual 47, 3) := by decide +kernel
theorem dX2_or_95 : decode cX2_or 95 = .ok (.ireturn, 1) := by decide +kernel
theorem dX2_orElse_0 : decode cX2_orElse 0 = .ok (.aload_n 0, 1) := by decide +kernel
theorem dX2_orElse_1 : decode cX2_orElse 1 = .ok (.iload_n 1, 1) := by decide +kernel
theorem dX2_orElse_2 : decode cX2_orElse 2 = .ok (.invokestatic 40, 3) := by decide +kernel
theorem dX2_orElse_5 : decode cX2_orElse 5 = .ok (.iload_n 2, 1) := by decide +kernel
theorem dX2_orElse_6 : decode cX2_orElse 6 = .ok (.invokestatic 25, 3) := by decide +kernel
theorem dX2_orElse_9 : decode cX2_orElse 9 = .ok (.invokevirtual 43, 3) := by decide +kernel
theorem dX2_orElse_12 : decode cX2_orElse 12 = .ok (.ifCond .eq 7, 3) := by decide +kernel
theorem dX2_orElse_15 : decode cX2_orElse 15 = .ok (.iconst 0, 1) := by decide +kernel
theorem dX2_orElse_16 : decode cX2_orElse 16 = .ok (.goto 24, 3) := by decide +kernel
theorem dX2_orElse_19 : decode cX2_orElse 19 = .ok (.aload_n 0, 1) := by decide +kernel
theorem dX2_orElse_20 : decode cX2_orElse 20 = .ok (.getfield 10, 3) := by decide +kernel
theorem dX2_orElse_23 : decode cX2_orElse 23 = .ok (.iload_n 1, 1) := by decide +kernel
theorem dX2_orElse_24 : decode cX2_orElse 24 = .ok (.iaload, 1) := by decide +kernel
theorem dX2_orElse_25 : decode cX2_orElse 25 = .ok (.ldc 9, 2) := by decide +kernel
theorem dX2_orElse_27 : decode cX2_orElse 27 = .ok (.if_icmp .ne 7, 3) := by decide +kernel
theorem dX2_orElse_30 : decode cX2_orElse 30 = .ok (.iload_n 2, 1) := by decide +kernel
theorem dX2_orElse_31 : decode cX2_orElse 31 = .ok (.goto 9, 3) := by decide +kernel
theorem dX2_orElse_34 : decode cX2_orElse 34 = .ok (.aload_n 0, 1) := by decide +kernel
theorem dX2_orElse_35 : decode cX2_orElse 35 = .ok (.getfield 10, 3) := by decide +kernel
theorem dX2_orElse_38 : decode cX2_orElse 38 = .ok (.iload_n 1, 1) := by decide +kernel
theorem dX2_orElse_39 : decode cX2_orElse 39 = .ok (.iaload, 1) := by decide +kernel
theorem dX2_orElse_40 : decode cX2_orElse 40 = .ok (.ireturn, 1) := by decide +kernel
theorem dX2_orElseGet_0 : decode cX2_orElseGet 0 = .ok (.aload_n 0, 1) := by decide +kernel
theorem dX2_orElseGet_1 : decode cX2_orElseGet 1 = .ok (.iload_n 1, 1) := by decide +kernel
theorem dX2_orElseGet_2 : decode cX2_orElseGet 2 = .ok (.invokestatic 40, 3) := by decide +kernel
theorem dX2_orElseGet_5 : decode cX2_orElseGet 5 = .ok (.iload_n 2, 1) := by decide +kernel
theorem dX2_orElseGet_6 : decode cX2_orElseGet 6 = .ok (.invokestatic 25, 3) := by decide +kernel
theorem dX2_orElseGet_9 : decode cX2_orElseGet 9 = .ok (.invokevirtual 43, 3) := by decide +kernel
theorem dX2_orElseGet_12 : decode cX2_orElseGet 12 = .ok (.ifCond .eq 5, 3) := by decide +kernel
theorem dX2_orElseGet_15 : decode cX2_orElseGet 15 = .ok (.iconst 0, 1) := by decide +kernel
theorem dX2_orElseGet_16 : decode cX2_orElseGet 16 = .ok (.ireturn, 1) := by decide +kernel
theorem dX2_orElseGet_17 : decode cX2_orElseGet 17 = .ok (.aload_n 0, 1) := by decide +kernel
theorem dX2_orElseGet_18 : decode cX2_orElseGet 18 = .ok (.getfield 10, 3) := by decide +kernel
theorem dX2_orElseGet_21 : decode cX2_orElseGet 21 = .ok (.iload_n 1, 1) := by decide +kernel
theorem dX2_orElseGet_22 : decode cX2_orElseGet 22 = .ok (.iaload, 1) := by decide +kernel
theorem dX2_orElseGet_23 : decode cX2_orElseGet 23 = .ok (.ldc 9, 2) := by decide +kernel
theorem dX2_orElseGet_25 : decode cX2_orElseGet 25 = .ok (.if_icmp .eq 10, 3) := by decide +kernel
theorem dX2_orElseGet_28 : decode cX2_orElseGet 28 = .ok (.aload_n 0, 1) := by decide +kernel
theorem dX2_orElseGet_29 : decode cX2_orElseGet 29 = .ok (.getfield 10, 3) := by decide +kernel
theorem dX2_orElseGet_32 : decode cX2_orElseGet 32 = .ok (.iload_n 1, 1) := by decide +kernel
theorem dX2_orElseGet_33 : decode cX2_orElseGet 33 = .ok (.iaload, 1) := by decide +kernel
theorem dX2_orElseGet_34 : decode cX2_orElseGet 34 = .ok (.ireturn, 1) := by decide +kernel
theorem dX2_orElseGet_35 : decode cX2_orElseGet 35 = .ok (.aload_n 0, 1) := by decide +kernel
theorem dX2_orElseGet_36 : decode cX2_orElseGet 36 = .ok (.getfield 55, 3) := by decide +kernel
theorem dX2_orElseGet_39 : decode cX2_orElseGet 39 = .ok (.iload_n 2, 1) := by decide +kernel
theorem dX2_orElseGet_40 : decode cX2_orElseGet 40 = .ok (.iadd, 1) := by decide +kernel
theorem dX2_orElseGet_41 : decode cX2_orElseGet 41 = .ok (.istore_n 3, 1) := by decide +kernel
theorem dX2_orElseGet_42 : decode cX2_orElseGet 42 = .ok (.aload_n 0, 1) := by decide +kernel
theorem dX2_orElseGet_43 : decode cX2_orElseGet 43 = .ok (.dup, 1) := by decide +kernel
theorem dX2_orElseGet_44 : decode cX2_orElseGet 44 = .ok (.getfield 55, 3) := by decide +kernel
theorem dX2_orElseGet_47 : decode cX2_orElseGet 47 = .ok (.iconst 1, 1) := by decide +kernel
theorem dX2_orElseGet_48 : decode cX2_orElseGet 48 = .ok (.iadd, 1) := by decide +kernel
theorem dX2_orElseGet_49 : decode cX2_orElseGet 49 = .ok (.putfield 55, 3) := by decide +kernel
theorem dX2_orElseGet_52 : decode cX2_orElseGet 52 = .ok (.iload_n 3, 1) := by decide +kernel
theorem dX2_orElseGet_53 : decode cX2_orElseGet 53 = .ok (.ireturn, 1) := by decide +kernel
theorem dX2_orElsePlain_0 : decode cX2_orElsePlain 0 = .ok (.aload_n 0, 1) := by decide +kernel
theorem dX2_orElsePlain_1 : decode cX2_orElsePlain 1 = .ok (.iload_n 1, 1) := by decide +kernel
theorem dX2_orElsePlain_2 : decode cX2_orElsePlain 2 = .ok (.invokestatic 91, 3) := by decide +kernel
theorem dX2_orElsePlain_5 : decode cX2_orElsePlain 5 = .ok (.iload_n 2, 1) := by decide +kernel
theorem dX2_orElsePlain_6 : decode cX2_orElsePlain 6 = .ok (.invokestatic 25, 3) := by decide +kernel
theorem dX2_orElsePlain_9 : decode cX2_orElsePlain 9 = .ok (.invokevirtual 43, 3) := by decide +kernel
theorem dX2_orElsePlain_12 : decode cX2_orElsePlain 12 = .ok (.ifCond .eq 7, 3) := by decide +kernel
theorem dX2_orElsePlain_15 : decode cX2_orElsePlain 15 = .ok (.iconst 0, 1) := by decide +kernel
theorem dX2_orElsePlain_16 : decode cX2_orElsePlain 16 = .ok (.goto 24, 3) := by decide +kernel
theorem dX2_orElsePlain_19 : decode cX2_orElsePlain 19 = .ok (.aload_n 0, 1) := by decide +kernel
theorem dX2_orElsePlain_20 : decode cX2_orElsePlain 20 = .ok (.getfield 14, 3) := by decide +kernel
theorem dX2_orElsePlain_23 : decode cX2_orElsePlain 23 = .ok (.iload_n 1, 1) := by decide +kernel
theorem dX2_orElsePlain_24 : decode cX2_orElsePlain 24 = .ok (.iaload, 1) := by decide +kernel
theorem dX2_orElsePlain_25 : decode cX2_orElsePlain 25 = .ok (.ldc 9, 2) := by decide +kernel
theorem dX2_orElsePlain_27 : decode cX2_orElsePlain 27 = .ok (.if_icmp .ne 7, 3) := by decide +kernel
theorem dX2_orElsePlain_30 : decode cX2_orElsePlain 30 = .ok (.iload_n 2, 1) := by decide +kernel
theorem dX2_orElsePlain_31 : decode cX2_orElsePlain 31 = .ok (.goto 9, 3) := by decide +kernel
theorem dX2_orElsePlain_34 : decode cX2_orElsePlain 34 = .ok (.aload_n 0, 1) := by decide +kernel
theorem dX2_orElsePlain_35 : decode cX2_orElsePlain 35 = .ok (.getfield 14, 3) := by decide +kernel
theorem dX2_orElsePlain_38 : decode cX2_orElsePlain 38 = .ok (.iload_n 1, 1) := by decide +kernel
theorem dX2_orElsePlain_39 : decode cX2_orElsePlain 39 = .ok (.iaload, 1) := by decide +kernel
theorem dX2_orElsePlain_40 : decode cX2_orElsePlain 40 = .ok (.ireturn, 1) := by decide +kernel
theorem dX2_orElseThrow_0 : decode cX2_orElseThrow 0 = .ok (.aload_n 0, 1) := by decide +kernel
theorem dX2_orElseThrow_1 : decode cX2_orElseThrow 1 = .ok (.iload_n 1, 1) := by decide +kernel
theorem dX2_orElseThrow_2 : decode cX2_orElseThrow 2 = .ok (.invokestatic 40, 3) := by decide +kernel
theorem dX2_orElseThrow_5 : decode cX2_orElseThrow 5 = .ok (.iload_n 1, 1) := by decide +kernel
theorem dX2_orElseThrow_6 : decode cX2_orElseThrow 6 = .ok (.invokestatic 40, 3) := by decide +kernel
theorem dX2_orElseThrow_9 : decode cX2_orElseThrow 9 = .ok (.ifCond .ne 18, 3) := by decide +kernel
theorem dX2_orElseThrow_12 : decode cX2_orElseThrow 12 = .ok (.aload_n 0, 1) := by decide +kernel
theorem dX2_orElseThrow_13 : decode cX2_orElseThrow 13 = .ok (.getfield 10, 3) := by decide +kernel
theorem dX2_orElseThrow_16 : decode cX2_orElseThrow 16 = .ok (.iload_n 1, 1) := by decide +kernel
theorem dX2_orElseThrow_17 : decode cX2_orElseThrow 17 = .ok (.iaload, 1) := by decide +kernel
theorem dX2_orElseThrow_18 : decode cX2_orElseThrow 18 = .ok (.ldc 9, 2) := by decide +kernel
theorem dX2_orElseThrow_20 : decode cX2_orElseThrow 20 = .ok (.if_icmp .ne 7, 3) := by decide +kernel
theorem dX2_orElseThrow_23 : decode cX2_orElseThrow 23 = .ok (.iconst 1, 1) := by decide +kernel
theorem dX2_orElseThrow_24 : decode cX2_orElseThrow 24 = .ok (.goto 4, 3) := by decide +kernel
theorem dX2_orElseThrow_27 : decode cX2_orElseThrow 27 = .ok (.iconst 0, 1) := by decide +kernel
theorem dX2_orElseThrow_28 : decode cX2_orElseThrow 28 = .ok (.invokevirtual 43, 3) := by decide +kernel
theorem dX2_orElseThrow_31 : decode cX2_orElseThrow 31 = .ok (.ifCond .eq 7, 3) := by decide +kernel
theorem dX2_orElseThrow_34 : decode cX2_orElseThrow 34 = .ok (.iconst 0, 1) := by decide +kernel
theorem dX2_orElseThrow_35 : decode cX2_orElseThrow 35 = .ok (.goto 9, 3) := by decide +kernel
theorem dX2_orElseThrow_38 : decode cX2_orElseThrow 38 = .ok (.aload_n 0, 1) := by decide +kernel
theorem dX2_orElseThrow_39 : decode cX2_orElseThrow 39 = .ok (.getfield 10, 3) := by decide +kernel
theorem dX2_orElseThrow_42 : decode cX2_orElseThrow 42 = .ok (.iload_n 1, 1) := by decide +kernel
theorem dX2_orElseThrow_43 : decode cX2_orElseThrow 43 = .ok (.iaload, 1) := by decide +kernel
theorem dX2_orElseThrow_44 : decode cX2_orElseThrow 44 = .ok (.ireturn, 1) := by decide +kernel
theorem dX2_place_0 : decode cX2_place 0 = .ok (.aload_n 0, 1) := by decide +kernel
theorem dX2_place_1 : decode cX2_place 1 = .ok (.iload_n 2, 1) := by decide +kernel
theorem dX2_place_2 : decode cX2_place 2 = .ok (.iconst 0, 1) := by decide +kernel
theorem dX2_place_3 : decode cX2_place 3 = .ok (.sipush 999, 3) := by decide +kernel
theorem dX2_place_6 : decode cX2_place 6 = .ok (.invokestatic 21, 3) := by decide +kernel
theorem dX2_place_9 : decode cX2_place 9 = .ok (.ifCond .ne 7, 3) := by decide +kernel
theorem dX2_place_12 : decode cX2_place 12 = .ok (.iconst 1, 1) := by decide +kernel
theorem dX2_place_13 : decode cX2_place 13 = .ok (.goto 4, 3) := by decide +kernel
theorem dX2_place_16 : decode cX2_place 16 = .ok (.iconst 0, 1) := by decide +kernel
theorem dX2_place_17 : decode cX2_place 17 = .ok (.iload_n 1, 1) := by decide +kernel
theorem dX2_place_18 : decode cX2_place 18 = .ok (.iconst 0, 1) := by decide +kernel
theorem dX2_place_19 : decode cX2_place 19 = .ok (.iload_n 2, 1) := by decide +kernel
theorem dX2_place_20 : decode cX2_place 20 = .ok (.iconst 1, 1) := by decide +kernel
theorem dX2_place_21 : decode cX2_place 21 = .ok (.isub, 1) := by decide +kernel
theorem dX2_place_22 : decode cX2_place 22 = .ok (.invokestatic 21, 3) := by decide +kernel
theorem dX2_place_25 : decode cX2_place 25 = .ok (.ifCond .ne 7, 3) := by decide +kernel
theorem dX2_place_28 : decode cX2_place 28 = .ok (.iconst 1, 1) := by decide +kernel
theorem dX2_place_29 : decode cX2_place 29 = .ok (.goto 4, 3) := by decide +kernel
theorem dX2_place_32 : decode cX2_place 32 = .ok (.iconst 0, 1) := by decide +kernel
theorem dX2_place_33 : decode cX2_place 33 = .ok (.invokevirtual 43, 3) := by decide +kernel
theorem dX2_place_36 : decode cX2_place 36 = .ok (.ifCond .eq 7, 3) := by decide +kernel
theorem dX2_place_39 : decode cX2_place 39 = .ok (.iconst 0, 1) := by decide +kernel
theorem dX2_place_40 : decode cX2_place 40 = .ok (.goto 4, 3) := by decide +kernel
theorem dX2_place_43 : decode cX2_place 43 = .ok (.iload_n 1, 1) := by decide +kernel
theorem dX2_place_44 : decode cX2_place 44 = .ok (.ireturn, 1) := by decide +kernel
theorem dX2_take_0 : decode cX2_take 0 = .ok (.aload_n 0, 1) := by decide +kernel
theorem dX2_take_1 : decode cX2_take 1 = .ok (.iload_n 1, 1) := by decide +kernel
theorem dX2_take_2 : decode cX2_take 2 = .ok (.invokestatic 40, 3) := by decide +kernel
theorem dX2_take_5 : decode cX2_take 5 = .ok (.iconst 0, 1) := by decide +kernel
theorem dX2_take_6 : decode cX2_take 6 = .ok (.invokevirtual 43, 3) := by decide +kernel
theorem dX2_take_9 : decode cX2_take 9 = .ok (.ifCond .eq 5, 3) := by decide +kernel
theorem dX2_take_12 : decode cX2_take 12 = .ok (.iconst 0, 1) := by decide +kernel
theorem dX2_take_13 : decode cX2_take 13 = .ok (.ireturn, 1) := by decide +kernel
theorem dX2_take_14 : decode cX2_take 14 = .ok (.aload_n 0, 1) := by decide +kernel
theorem dX2_take_15 : decode cX2_take 15 = .ok (.getfield 10, 3) := by decide +kernel
theorem dX2_take_18 : decode cX2_take 18 = .ok (.iload_n 1, 1) := by decide +kernel
theorem dX2_take_19 : decode cX2_take 19 = .ok (.iaload, 1) := by decide +kernel
theorem dX2_take_20 : decode cX2_take 20 = .ok (.ldc 9, 2) := by decide +kernel
theorem dX2_take_22 : decode cX2_take 22 = .ok (.if_icmp .eq 13, 3) := by decide +kernel
theorem dX2_take_25 : decode cX2_take 25 = .ok (.aload_n 0, 1) := by decide +kernel
theorem dX2_take_26 : decode cX2_take 26 = .ok (.aload_n 0, 1) := by decide +kernel
theorem dX2_take_27 : decode cX2_take 27 = .ok (.getfield 10, 3) := by decide +kernel
theorem dX2_take_30 : decode cX2_take 30 = .ok (.iload_n 1, 1) := by decide +kernel
theorem dX2_take_31 : decode cX2_take 31 = .ok (.iaload, 1) := by decide +kernel
theorem dX2_take_32 : decode cX2_take 32 = .ok (.invokevirtual 77, 3) := by decide +kernel
theorem dX2_take_35 : decode cX2_take 35 = .ok (.aload_n 0, 1) := by decide +kernel
theorem dX2_take_36 : decode cX2_take 36 = .ok (.getfield 74, 3) := by decide +kernel
theorem dX2_take_39 : decode cX2_take 39 = .ok (.ireturn, 1) := by decide +kernel
theorem dX2_takeOrLeave_0 : decode cX2_takeOrLeave 0 = .ok (.aload_n 0, 1) := by decide +kernel
theorem dX2_takeOrLeave_1 : decode cX2_takeOrLeave 1 = .ok (.iload_n 1, 1) := by decide +kernel
theorem dX2_takeOrLeave_2 : decode cX2_takeOrLeave 2 = .ok (.invokestatic 40, 3) := by decide +kernel
theorem dX2_takeOrLeave_5 : decode cX2_takeOrLeave 5 = .ok (.iconst 0, 1) := by decide +kernel
theorem dX2_takeOrLeave_6 : decode cX2_takeOrLeave 6 = .ok (.invokevirtual 43, 3) := by decide +kernel
theorem dX2_takeOrLeave_9 : decode cX2_takeOrLeave 9 = .ok (.ifCond .eq 5, 3) := by decide +kernel
theorem dX2_takeOrLeave_12 : decode cX2_takeOrLeave 12 = .ok (.iconst 0, 1) := by decide +kernel
theorem dX2_takeOrLeave_13 : decode cX2_takeOrLeave 13 = .ok (.ireturn, 1) := by decide +kernel
theorem dX2_takeOrLeave_14 : decode cX2_takeOrLeave 14 = .ok (.aload_n 0, 1) := by decide +kernel
theorem dX2_takeOrLeave_15 : decode cX2_takeOrLeave 15 = .ok (.getfield 10, 3) := by decide +kernel
theorem dX2_takeOrLeave_18 : decode cX2_takeOrLeave 18 = .ok (.iload_n 1, 1) := by decide +kernel
theorem dX2_takeOrLeave_19 : decode cX2_takeOrLeave 19 = .ok (.iaload, 1) := by decide +kernel
theorem dX2_takeOrLeave_20 : decode cX2_takeOrLeave 20 = .ok (.ldc 9, 2) := by decide +kernel
theorem dX2_takeOrLeave_22 : decode cX2_takeOrLeave 22 = .ok (.if_icmp .eq 16, 3) := by decide +kernel
theorem dX2_takeOrLeave_25 : decode cX2_takeOrLeave 25 = .ok (.aload_n 0, 1) := by decide +kernel
theorem dX2_takeOrLeave_26 : decode cX2_takeOrLeave 26 = .ok (.aload_n 0, 1) := by decide +kernel
theorem dX2_takeOrLeave_27 : decode cX2_takeOrLeave 27 = .ok (.getfield 10, 3) := by decide +kernel
theorem dX2_takeOrLeave_30 : decode cX2_takeOrLeave 30 = .ok (.iload_n 1, 1) := by decide +kernel
theorem dX2_takeOrLeave_31 : decode cX2_takeOrLeave 31 = .ok (.iaload, 1) := by decide +kernel
theorem dX2_takeOrLeave_32 : decode cX2_takeOrLeave 32 = .ok (.invokevirtual 77, 3) := by decide +kernel
theorem dX2_takeOrLeave_35 : decode cX2_takeOrLeave 35 = .ok (.goto 23, 3) := by decide +kernel
theorem dX2_takeOrLeave_38 : decode cX2_takeOrLeave 38 = .ok (.aload_n 0, 1) := by decide +kernel
theorem dX2_takeOrLeave_39 : decode cX2_takeOrLeave 39 = .ok (.dup, 1) := by decide +kernel
theorem dX2_takeOrLeave_40 : decode cX2_takeOrLeave 40 = .ok (.getfield 55, 3) := by decide +kernel
theorem dX2_takeOrLeave_43 : decode cX2_takeOrLeave 43 = .ok (.iconst 1, 1) := by decide +kernel
theorem dX2_takeOrLeave_44 : decode cX2_takeOrLeave 44 = .ok (.iadd, 1) := by decide +kernel
theorem dX2_takeOrLeave_45 : decode cX2_takeOrLeave 45 = .ok (.putfield 55, 3) := by decide +kernel
theorem dX2_takeOrLeave_48 : decode cX2_takeOrLeave 48 = .ok (.aload_n 0, 1) := by decide +kernel
theorem dX2_takeOrLeave_49 : decode cX2_takeOrLeave 49 = .ok (.dup, 1) := by decide +kernel
theorem dX2_takeOrLeave_50 : decode cX2_takeOrLeave 50 = .ok (.getfield 81, 3) := by decide +kernel
theorem dX2_takeOrLeave_53 : decode cX2_takeOrLeave 53 = .ok (.iconst 1, 1) := by decide +kernel
theorem dX2_takeOrLeave_54 : decode cX2_takeOrLeave 54 = .ok (.iadd, 1) := by decide +kernel
theorem dX2_takeOrLeave_55 : decode cX2_takeOrLeave 55 = .ok (.putfield 81, 3) := by decide +kernel
theorem dX2_takeOrLeave_58 : decode cX2_takeOrLeave 58 = .ok (.aload_n 0, 1) := by decide +kernel
theorem dX2_takeOrLeave_59 : decode cX2_takeOrLeave 59 = .ok (.getfield 74, 3) := by decide +kernel
theorem dX2_takeOrLeave_62 : decode cX2_takeOrLeave 62 = .ok (.ireturn, 1) := by decide +kernel
theorem dX2_takePlain_0 : decode cX2_takePlain 0 = .ok (.aload_n 0, 1) := by decide +kernel
theorem dX2_takePlain_1 : decode cX2_takePlain 1 = .ok (.iload_n 1, 1) := by decide +kernel
theorem dX2_takePlain_2 : decode cX2_takePlain 2 = .ok (.invokestatic 91, 3) := by decide +kernel
theorem dX2_takePlain_5 : decode cX2_takePlain 5 = .ok (.iconst 0, 1) := by decide +kernel
theorem dX2_takePlain_6 : decode cX2_takePlain 6 = .ok (.invokevirtual 43, 3) := by decide +kernel
theorem dX2_takePlain_9 : decode cX2_takePlain 9 = .ok (.ifCond .eq 5, 3) := by decide +kernel
theorem dX2_takePlain_12 : decode cX2_takePlain 12 = .ok (.iconst 0, 1) := by decide +kernel
theorem dX2_takePlain_13 : decode cX2_takePlain 13 = .ok (.ireturn, 1) := by decide +kernel
theorem dX2_takePlain_14 : decode cX2_takePlain 14 = .ok (.aload_n 0, 1) := by decide +kernel
theorem dX2_takePlain_15 : decode cX2_takePlain 15 = .ok (.getfield 14, 3) := by decide +kernel
theorem dX2_takePlain_18 : decode cX2_takePlain 18 = .ok (.iload_n 1, 1) := by decide +kernel
theorem dX2_takePlain_19 : decode cX2_takePlain 19 = .ok (.iaload, 1) := by decide +kernel
theorem dX2_takePlain_20 : decode cX2_takePlain 20 = .ok (.ldc 9, 2) := by decide +kernel
theorem dX2_takePlain_22 : decode cX2_takePlain 22 = .ok (.if_icmp .eq 13, 3) := by decide +kernel
theorem dX2_takePlain_25 : decode cX2_takePlain 25 = .ok (.aload_n 0, 1) := by decide +kernel
theorem dX2_takePlain_26 : decode cX2_takePlain 26 = .ok (.aload_n 0, 1) := by decide +kernel
theorem dX2_takePlain_27 : decode cX2_takePlain 27 = .ok (.getfield 14, 3) := by decide +kernel
theorem dX2_takePlain_30 : decode cX2_takePlain 30 = .ok (.iload_n 1, 1) := by decide +kernel
theorem dX2_takePlain_31 : decode cX2_takePlain 31 = .ok (.iaload, 1) := by decide +kernel
theorem dX2_takePlain_32 : decode cX2_takePlain 32 = .ok (.invokevirtual 77, 3) := by decide +kernel
theorem dX2_takePlain_35 : decode cX2_takePlain 35 = .ok (.aload_n 0, 1) := by decide +kernel
theorem dX2_takePlain_36 : decode cX2_takePlain 36 = .ok (.getfield 74, 3) := by decide +kernel
theorem dX2_takePlain_39 : decode cX2_takePlain 39 = .ok (.ireturn, 1) := by decide +kernel
theorem dX2_toPlain_0 : decode cX2_toPlain 0 = .ok (.aload_n 0, 1) := by decide +kernel
theorem dX2_toPlain_1 : decode cX2_toPlain 1 = .ok (.iload_n 1, 1) := by decide +kernel
theorem dX2_toPlain_2 : decode cX2_toPlain 2 = .ok (.invokestatic 91, 3) := by decide +kernel
theorem dX2_toPlain_5 : decode cX2_toPlain 5 = .ok (.ifCond .ne 10, 3) := by decide +kernel
theorem dX2_toPlain_8 : decode cX2_toPlain 8 = .ok (.iload_n 2, 1) := by decide +kernel
theorem dX2_toPlain_9 : decode cX2_toPlain 9 = .ok (.invokestatic 40, 3) := by decide +kernel
theorem dX2_toPlain_12 : decode cX2_toPlain 12 = .ok (.ifCond .eq 7, 3) := by decide +kernel
theorem dX2_toPlain_15 : decode cX2_toPlain 15 = .ok (.iconst 1, 1) := by decide +kernel
theorem dX2_toPlain_16 : decode cX2_toPlain 16 = .ok (.goto 4, 3) := by decide +kernel
theorem dX2_toPlain_19 : decode cX2_toPlain 19 = .ok (.iconst 0, 1) := by decide +kernel
theorem dX2_toPlain_20 : decode cX2_toPlain 20 = .ok (.iconst 0, 1) := by decide +kernel
theorem dX2_toPlain_21 : decode cX2_toPlain 21 = .ok (.invokevirtual 43, 3) := by decide +kernel
theorem dX2_toPlain_24 : decode cX2_toPlain 24 = .ok (.ifCond .eq 5, 3) := by decide +kernel
theorem dX2_toPlain_27 : decode cX2_toPlain 27 = .ok (.iconst 0, 1) := by decide +kernel
theorem dX2_toPlain_28 : decode cX2_toPlain 28 = .ok (.ireturn, 1) := by decide +kernel
theorem dX2_toPlain_29 : decode cX2_toPlain 29 = .ok (.aload_n 0, 1) := by decide +kernel
theorem dX2_toPlain_30 : decode cX2_toPlain 30 = .ok (.getfield 14, 3) := by decide +kernel
theorem dX2_toPlain_33 : decode cX2_toPlain 33 = .ok (.iload_n 1, 1) := by decide +kernel
theorem dX2_toPlain_34 : decode cX2_toPlain 34 = .ok (.aload_n 0, 1) := by decide +kernel
theorem dX2_toPlain_35 : decode cX2_toPlain 35 = .ok (.getfield 10, 3) := by decide +kernel
theorem dX2_toPlain_38 : decode cX2_toPlain 38 = .ok (.iload_n 2, 1) := by decide +kernel
theorem dX2_toPlain_39 : decode cX2_toPlain 39 = .ok (.iaload, 1) := by decide +kernel
theorem dX2_toPlain_40 : decode cX2_toPlain 40 = .ok (.iastore, 1) := by decide +kernel
theorem dX2_toPlain_41 : decode cX2_toPlain 41 = .ok (.aload_n 0, 1) := by decide +kernel
theorem dX2_toPlain_42 : decode cX2_toPlain 42 = .ok (.getfield 10, 3) := by decide +kernel
theorem dX2_toPlain_45 : decode cX2_toPlain 45 = .ok (.iload_n 2, 1) := by decide +kernel
theorem dX2_toPlain_46 : decode cX2_toPlain 46 = .ok (.iaload, 1) := by decide +kernel
theorem dX2_toPlain_47 : decode cX2_toPlain 47 = .ok (.ldc 9, 2) := by decide +kernel
theorem dX2_toPlain_49 : decode cX2_toPlain 49 = .ok (.if_icmp .eq 7, 3) := by decide +kernel
theorem dX2_toPlain_52 : decode cX2_toPlain 52 = .ok (.iconst 1, 1) := by decide +kernel
theorem dX2_toPlain_53 : decode cX2_toPlain 53 = .ok (.goto 4, 3) := by decide +kernel
theorem dX2_toPlain_56 : decode cX2_toPlain 56 = .ok (.iconst 0, 1) := by decide +kernel
theorem dX2_toPlain_57 : decode cX2_toPlain 57 = .ok (.invokestatic 32, 3) := by decide +kernel
theorem dX2_toPlain_60 : decode cX2_toPlain 60 = .ok (.ireturn, 1) := by decide +kernel
theorem dX2_turn_0 : decode cX2_turn 0 = .ok (.aload_n 0, 1) := by decide +kernel
theorem dX2_turn_1 : decode cX2_turn 1 = .ok (.iload_n 1, 1) := by decide +kernel
theorem dX2_turn_2 : decode cX2_turn 2 = .ok (.iload_n 2, 1) := by decide +kernel
theorem dX2_turn_3 : decode cX2_turn 3 = .ok (.iload_n 3, 1) := by decide +kernel
theorem dX2_turn_4 : decode cX2_turn 4 = .ok (.iconst 5, 1) := by decide +kernel
theorem dX2_turn_5 : decode cX2_turn 5 = .ok (.iload 4, 2) := by decide +kernel
theorem dX2_turn_7 : decode cX2_turn 7 = .ok (.invokevirtual 51, 3) := by decide +kernel
theorem dX2_turn_10 : decode cX2_turn 10 = .ok (.ifCond .eq 5, 3) := by decide +kernel
theorem dX2_turn_13 : decode cX2_turn 13 = .ok (.iconst 0, 1) := by decide +kernel
theorem dX2_turn_14 : decode cX2_turn 14 = .ok (.ireturn, 1) := by decide +kernel
theorem dX2_turn_15 : decode cX2_turn 15 = .ok (.aload_n 0, 1) := by decide +kernel
theorem dX2_turn_16 : decode cX2_turn 16 = .ok (.getfield 10, 3) := by decide +kernel
theorem dX2_turn_19 : decode cX2_turn 19 = .ok (.iload_n 2, 1) := by decide +kernel
theorem dX2_turn_20 : decode cX2_turn 20 = .ok (.iaload, 1) := by decide +kernel
theorem dX2_turn_21 : decode cX2_turn 21 = .ok (.ldc 9, 2) := by decide +kernel
theorem dX2_turn_23 : decode cX2_turn 23 = .ok (.if_icmp .ne 11, 3) := by decide +kernel
theorem dX2_turn_26 : decode cX2_turn 26 = .ok (.aload_n 0, 1) := by decide +kernel
theorem dX2_turn_27 : decode cX2_turn 27 = .ok (.iload_n 1, 1) := by decide +kernel
theorem dX2_turn_28 : decode cX2_turn 28 = .ok (.ldc 9, 2) := by decide +kernel
theorem dX2_turn_30 : decode cX2_turn 30 = .ok (.invokevirtual 47, 3) := by decide +kernel
theorem dX2_turn_33 : decode cX2_turn 33 = .ok (.ireturn, 1) := by decide +kernel
theorem dX2_turn_34 : decode cX2_turn 34 = .ok (.aload_n 0, 1) := by decide +kernel
theorem dX2_turn_35 : decode cX2_turn 35 = .ok (.dup, 1) := by decide +kernel
theorem dX2_turn_36 : decode cX2_turn 36 = .ok (.getfield 55, 3) := by decide +kernel
theorem dX2_turn_39 : decode cX2_turn 39 = .ok (.iconst 1, 1) := by decide +kernel
theorem dX2_turn_40 : decode cX2_turn 40 = .ok (.iadd, 1) := by decide +kernel
theorem dX2_turn_41 : decode cX2_turn 41 = .ok (.putfield 55, 3) := by decide +kernel
theorem dX2_turn_44 : decode cX2_turn 44 = .ok (.aload_n 0, 1) := by decide +kernel
theorem dX2_turn_45 : decode cX2_turn 45 = .ok (.iload_n 1, 1) := by decide +kernel
theorem dX2_turn_46 : decode cX2_turn 46 = .ok (.aload_n 0, 1) := by decide +kernel
theorem dX2_turn_47 : decode cX2_turn 47 = .ok (.iload_n 3, 1) := by decide +kernel
theorem dX2_turn_48 : decode cX2_turn 48 = .ok (.aload_n 0, 1) := by decide +kernel
theorem dX2_turn_49 : decode cX2_turn 49 = .ok (.getfield 10, 3) := by decide +kernel
theorem dX2_turn_52 : decode cX2_turn 52 = .ok (.iload_n 2, 1) := by decide +kernel
theorem dX2_turn_53 : decode cX2_turn 53 = .ok (.iaload, 1) := by decide +kernel
theorem dX2_turn_54 : decode cX2_turn 54 = .ok (.iload 4, 2) := by decide +kernel
theorem dX2_turn_56 : decode cX2_turn 56 = .ok (.invokevirtual 62, 3) := by decide +kernel
theorem dX2_turn_59 : decode cX2_turn 59 = .ok (.invokevirtual 47, 3) := by decide +kernel
theorem dX2_turn_62 : decode cX2_turn 62 = .ok (.ireturn, 1) := by decide +kernel
theorem dX2_wrap_0 : decode cX2_wrap 0 = .ok (.aload_n 0, 1) := by decide +kernel
theorem dX2_wrap_1 : decode cX2_wrap 1 = .ok (.iload_n 1, 1) := by decide +kernel
theorem dX2_wrap_2 : decode cX2_wrap 2 = .ok (.iload_n 2, 1) := by decide +kernel
theorem dX2_wrap_3 : decode cX2_wrap 3 = .ok (.invokevirtual 68, 3) := by decide +kernel
theorem dX2_wrap_6 : decode cX2_wrap 6 = .ok (.ireturn, 1) := by decide +kernel
def v_X2_fill (b1 : Int32) (n1 : Int32) (f : Nat → Int32) : Int32 := if (v_X2_fails (v_X2_isNone b1) (v_X2_isNoNumber n1)) = 0 then (if (f b1.toNatClampNeg) = (-100000) then v_X2_one 0 else v_X2_one 1) else 0
def wth_X2_fill (b1 : Int32) (n1 : Int32) : Int32 := wth_X2_fails (v_X2_isNone b1) (v_X2_isNoNumber n1)
def wf_X2_fill (b1 : Int32) (n1 : Int32) (f : Nat → Int32) : Nat → Int32 := if (v_X2_fails (v_X2_isNone b1) (v_X2_isNoNumber n1)) = 0 then upd f b1.toNatClampNeg n1 else f
set_option maxRecDepth 100000 in
set_option maxHeartbeats 4000000 in
theorem k_X2_fill (l : Launch) (D : va_G) (cI cB : ClassId) (o bo po : Nat) (th : Int32) (f g : Nat → Int32) (ak su gt lf rf kn : Int32) (b1 : Int32) (n1 : Int32) : WR l yX2_fill cX2_fill 4 (some .int) ({ frames := 2, cells := 0, slots := 0, locals := 42 } : Room) D cI cB [.ref o, .int b1, .int n1] (wM cI o bo po th f g ak su gt lf rf kn) (v_X2_fill b1 n1 f) (wM cI o bo po (wth_X2_fill b1 n1) (wf_X2_fill b1 n1 f) g ak su gt lf rf kn) 0 0 := by
  refine bodyWR (by decide +kernel) (Nat.le_of_ble_eq_true rfl) (fun p e s m args below meth c ls A Z => ?_)
  obtain ⟨FX, hr, hlk, hK, hP, hD, hS, hA, hl⟩ := Z
  have hl : lv_has ls 4 [(0, .ref o), (1, .int b1), (2, .int n1)] := hl
  refine lv_aload_n FX.1 FX.2.1 dX2_fill_0 rfl (lv_at hl 0 rfl) ?_
  refine lv_iload_n FX.1 FX.2.1 dX2_fill_1 rfl (lv_at hl 1 rfl) ?_
  refine c_RDs FX (r_X2_isNone l D cI cB b1) mi_X2_isNone rfl ml_RX2_40 (RMok.mk) hl.1 rfl (Nat.le_of_ble_eq_true rfl) dX2_fill_2 (by decide) hK hP [] rfl ?_
  refine lv_iload_n FX.1 FX.2.1 dX2_fill_5 rfl (lv_at hl 2 rfl) ?_
  refine c_RDs FX (r_X2_isNoNumber l D cI cB n1) mi_X2_isNoNumber rfl ml_RX2_25 (RMok.mk) hl.1 rfl (Nat.le_of_ble_eq_true rfl) dX2_fill_6 (by decide) hK hP [] rfl ?_
  refine c_WRV (wr := []) (wsN := (wM cI o bo po (wth_X2_fails (v_X2_isNone b1) (v_X2_isNoNumber n1)) f g ak su gt lf rf kn)) (i0 := 0) (ci := 4) FX (k_X2_fails l D cI cB o bo po th f g ak su gt lf rf kn (v_X2_isNone b1) (v_X2_isNoNumber n1)) mi_X2_fails rfl ml_RX2_43 (RMok.mk) hl.1 rfl (Nat.le_of_ble_eq_true rfl) dX2_fill_9 (by decide) hK hP hD hS hA [0, 1, 2] rfl [] rfl rfl (by decide) [0, 1, 2] rfl rfl rfl rfl rfl (fun H locs hP hD hS => ?_)
  refine lv_if_eq (tgt := 17) FX.1 FX.2.1 dX2_fill_12 (by decide) (fun c_1 => ?_) (fun c_1 => ?_)
  · refine lv_aload_n FX.1 FX.2.1 dX2_fill_17 rfl (lv_at hl 0 rfl) ?_
    refine va_get (D := D) (ci := 4) (v := .ref bo) (C := RX2) (T := TX2) (N := 9) FX.1 FX.2.1 FX.2.2.2.2 inX2 FX.2.2.2.1 hK hP 0 rfl rfl 1 (by decide) (FX.2.2.2.2 _ fl_RX2_10) (fun _ h9 => h9) rfl dX2_fill_18 ?_
    refine lv_iload_n FX.1 FX.2.1 dX2_fill_21 rfl (lv_at hl 1 rfl) ?_
    refine p_iald (v := f b1.toNatClampNeg) FX hK hP 1 rfl (in_v_X2_isNone (fails_1 c_1)) dX2_fill_22 rfl ?_
    refine lv_ldc (v := (-100000)) FX.1 FX.2.1 FX.2.2.2.1 (FX.2.2.2.2 _ co_RX2_9) dX2_fill_23 ?_
    refine lv_icmp_eq (tgt := 32) FX.1 FX.2.1 dX2_fill_25 (by decide) (fun c_2 => ?_) (fun c_2 => ?_)
    · refine lv_iconst (v := 0) FX.1 FX.2.1 dX2_fill_32 (by decide) ?_
      refine c_RDs FX (r_X2_one l D cI cB 0) mi_X2_one rfl ml_RX2_32 (RMok.mk) hl.1 rfl (Nat.le_of_ble_eq_true rfl) dX2_fill_33 (by decide) hK hP [] rfl ?_
      refine lv_istore_n (lv' := [(3, .int (v_X2_one 0)), (0, .ref o), (1, .int b1), (2, .int n1)]) FX.1 FX.2.1 dX2_fill_36 rfl hl (by decide) rfl (fun ls hl => ?_)
      refine lv_aload_n FX.1 FX.2.1 dX2_fill_37 rfl (lv_at hl 1 rfl) ?_
      refine va_get (D := D) (ci := 4) (v := .ref bo) (C := RX2) (T := TX2) (N := 9) FX.1 FX.2.1 FX.2.2.2.2 inX2 FX.2.2.2.1 hK hP 0 rfl rfl 1 (by decide) (FX.2.2.2.2 _ fl_RX2_10) (fun _ h9 => h9) rfl dX2_fill_38 ?_
      refine lv_iload_n FX.1 FX.2.1 dX2_fill_41 rfl (lv_at hl 2 rfl) ?_
      refine lv_iload_n FX.1 FX.2.1 dX2_fill_42 rfl (lv_at hl 3 rfl) ?_
      refine p_iast (wsN := (wM cI o bo po (wth_X2_fails (v_X2_isNone b1) (v_X2_isNoNumber n1)) (upd f b1.toNatClampNeg n1) g ak su gt lf rf kn)) FX hK hP hD hS 1 rfl (in_v_X2_isNone (fails_1 c_1)) dX2_fill_43 rfl (fun H locs hP hD hS => ?_)
      refine lv_iload_n FX.1 FX.2.1 dX2_fill_44 rfl (lv_at hl 0 rfl) ?_
      exact retWR FX hr hlk dX2_fill_45 rfl hP hK hD hS (by decide) (by decide) (by rw [v_X2_fill, if_pos c_1, if_pos c_2]) (by rw [wth_X2_fill, wf_X2_fill, if_pos c_1])
    · refine lv_iconst (v := 1) FX.1 FX.2.1 dX2_fill_28 (by decide) ?_
      refine lv_goto (tgt := 33) FX.1 FX.2.1 dX2_fill_29 (by decide) ?_
      refine c_RDs FX (r_X2_one l D cI cB 1) mi_X2_one rfl ml_RX2_32 (RMok.mk) hl.1 rfl (Nat.le_of_ble_eq_true rfl) dX2_fill_33 (by decide) hK hP [] rfl ?_
      refine lv_istore_n (lv' := [(3, .int (v_X2_one 1)), (0, .ref o), (1, .int b1), (2, .int n1)]) FX.1 FX.2.1 dX2_fill_36 rfl hl (by decide) rfl (fun ls hl => ?_)
      refine lv_aload_n FX.1 FX.2.1 dX2_fill_37 rfl (lv_at hl 1 rfl) ?_
      refine va_get (D := D) (ci := 4) (v := .ref bo) (C := RX2) (T := TX2) (N := 9) FX.1 FX.2.1 FX.2.2.2.2 inX2 FX.2.2.2.1 hK hP 0 rfl rfl 1 (by decide) (FX.2.2.2.2 _ fl_RX2_10) (fun _ h9 => h9) rfl dX2_fill_38 ?_
      refine lv_iload_n FX.1 FX.2.1 dX2_fill_41 rfl (lv_at hl 2 rfl) ?_
      refine lv_iload_n FX.1 FX.2.1 dX2_fill_42 rfl (lv_at hl 3 rfl) ?_
      refine p_iast (wsN := (wM cI o bo po (wth_X2_fails (v_X2_isNone b1) (v_X2_isNoNumber n1)) (upd f b1.toNatClampNeg n1) g ak su gt lf rf kn)) FX hK hP hD hS 1 rfl (in_v_X2_isNone (fails_1 c_1)) dX2_fill_43 rfl (fun H locs hP hD hS => ?_)
      refine lv_iload_n FX.1 FX.2.1 dX2_fill_44 rfl (lv_at hl 0 rfl) ?_
      exact retWR FX hr hlk dX2_fill_45 rfl hP hK hD hS (by decide) (by decide) (by rw [v_X2_fill, if_pos c_1, if_neg c_2]) (by rw [wth_X2_fill, wf_X2_fill, if_pos c_1])
  · refine lv_iconst (v := 0) FX.1 FX.2.1 dX2_fill_15 (by decide) ?_
    exact retWR FX hr hlk dX2_fill_16 rfl hP hK hD hS (by decide) (by decide) (by rw [v_X2_fill, if_neg c_1]) (by rw [wth_X2_fill, wf_X2_fill, if_neg c_1])
def v_X2_empty (b1 : Int32) (f : Nat → Int32) : Int32 := if (v_X2_fails (v_X2_isNone b1) 0) = 0 then (if (f b1.toNatClampNeg) = (-100000) then v_X2_one 0 else v_X2_one 1) else 0
def wth_X2_empty (b1 : Int32) : Int32 := wth_X2_fails (v_X2_isNone b1) 0
def wf_X2_empty (b1 : Int32) (f : Nat → Int32) : Nat → Int32 := if (v_X2_fails (v_X2_isNone b1) 0) = 0 then upd f b1.toNatClampNeg (-100000) else f
set_option maxRecDepth 100000 in
set_option maxHeartbeats 4000000 in
theorem k_X2_empty (l : Launch) (D : va_G) (cI cB : ClassId) (o bo po : Nat) (th : Int32) (f g : Nat → Int32) (ak su gt lf rf kn : Int32) (b1 : Int32) : WR l yX2_empty cX2_empty 3 (some .int) ({ frames := 2, cells := 0, slots := 0, locals := 42 } : Room) D cI cB [.ref o, .int b1] (wM cI o bo po th f g ak su gt lf rf kn) (v_X2_empty b1 f) (wM cI o bo po (wth_X2_empty b1) (wf_X2_empty b1 f) g ak su gt lf rf kn) 0 0 := by
  refine bodyWR (by decide +kernel) (Nat.le_of_ble_eq_true rfl) (fun p e s m args below meth c ls A Z => ?_)
  obtain ⟨FX, hr, hlk, hK, hP, hD, hS, hA, hl⟩ := Z
  have hl : lv_has ls 3 [(0, .ref o), (1, .int b1)] := hl
  refine lv_aload_n FX.1 FX.2.1 dX2_empty_0 rfl (lv_at hl 0 rfl) ?_
  refine lv_iload_n FX.1 FX.2.1 dX2_empty_1 rfl (lv_at hl 1 rfl) ?_
  refine c_RDs FX (r_X2_isNone l D cI cB b1) mi_X2_isNone rfl ml_RX2_40 (RMok.mk) hl.1 rfl (Nat.le_of_ble_eq_true rfl) dX2_empty_2 (by decide) hK hP [] rfl ?_
  refine lv_iconst (v := 0) FX.1 FX.2.1 dX2_empty_5 (by decide) ?_
  refine c_WRV (wr := []) (wsN := (wM cI o bo po (wth_X2_fails (v_X2_isNone b1) 0) f g ak su gt lf rf kn)) (i0 := 0) (ci := 4) FX (k_X2_fails l D cI cB o bo po th f g ak su gt lf rf kn (v_X2_isNone b1) 0) mi_X2_fails rfl ml_RX2_43 (RMok.mk) hl.1 rfl (Nat.le_of_ble_eq_true rfl) dX2_empty_6 (by decide) hK hP hD hS hA [0, 1, 2] rfl [] rfl rfl (by decide) [0, 1, 2] rfl rfl rfl rfl rfl (fun H locs hP hD hS => ?_)
  refine lv_if_eq (tgt := 14) FX.1 FX.2.1 dX2_empty_9 (by decide) (fun c_1 => ?_) (fun c_1 => ?_)
  · refine lv_aload_n FX.1 FX.2.1 dX2_empty_14 rfl (lv_at hl 0 rfl) ?_
    refine va_get (D := D) (ci := 4) (v := .ref bo) (C := RX2) (T := TX2) (N := 9) FX.1 FX.2.1 FX.2.2.2.2 inX2 FX.2.2.2.1 hK hP 0 rfl rfl 1 (by decide) (FX.2.2.2.2 _ fl_RX2_10) (fun _ h9 => h9) rfl dX2_empty_15 ?_
    refine lv_iload_n FX.1 FX.2.1 dX2_empty_18 rfl (lv_at hl 1 rfl) ?_
    refine p_iald (v := f b1.toNatClampNeg) FX hK hP 1 rfl (in_v_X2_isNone (fails_1 c_1)) dX2_empty_19 rfl ?_
    refine lv_ldc (v := (-100000)) FX.1 FX.2.1 FX.2.2.2.1 (FX.2.2.2.2 _ co_RX2_9) dX2_empty_20 ?_
    refine lv_icmp_eq (tgt := 29) FX.1 FX.2.1 dX2_empty_22 (by decide) (fun c_2 => ?_) (fun c_2 => ?_)
    · refine lv_iconst (v := 0) FX.1 FX.2.1 dX2_empty_29 (by decide) ?_
      refine c_RDs FX (r_X2_one l D cI cB 0) mi_X2_one rfl ml_RX2_32 (RMok.mk) hl.1 rfl (Nat.le_of_ble_eq_true rfl) dX2_empty_30 (by decide) hK hP [] rfl ?_
      refine lv_istore_n (lv' := [(2, .int (v_X2_one 0)), (0, .ref o), (1, .int b1)]) FX.1 FX.2.1 dX2_empty_33 rfl hl (by decide) rfl (fun ls hl => ?_)
      refine lv_aload_n FX.1 FX.2.1 dX2_empty_34 rfl (lv_at hl 1 rfl) ?_
      refine va_get (D := D) (ci := 4) (v := .ref bo) (C := RX2) (T := TX2) (N := 9) FX.1 FX.2.1 FX.2.2.2.2 inX2 FX.2.2.2.1 hK hP 0 rfl rfl 1 (by decide) (FX.2.2.2.2 _ fl_RX2_10) (fun _ h9 => h9) rfl dX2_empty_35 ?_
      refine lv_iload_n FX.1 FX.2.1 dX2_empty_38 rfl (lv_at hl 2 rfl) ?_
      refine lv_ldc (v := (-100000)) FX.1 FX.2.1 FX.2.2.2.1 (FX.2.2.2.2 _ co_RX2_9) dX2_empty_39 ?_
      refine p_iast (wsN := (wM cI o bo po (wth_X2_fails (v_X2_isNone b1) 0) (upd f b1.toNatClampNeg (-100000)) g ak su gt lf rf kn)) FX hK hP hD hS 1 rfl (in_v_X2_isNone (fails_1 c_1)) dX2_empty_41 rfl (fun H locs hP hD hS => ?_)
      refine lv_iload_n FX.1 FX.2.1 dX2_empty_42 rfl (lv_at hl 0 rfl) ?_
      exact retWR FX hr hlk dX2_empty_43 rfl hP hK hD hS (by decide) (by decide) (by rw [v_X2_empty, if_pos c_1, if_pos c_2]) (by rw [wth_X2_empty, wf_X2_empty, if_pos c_1])
    · refine lv_iconst (v := 1) FX.1 FX.2.1 dX2_empty_25 (by decide) ?_
      refine lv_goto (tgt := 30) FX.1 FX.2.1 dX2_empty_26 (by decide) ?_
      refine c_RDs FX (r_X2_one l D cI cB 1) mi_X2_one rfl ml_RX2_32 (RMok.mk) hl.1 rfl (Nat.le_of_ble_eq_true rfl) dX2_empty_30 (by decide) hK hP [] rfl ?_
      refine lv_istore_n (lv' := [(2, .int (v_X2_one 1)), (0, .ref o), (1, .int b1)]) FX.1 FX.2.1 dX2_empty_33 rfl hl (by decide) rfl (fun ls hl => ?_)
      refine lv_aload_n FX.1 FX.2.1 dX2_empty_34 rfl (lv_at hl 1 rfl) ?_
      refine va_get (D := D) (ci := 4) (v := .ref bo) (C := RX2) (T := TX2) (N := 9) FX.1 FX.2.1 FX.2.2.2.2 inX2 FX.2.2.2.1 hK hP 0 rfl rfl 1 (by decide) (FX.2.2.2.2 _ fl_RX2_10) (fun _ h9 => h9) rfl dX2_empty_35 ?_
      refine lv_iload_n FX.1 FX.2.1 dX2_empty_38 rfl (lv_at hl 2 rfl) ?_
      refine lv_ldc (v := (-100000)) FX.1 FX.2.1 FX.2.2.2.1 (FX.2.2.2.2 _ co_RX2_9) dX2_empty_39 ?_
      refine p_iast (wsN := (wM cI o bo po (wth_X2_fails (v_X2_isNone b1) 0) (upd f b1.toNatClampNeg (-100000)) g ak su gt lf rf kn)) FX hK hP hD hS 1 rfl (in_v_X2_isNone (fails_1 c_1)) dX2_empty_41 rfl (fun H locs hP hD hS => ?_)
      refine lv_iload_n FX.1 FX.2.1 dX2_empty_42 rfl (lv_at hl 0 rfl) ?_
      exact retWR FX hr hlk dX2_empty_43 rfl hP hK hD hS (by decide) (by decide) (by rw [v_X2_empty, if_pos c_1, if_neg c_2]) (by rw [wth_X2_empty, wf_X2_empty, if_pos c_1])
  · refine lv_iconst (v := 0) FX.1 FX.2.1 dX2_empty_12 (by decide) ?_
    exact retWR FX hr hlk dX2_empty_13 rfl hP hK hD hS (by decide) (by decide) (by rw [v_X2_empty, if_neg c_1]) (by rw [wth_X2_empty, wf_X2_empty, if_neg c_1])
def v_X2_fillMaybe (b1 : Int32) (n1 : Int32) (t1 : Int32) : Int32 := if (v_X2_fails (v_X2_isNone b1) (v_X2_isNoNumber n1)) = 0 then (if t1 = 0 then v_X2_become (-100000) else v_X2_become n1) else 0
def wth_X2_fillMaybe (b1 : Int32) (n1 : Int32) : Int32 := wth_X2_fails (v_X2_isNone b1) (v_X2_isNoNumber n1)
def wf_X2_fillMaybe (b1 : Int32) (n1 : Int32) (t1 : Int32) (f : Nat → Int32) : Nat → Int32 := if (v_X2_fails (v_X2_isNone b1) (v_X2_isNoNumber n1)) = 0 then (if t1 = 0 then wf_X2_become b1 (-100000) f else wf_X2_become b1 n1 f) else f
set_option maxRecDepth 100000 in
set_option maxHeartbeats 4000000 in
theorem k_X2_fillMaybe (l : Launch) (D : va_G) (cI cB : ClassId) (o bo po : Nat) (th : Int32) (f g : Nat → Int32) (ak su gt lf rf kn : Int32) (b1 : Int32) (n1 : Int32) (t1 : Int32) : WR l yX2_fillMaybe cX2_fillMaybe 4 (some .int) ({ frames := 2, cells := 0, slots := 0, locals := 42 } : Room) D cI cB [.ref o, .int b1, .int n1, .int t1] (wM cI o bo po th f g ak su gt lf rf kn) (v_X2_fillMaybe b1 n1 t1) (wM cI o bo po (wth_X2_fillMaybe b1 n1) (wf_X2_fillMaybe b1 n1 t1 f) g ak su gt lf rf kn) 0 0 := by
  refine bodyWR (by decide +kernel) (Nat.le_of_ble_eq_true rfl) (fun p e s m args below meth c ls A Z => ?_)
  obtain ⟨FX, hr, hlk, hK, hP, hD, hS, hA, hl⟩ := Z
  have hl : lv_has ls 4 [(0, .ref o), (1, .int b1), (2, .int n1), (3, .int t1)] := hl
  refine lv_aload_n FX.1 FX.2.1 dX2_fillMaybe_0 rfl (lv_at hl 0 rfl) ?_
  refine lv_iload_n FX.1 FX.2.1 dX2_fillMaybe_1 rfl (lv_at hl 1 rfl) ?_
  refine c_RDs FX (r_X2_isNone l D cI cB b1) mi_X2_isNone rfl ml_RX2_40 (RMok.mk) hl.1 rfl (Nat.le_of_ble_eq_true rfl) dX2_fillMaybe_2 (by decide) hK hP [] rfl ?_
  refine lv_iload_n FX.1 FX.2.1 dX2_fillMaybe_5 rfl (lv_at hl 2 rfl) ?_
  refine c_RDs FX (r_X2_isNoNumber l D cI cB n1) mi_X2_isNoNumber rfl ml_RX2_25 (RMok.mk) hl.1 rfl (Nat.le_of_ble_eq_true rfl) dX2_fillMaybe_6 (by decide) hK hP [] rfl ?_
  refine c_WRV (wr := []) (wsN := (wM cI o bo po (wth_X2_fails (v_X2_isNone b1) (v_X2_isNoNumber n1)) f g ak su gt lf rf kn)) (i0 := 0) (ci := 4) FX (k_X2_fails l D cI cB o bo po th f g ak su gt lf rf kn (v_X2_isNone b1) (v_X2_isNoNumber n1)) mi_X2_fails rfl ml_RX2_43 (RMok.mk) hl.1 rfl (Nat.le_of_ble_eq_true rfl) dX2_fillMaybe_9 (by decide) hK hP hD hS hA [0, 1, 2] rfl [] rfl rfl (by decide) [0, 1, 2] rfl rfl rfl rfl rfl (fun H locs hP hD hS => ?_)
  refine lv_if_eq (tgt := 19) FX.1 FX.2.1 dX2_fillMaybe_12 (by decide) (fun c_1 => ?_) (fun c_1 => ?_)
  · refine lv_aload_n FX.1 FX.2.1 dX2_fillMaybe_19 rfl (lv_at hl 0 rfl) ?_
    refine lv_iload_n FX.1 FX.2.1 dX2_fillMaybe_20 rfl (lv_at hl 1 rfl) ?_
    refine lv_iload_n FX.1 FX.2.1 dX2_fillMaybe_21 rfl (lv_at hl 3 rfl) ?_
    refine lv_if_eq (tgt := 29) FX.1 FX.2.1 dX2_fillMaybe_22 (by decide) (fun c_2 => ?_) (fun c_2 => ?_)
    · refine lv_ldc (v := (-100000)) FX.1 FX.2.1 FX.2.2.2.1 (FX.2.2.2.2 _ co_RX2_9) dX2_fillMaybe_29 ?_
      refine c_WRV (wr := []) (wsN := (wM cI o bo po (wth_X2_fails (v_X2_isNone b1) (v_X2_isNoNumber n1)) (wf_X2_become b1 (-100000) f) g ak su gt lf rf kn)) (i0 := 0) (ci := 4) FX (k_X2_become l D cI cB o bo po (wth_X2_fails (v_X2_isNone b1) (v_X2_isNoNumber n1)) f g ak su gt lf rf kn b1 (-100000) (in_v_X2_isNone (fails_1 c_1))) mi_X2_become rfl ml_RX2_47 (RMok.mk) hl.1 rfl (Nat.le_of_ble_eq_true rfl) dX2_fillMaybe_31 (by decide) hK hP hD hS hA [0, 1, 2] rfl [] rfl rfl (by decide) [0, 1, 2] rfl rfl rfl rfl rfl (fun H locs hP hD hS => ?_)
      exact retWR FX hr hlk dX2_fillMaybe_34 rfl hP hK hD hS (by decide) (by decide) (by rw [v_X2_fillMaybe, if_pos c_1, if_pos c_2]) (by rw [wth_X2_fillMaybe, wf_X2_fillMaybe, if_pos c_1, if_pos c_2])
    · refine lv_iload_n FX.1 FX.2.1 dX2_fillMaybe_25 rfl (lv_at hl 2 rfl) ?_
      refine lv_goto (tgt := 31) FX.1 FX.2.1 dX2_fillMaybe_26 (by decide) ?_
      refine c_WRV (wr := []) (wsN := (wM cI o bo po (wth_X2_fails (v_X2_isNone b1) (v_X2_isNoNumber n1)) (wf_X2_become b1 n1 f) g ak su gt lf rf kn)) (i0 := 0) (ci := 4) FX (k_X2_become l D cI cB o bo po (wth_X2_fails (v_X2_isNone b1) (v_X2_isNoNumber n1)) f g ak su gt lf rf kn b1 n1 (in_v_X2_isNone (fails_1 c_1))) mi_X2_become rfl ml_RX2_47 (RMok.mk) hl.1 rfl (Nat.le_of_ble_eq_true rfl) dX2_fillMaybe_31 (by decide) hK hP hD hS hA [0, 1, 2] rfl [] rfl rfl (by decide) [0, 1, 2] rfl rfl rfl rfl rfl (fun H locs hP hD hS => ?_)
      exact retWR FX hr hlk dX2_fillMaybe_34 rfl hP hK hD hS (by decide) (by decide) (by rw [v_X2_fillMaybe, if_pos c_1, if_neg c_2]) (by rw [wth_X2_fillMaybe, wf_X2_fillMaybe, if_pos c_1, if_neg c_2])
  · refine lv_iconst (v := 0) FX.1 FX.2.1 dX2_fillMaybe_15 (by decide) ?_
    refine lv_goto (tgt := 34) FX.1 FX.2.1 dX2_fillMaybe_16 (by decide) ?_
    exact retWR FX hr hlk dX2_fillMaybe_34 rfl hP hK hD hS (by decide) (by decide) (by rw [v_X2_fillMaybe, if_neg c_1]) (by rw [wth_X2_fillMaybe, wf_X2_fillMaybe, if_neg c_1])
def v_X2_copy (b1 : Int32) (b2 : Int32) (f : Nat → Int32) : Int32 := if (v_X2_isNone b1) = 0 then (if (v_X2_isNone b2) = 0 then v_X2_become (f b2.toNatClampNeg) else 0) else 0
def wth_X2_copy (b1 : Int32) (b2 : Int32) : Int32 := if (v_X2_isNone b1) = 0 then (if (v_X2_isNone b2) = 0 then wth_X2_fails 0 0 else wth_X2_fails 1 0) else wth_X2_fails 1 0
def wf_X2_copy (b1 : Int32) (b2 : Int32) (f : Nat → Int32) : Nat → Int32 := if (v_X2_isNone b1) = 0 then (if (v_X2_isNone b2) = 0 then wf_X2_become b1 (f b2.toNatClampNeg) f else f) else f
set_option maxRecDepth 100000 in
set_option maxHeartbeats 4000000 in
theorem k_X2_copy (l : Launch) (D : va_G) (cI cB : ClassId) (o bo po : Nat) (th : Int32) (f g : Nat → Int32) (ak su gt lf rf kn : Int32) (b1 : Int32) (b2 : Int32) : WR l yX2_copy cX2_copy 3 (some .int) ({ frames := 2, cells := 0, slots := 0, locals := 42 } : Room) D cI cB [.ref o, .int b1, .int b2] (wM cI o bo po th f g ak su gt lf rf kn) (v_X2_copy b1 b2 f) (wM cI o bo po (wth_X2_copy b1 b2) (wf_X2_copy b1 b2 f) g ak su gt lf rf kn) 0 0 := by
  refine bodyWR (by decide +kernel) (Nat.le_of_ble_eq_true rfl) (fun p e s m args below meth c ls A Z => ?_)
  obtain ⟨FX, hr, hlk, hK, hP, hD, hS, hA, hl⟩ := Z
  have hl : lv_has ls 3 [(0, .ref o), (1, .int b1), (2, .int b2)] := hl
  refine lv_aload_n FX.1 FX.2.1 dX2_copy_0 rfl (lv_at hl 0 rfl) ?_
  refine lv_iload_n FX.1 FX.2.1 dX2_copy_1 rfl (lv_at hl 1 rfl) ?_
  refine c_RDs FX (r_X2_isNone l D cI cB b1) mi_X2_isNone rfl ml_RX2_40 (RMok.mk) hl.1 rfl (Nat.le_of_ble_eq_true rfl) dX2_copy_2 (by decide) hK hP [] rfl ?_
  refine lv_if_ne (tgt := 15) FX.1 FX.2.1 dX2_copy_5 (by decide) (fun c_1 => ?_) (fun c_1 => ?_)
  · refine lv_iconst (v := 1) FX.1 FX.2.1 dX2_copy_15 (by decide) ?_
    refine lv_goto (tgt := 20) FX.1 FX.2.1 dX2_copy_16 (by decide) ?_
    refine lv_iconst (v := 0) FX.1 FX.2.1 dX2_copy_20 (by decide) ?_
    refine c_WRV (wr := []) (wsN := (wM cI o bo po (wth_X2_fails 1 0) f g ak su gt lf rf kn)) (i0 := 0) (ci := 4) FX (k_X2_fails l D cI cB o bo po th f g ak su gt lf rf kn 1 0) mi_X2_fails rfl ml_RX2_43 (RMok.mk) hl.1 rfl (Nat.le_of_ble_eq_true rfl) dX2_copy_21 (by decide) hK hP hD hS hA [0, 1, 2] rfl [] rfl rfl (by decide) [0, 1, 2] rfl rfl rfl rfl rfl (fun H locs hP hD hS => ?_)
    refine lv_if_eq (tgt := 31) FX.1 FX.2.1 dX2_copy_24 (by decide) (fun c_2 => ?_) (fun c_2 => ?_)
    · exact absurd c_2 (by decide)
    · refine lv_iconst (v := 0) FX.1 FX.2.1 dX2_copy_27 (by decide) ?_
      refine lv_goto (tgt := 42) FX.1 FX.2.1 dX2_copy_28 (by decide) ?_
      exact retWR FX hr hlk dX2_copy_42 rfl hP hK hD hS (by decide) (by decide) (by rw [v_X2_copy, if_neg c_1]) (by rw [wth_X2_copy, if_neg c_1, wf_X2_copy, if_neg c_1])
  · refine lv_iload_n FX.1 FX.2.1 dX2_copy_8 rfl (lv_at hl 2 rfl) ?_
    refine c_RDs FX (r_X2_isNone l D cI cB b2) mi_X2_isNone rfl ml_RX2_40 (RMok.mk) hl.1 rfl (Nat.le_of_ble_eq_true rfl) dX2_copy_9 (by decide) hK hP [] rfl ?_
    refine lv_if_eq (tgt := 19) FX.1 FX.2.1 dX2_copy_12 (by decide) (fun c_3 => ?_) (fun c_3 => ?_)
    · refine lv_iconst (v := 0) FX.1 FX.2.1 dX2_copy_19 (by decide) ?_
      refine lv_iconst (v := 0) FX.1 FX.2.1 dX2_copy_20 (by decide) ?_
      refine c_WRV (wr := []) (wsN := (wM cI o bo po (wth_X2_fails 0 0) f g ak su gt lf rf kn)) (i0 := 0) (ci := 4) FX (k_X2_fails l D cI cB o bo po th f g ak su gt lf rf kn 0 0) mi_X2_fails rfl ml_RX2_43 (RMok.mk) hl.1 rfl (Nat.le_of_ble_eq_true rfl) dX2_copy_21 (by decide) hK hP hD hS hA [0, 1, 2] rfl [] rfl rfl (by decide) [0, 1, 2] rfl rfl rfl rfl rfl (fun H locs hP hD hS => ?_)
      refine lv_if_eq (tgt := 31) FX.1 FX.2.1 dX2_copy_24 (by decide) (fun c_4 => ?_) (fun c_4 => ?_)
      · refine lv_aload_n FX.1 FX.2.1 dX2_copy_31 rfl (lv_at hl 0 rfl) ?_
        refine lv_iload_n FX.1 FX.2.1 dX2_copy_32 rfl (lv_at hl 1 rfl) ?_
        refine lv_aload_n FX.1 FX.2.1 dX2_copy_33 rfl (lv_at hl 0 rfl) ?_
        refine va_get (D := D) (ci := 4) (v := .ref bo) (C := RX2) (T := TX2) (N := 9) FX.1 FX.2.1 FX.2.2.2.2 inX2 FX.2.2.2.1 hK hP 0 rfl rfl 1 (by decide) (FX.2.2.2.2 _ fl_RX2_10) (fun _ h9 => h9) rfl dX2_copy_34 ?_
        refine lv_iload_n FX.1 FX.2.1 dX2_copy_37 rfl (lv_at hl 2 rfl) ?_
        refine p_iald (v := f b2.toNatClampNeg) FX hK hP 1 rfl (in_v_X2_isNone c_3) dX2_copy_38 rfl ?_
        refine c_WRV (wr := []) (wsN := (wM cI o bo po (wth_X2_fails 0 0) (wf_X2_become b1 (f b2.toNatClampNeg) f) g ak su gt lf rf kn)) (i0 := 0) (ci := 4) FX (k_X2_become l D cI cB o bo po (wth_X2_fails 0 0) f g ak su gt lf rf kn b1 (f b2.toNatClampNeg) (in_v_X2_isNone c_1)) mi_X2_become rfl ml_RX2_47 (RMok.mk) hl.1 rfl (Nat.le_of_ble_eq_true rfl) dX2_copy_39 (by decide) hK hP hD hS hA [0, 1, 2] rfl [] rfl rfl (by decide) [0, 1, 2] rfl rfl rfl rfl rfl (fun H locs hP hD hS => ?_)
        exact retWR FX hr hlk dX2_copy_42 rfl hP hK hD hS (by decide) (by decide) (by rw [v_X2_copy, if_pos c_1, if_pos c_3]) (by rw [wth_X2_copy, if_pos c_1, if_pos c_3, wf_X2_copy, if_pos c_1, if_pos c_3])
      · exact absurd c_4 (by decide)
    · refine lv_iconst (v := 1) FX.1 FX.2.1 dX2_copy_15 (by decide) ?_
      refine lv_goto (tgt := 20) FX.1 FX.2.1 dX2_copy_16 (by decide) ?_
      refine lv_iconst (v := 0) FX.1 FX.2.1 dX2_copy_20 (by decide) ?_
      refine c_WRV (wr := []) (wsN := (wM cI o bo po (wth_X2_fails 1 0) f g ak su gt lf rf kn)) (i0 := 0) (ci := 4) FX (k_X2_fails l D cI cB o bo po th f g ak su gt lf rf kn 1 0) mi_X2_fails rfl ml_RX2_43 (RMok.mk) hl.1 rfl (Nat.le_of_ble_eq_true rfl) dX2_copy_21 (by decide) hK hP hD hS hA [0, 1, 2] rfl [] rfl rfl (by decide) [0, 1, 2] rfl rfl rfl rfl rfl (fun H locs hP hD hS => ?_)
      refine lv_if_eq (tgt := 31) FX.1 FX.2.1 dX2_copy_24 (by decide) (fun c_5 => ?_) (fun c_5 => ?_)
      · exact absurd c_5 (by decide)
      · refine lv_iconst (v := 0) FX.1 FX.2.1 dX2_copy_27 (by decide) ?_
        refine lv_goto (tgt := 42) FX.1 FX.2.1 dX2_copy_28 (by decide) ?_
        exact retWR FX hr hlk dX2_copy_42 rfl hP hK hD hS (by decide) (by decide) (by rw [v_X2_copy, if_pos c_1, if_neg c_3]) (by rw [wth_X2_copy, if_pos c_1, if_neg c_3, wf_X2_copy, if_pos c_1, if_neg c_3])
def v_X2_map (b1 : Int32) (b2 : Int32) (k1 : Int32) (y1 : Int32) (f : Nat → Int32) : Int32 := if (v_X2_isNoTwo b1 b2 k1 5 y1) = 0 then (if (f b2.toNatClampNeg) = (-100000) then v_X2_become (-100000) else v_X2_become (v_X2_rule k1 (f b2.toNatClampNeg) y1)) else 0
def wth_X2_map (b1 : Int32) (b2 : Int32) (k1 : Int32) (y1 : Int32) : Int32 := wth_X2_isNoTwo b1 b2 k1 5 y1
def wf_X2_map (b1 : Int32) (b2 : Int32) (k1 : Int32) (y1 : Int32) (f : Nat → Int32) : Nat → Int32 := if (v_X2_isNoTwo b1 b2 k1 5 y1) = 0 then (if (f b2.toNatClampNeg) = (-100000) then wf_X2_become b1 (-100000) f else wf_X2_become b1 (v_X2_rule k1 (f b2.toNatClampNeg) y1) f) else f
def wak_X2_map (b1 : Int32) (b2 : Int32) (k1 : Int32) (y1 : Int32) (f : Nat → Int32) (ak : Int32) : Int32 := if (v_X2_isNoTwo b1 b2 k1 5 y1) = 0 then (if (f b2.toNatClampNeg) = (-100000) then ak else ak + 1) else ak
set_option maxRecDepth 100000 in
set_option maxHeartbeats 4000000 in
theorem k_X2_map (l : Launch) (D : va_G) (cI cB : ClassId) (o bo po : Nat) (th : Int32) (f g : Nat → Int32) (ak su gt lf rf kn : Int32) (b1 : Int32) (b2 : Int32) (k1 : Int32) (y1 : Int32) : WR l yX2_map cX2_map 5 (some .int) ({ frames := 4, cells := 0, slots := 0, locals := 84 } : Room) D cI cB [.ref o, .int b1, .int b2, .int k1, .int y1] (wM cI o bo po th f g ak su gt lf rf kn) (v_X2_map b1 b2 k1 y1 f) (wM cI o bo po (wth_X2_map b1 b2 k1 y1) (wf_X2_map b1 b2 k1 y1 f) g (wak_X2_map b1 b2 k1 y1 f ak) su gt lf rf kn) 0 0 := by
  refine bodyWR (by decide +kernel) (Nat.le_of_ble_eq_true rfl) (fun p e s m args below meth c ls A Z => ?_)
  obtain ⟨FX, hr, hlk, hK, hP, hD, hS, hA, hl⟩ := Z
  have hl : lv_has ls 5 [(0, .ref o), (1, .int b1), (2, .int b2), (3, .int k1), (4, .int y1)] := hl
  refine lv_aload_n FX.1 FX.2.1 dX2_map_0 rfl (lv_at hl 0 rfl) ?_
  refine lv_iload_n FX.1 FX.2.1 dX2_map_1 rfl (lv_at hl 1 rfl) ?_
  refine lv_iload_n FX.1 FX.2.1 dX2_map_2 rfl (lv_at hl 2 rfl) ?_
  refine lv_iload_n FX.1 FX.2.1 dX2_map_3 rfl (lv_at hl 3 rfl) ?_
  refine lv_iconst (v := 5) FX.1 FX.2.1 dX2_map_4 (by decide) ?_
  refine lv_iload FX.1 FX.2.1 dX2_map_5 (lv_at hl 4 rfl) ?_
  refine c_WRV (wr := []) (wsN := (wM cI o bo po (wth_X2_isNoTwo b1 b2 k1 5 y1) f g ak su gt lf rf kn)) (i0 := 0) (ci := 4) FX (k_X2_isNoTwo l D cI cB o bo po th f g ak su gt lf rf kn b1 b2 k1 5 y1) mi_X2_isNoTwo rfl ml_RX2_51 (RMok.mk) hl.1 rfl (Nat.le_of_ble_eq_true rfl) dX2_map_7 (by decide) hK hP hD hS hA [0, 1, 2] rfl [] rfl rfl (by decide) [0, 1, 2] rfl rfl rfl rfl rfl (fun H locs hP hD hS => ?_)
  refine lv_if_eq (tgt := 15) FX.1 FX.2.1 dX2_map_10 (by decide) (fun c_1 => ?_) (fun c_1 => ?_)
  · refine lv_aload_n FX.1 FX.2.1 dX2_map_15 rfl (lv_at hl 0 rfl) ?_
    refine va_get (D := D) (ci := 4) (v := .ref bo) (C := RX2) (T := TX2) (N := 9) FX.1 FX.2.1 FX.2.2.2.2 inX2 FX.2.2.2.1 hK hP 0 rfl rfl 1 (by decide) (FX.2.2.2.2 _ fl_RX2_10) (fun _ h9 => h9) rfl dX2_map_16 ?_
    refine lv_iload_n FX.1 FX.2.1 dX2_map_19 rfl (lv_at hl 2 rfl) ?_
    refine p_iald (v := f b2.toNatClampNeg) FX hK hP 1 rfl (in_v_X2_isNone (noTwo_2 c_1)) dX2_map_20 rfl ?_
    refine lv_ldc (v := (-100000)) FX.1 FX.2.1 FX.2.2.2.1 (FX.2.2.2.2 _ co_RX2_9) dX2_map_21 ?_
    refine lv_icmp_ne (tgt := 34) FX.1 FX.2.1 dX2_map_23 (by decide) (fun c_2 => ?_) (fun c_2 => ?_)
    · refine lv_aload_n FX.1 FX.2.1 dX2_map_34 rfl (lv_at hl 0 rfl) ?_
      refine lv_dup FX.1 FX.2.1 dX2_map_35 rfl ?_
      refine va_get (D := D) (ci := 4) (v := .int ak) (C := RX2) (T := TX2) (N := 9) FX.1 FX.2.1 FX.2.2.2.2 inX2 FX.2.2.2.1 hK hP 0 rfl rfl 3 (by decide) (FX.2.2.2.2 _ fl_RX2_55) (fun _ h9 => h9) rfl dX2_map_36 ?_
      refine lv_iconst (v := 1) FX.1 FX.2.1 dX2_map_39 (by decide) ?_
      refine lv_iadd FX.1 FX.2.1 dX2_map_40 ?_
      refine p_put (wsN := (wM cI o bo po (wth_X2_isNoTwo b1 b2 k1 5 y1) f g (ak + 1) su gt lf rf kn)) (ci := 4) (v := .int (ak + 1)) (ty := .int) FX inX2 tyX2_ok nmX2 hK hP hD hS 0 rfl rfl 3 (by decide) (FX.2.2.2.2 _ fl_RX2_55) rfl (by decide +kernel) rfl rfl (Nat.le_of_ble_eq_true rfl) dX2_map_41 rfl (fun H locs hP hD hS => ?_)
      refine lv_aload_n FX.1 FX.2.1 dX2_map_44 rfl (lv_at hl 0 rfl) ?_
      refine lv_iload_n FX.1 FX.2.1 dX2_map_45 rfl (lv_at hl 1 rfl) ?_
      refine lv_iload_n FX.1 FX.2.1 dX2_map_46 rfl (lv_at hl 3 rfl) ?_
      refine lv_aload_n FX.1 FX.2.1 dX2_map_47 rfl (lv_at hl 0 rfl) ?_
      refine va_get (D := D) (ci := 4) (v := .ref bo) (C := RX2) (T := TX2) (N := 9) FX.1 FX.2.1 FX.2.2.2.2 inX2 FX.2.2.2.1 hK hP 0 rfl rfl 1 (by decide) (FX.2.2.2.2 _ fl_RX2_10) (fun _ h9 => h9) rfl dX2_map_48 ?_
      refine lv_iload_n FX.1 FX.2.1 dX2_map_51 rfl (lv_at hl 2 rfl) ?_
      refine p_iald (v := f b2.toNatClampNeg) FX hK hP 1 rfl (in_v_X2_isNone (noTwo_2 c_1)) dX2_map_52 rfl ?_
      refine lv_iload FX.1 FX.2.1 dX2_map_53 (lv_at hl 4 rfl) ?_
      refine c_RDs FX (r_X2_rule l D cI cB k1 (f b2.toNatClampNeg) y1) mi_X2_rule rfl ml_RX2_58 (RMok.mk) hl.1 rfl (Nat.le_of_ble_eq_true rfl) dX2_map_55 (by decide) hK hP [] rfl ?_
      refine c_WRV (wr := []) (wsN := (wM cI o bo po (wth_X2_isNoTwo b1 b2 k1 5 y1) (wf_X2_become b1 (v_X2_rule k1 (f b2.toNatClampNeg) y1) f) g (ak + 1) su gt lf rf kn)) (i0 := 0) (ci := 4) FX (k_X2_become l D cI cB o bo po (wth_X2_isNoTwo b1 b2 k1 5 y1) f g (ak + 1) su gt lf rf kn b1 (v_X2_rule k1 (f b2.toNatClampNeg) y1) (in_v_X2_isNone (noTwo_1 c_1))) mi_X2_become rfl ml_RX2_47 (RMok.mk) hl.1 rfl (Nat.le_of_ble_eq_true rfl) dX2_map_58 (by decide) hK hP hD hS hA [0, 1, 2] rfl [] rfl rfl (by decide) [0, 1, 2] rfl rfl rfl rfl rfl (fun H locs hP hD hS => ?_)
      exact retWR FX hr hlk dX2_map_61 rfl hP hK hD hS (by decide) (by decide) (by rw [v_X2_map, if_pos c_1, if_neg c_2]) (by rw [wth_X2_map, wf_X2_map, if_pos c_1, if_neg c_2, wak_X2_map, if_pos c_1, if_neg c_2])
    · refine lv_aload_n FX.1 FX.2.1 dX2_map_26 rfl (lv_at hl 0 rfl) ?_
      refine lv_iload_n FX.1 FX.2.1 dX2_map_27 rfl (lv_at hl 1 rfl) ?_
      refine lv_ldc (v := (-100000)) FX.1 FX.2.1 FX.2.2.2.1 (FX.2.2.2.2 _ co_RX2_9) dX2_map_28 ?_
      refine c_WRV (wr := []) (wsN := (wM cI o bo po (wth_X2_isNoTwo b1 b2 k1 5 y1) (wf_X2_become b1 (-100000) f) g ak su gt lf rf kn)) (i0 := 0) (ci := 4) FX (k_X2_become l D cI cB o bo po (wth_X2_isNoTwo b1 b2 k1 5 y1) f g ak su gt lf rf kn b1 (-100000) (in_v_X2_isNone (noTwo_1 c_1))) mi_X2_become rfl ml_RX2_47 (RMok.mk) hl.1 rfl (Nat.le_of_ble_eq_true rfl) dX2_map_30 (by decide) hK hP hD hS hA [0, 1, 2] rfl [] rfl rfl (by decide) [0, 1, 2] rfl rfl rfl rfl rfl (fun H locs hP hD hS => ?_)
      exact retWR FX hr hlk dX2_map_33 rfl hP hK hD hS (by decide) (by decide) (by rw [v_X2_map, if_pos c_1, if_pos c_2]) (by rw [wth_X2_map, wf_X2_map, if_pos c_1, if_pos c_2, wak_X2_map, if_pos c_1, if_pos c_2])
  · refine lv_iconst (v := 0) FX.1 FX.2.1 dX2_map_13 (by decide) ?_
    exact retWR FX hr hlk dX2_map_14 rfl hP hK hD hS (by decide) (by decide) (by rw [v_X2_map, if_neg c_1]) (by rw [wth_X2_map, wf_X2_map, if_neg c_1, wak_X2_map, if_neg c_1])
def v_X2_turn (b1 : Int32) (b2 : Int32) (k1 : Int32) (y1 : Int32) (f : Nat → Int32) : Int32 := if (v_X2_isNoTwo b1 b2 k1 5 y1) = 0 then (if (f b2.toNatClampNeg) = (-100000) then v_X2_become (-100000) else v_X2_become (v_X2_turned k1 (f b2.toNatClampNeg) y1 f)) else 0
def wth_X2_turn (b1 : Int32) (b2 : Int32) (k1 : Int32) (y1 : Int32) : Int32 := wth_X2_isNoTwo b1 b2 k1 5 y1
def wf_X2_turn (b1 : Int32) (b2 : Int32) (k1 : Int32) (y1 : Int32) (f : Nat → Int32) : Nat → Int32 := if (v_X2_isNoTwo b1 b2 k1 5 y1) = 0 then (if (f b2.toNatClampNeg) = (-100000) then wf_X2_become b1 (-100000) f else wf_X2_become b1 (v_X2_turned k1 (f b2.toNatClampNeg) y1 f) f) else f
def wak_X2_turn (b1 : Int32) (b2 : Int32) (k1 : Int32) (y1 : Int32) (f : Nat → Int32) (ak : Int32) : Int32 := if (v_X2_isNoTwo b1 b2 k1 5 y1) = 0 then (if (f b2.toNatClampNeg) = (-100000) then ak else ak + 1) else ak
set_option maxRecDepth 100000 in
set_option maxHeartbeats 4000000 in
theorem k_X2_turn (l : Launch) (D : va_G) (cI cB : ClassId) (o bo po : Nat) (th : Int32) (f g : Nat → Int32) (ak su gt lf rf kn : Int32) (b1 : Int32) (b2 : Int32) (k1 : Int32) (y1 : Int32) : WR l yX2_turn cX2_turn 5 (some .int) ({ frames := 3, cells := 0, slots := 0, locals := 67 } : Room) D cI cB [.ref o, .int b1, .int b2, .int k1, .int y1] (wM cI o bo po th f g ak su gt lf rf kn) (v_X2_turn b1 b2 k1 y1 f) (wM cI o bo po (wth_X2_turn b1 b2 k1 y1) (wf_X2_turn b1 b2 k1 y1 f) g (wak_X2_turn b1 b2 k1 y1 f ak) su gt lf rf kn) 0 0 := by
  refine bodyWR (by decide +kernel) (Nat.le_of_ble_eq_true rfl) (fun p e s m args below meth c ls A Z => ?_)
  obtain ⟨FX, hr, hlk, hK, hP, hD, hS, hA, hl⟩ := Z
  have hl : lv_has ls 5 [(0, .ref o), (1, .int b1), (2, .int b2), (3, .int k1), (4, .int y1)] := hl
  refine lv_aload_n FX.1 FX.2.1 dX2_turn_0 rfl (lv_at hl 0 rfl) ?_
  refine lv_iload_n FX.1 FX.2.1 dX2_turn_1 rfl (lv_at hl 1 rfl) ?_
  refine lv_iload_n FX.1 FX.2.1 dX2_turn_2 rfl (lv_at hl 2 rfl) ?_
  refine lv_iload_n FX.1 FX.2.1 dX2_turn_3 rfl (lv_at hl 3 rfl) ?_
  refine lv_iconst (v := 5) FX.1 FX.2.1 dX2_turn_4 (by decide) ?_
  refine lv_iload FX.1 FX.2.1 dX2_turn_5 (lv_at hl 4 rfl) ?_
  refine c_WRV (wr := []) (wsN := (wM cI o bo po (wth_X2_isNoTwo b1 b2 k1 5 y1) f g ak su gt lf rf kn)) (i0 := 0) (ci := 4) FX (k_X2_isNoTwo l D cI cB o bo po th f g ak su gt lf rf kn b1 b2 k1 5 y1) mi_X2_isNoTwo rfl ml_RX2_51 (RMok.mk) hl.1 rfl (Nat.le_of_ble_eq_true rfl) dX2_turn_7 (by decide) hK hP hD hS hA [0, 1, 2] rfl [] rfl rfl (by decide) [0, 1, 2] rfl rfl rfl rfl rfl (fun H locs hP hD hS => ?_)
  refine lv_if_eq (tgt := 15) FX.1 FX.2.1 dX2_turn_10 (by decide) (fun c_1 => ?_) (fun c_1 => ?_)
  · refine lv_aload_n FX.1 FX.2.1 dX2_turn_15 rfl (lv_at hl 0 rfl) ?_
    refine va_get (D := D) (ci := 4) (v := .ref bo) (C := RX2) (T := TX2) (N := 9) FX.1 FX.2.1 FX.2.2.2.2 inX2 FX.2.2.2.1 hK hP 0 rfl rfl 1 (by decide) (FX.2.2.2.2 _ fl_RX2_10) (fun _ h9 => h9) rfl dX2_turn_16 ?_
    refine lv_iload_n FX.1 FX.2.1 dX2_turn_19 rfl (lv_at hl 2 rfl) ?_
    refine p_iald (v := f b2.toNatClampNeg) FX hK hP 1 rfl (in_v_X2_isNone (noTwo_2 c_1)) dX2_turn_20 rfl ?_
    refine lv_ldc (v := (-100000)) FX.1 FX.2.1 FX.2.2.2.1 (FX.2.2.2.2 _ co_RX2_9) dX2_turn_21 ?_
    refine lv_icmp_ne (tgt := 34) FX.1 FX.2.1 dX2_turn_23 (by decide) (fun c_2 => ?_) (fun c_2 => ?_)
    · refine lv_aload_n FX.1 FX.2.1 dX2_turn_34 rfl (lv_at hl 0 rfl) ?_
      refine lv_dup FX.1 FX.2.1 dX2_turn_35 rfl ?_
      refine va_get (D := D) (ci := 4) (v := .int ak) (C := RX2) (T := TX2) (N := 9) FX.1 FX.2.1 FX.2.2.2.2 inX2 FX.2.2.2.1 hK hP 0 rfl rfl 3 (by decide) (FX.2.2.2.2 _ fl_RX2_55) (fun _ h9 => h9) rfl dX2_turn_36 ?_
      refine lv_iconst (v := 1) FX.1 FX.2.1 dX2_turn_39 (by decide) ?_
      refine lv_iadd FX.1 FX.2.1 dX2_turn_40 ?_
      refine p_put (wsN := (wM cI o bo po (wth_X2_isNoTwo b1 b2 k1 5 y1) f g (ak + 1) su gt lf rf kn)) (ci := 4) (v := .int (ak + 1)) (ty := .int) FX inX2 tyX2_ok nmX2 hK hP hD hS 0 rfl rfl 3 (by decide) (FX.2.2.2.2 _ fl_RX2_55) rfl (by decide +kernel) rfl rfl (Nat.le_of_ble_eq_true rfl) dX2_turn_41 rfl (fun H locs hP hD hS => ?_)
      refine lv_aload_n FX.1 FX.2.1 dX2_turn_44 rfl (lv_at hl 0 rfl) ?_
      refine lv_iload_n FX.1 FX.2.1 dX2_turn_45 rfl (lv_at hl 1 rfl) ?_
      refine lv_aload_n FX.1 FX.2.1 dX2_turn_46 rfl (lv_at hl 0 rfl) ?_
      refine lv_iload_n FX.1 FX.2.1 dX2_turn_47 rfl (lv_at hl 3 rfl) ?_
      refine lv_aload_n FX.1 FX.2.1 dX2_turn_48 rfl (lv_at hl 0 rfl) ?_
      refine va_get (D := D) (ci := 4) (v := .ref bo) (C := RX2) (T := TX2) (N := 9) FX.1 FX.2.1 FX.2.2.2.2 inX2 FX.2.2.2.1 hK hP 0 rfl rfl 1 (by decide) (FX.2.2.2.2 _ fl_RX2_10) (fun _ h9 => h9) rfl dX2_turn_49 ?_
      refine lv_iload_n FX.1 FX.2.1 dX2_turn_52 rfl (lv_at hl 2 rfl) ?_
      refine p_iald (v := f b2.toNatClampNeg) FX hK hP 1 rfl (in_v_X2_isNone (noTwo_2 c_1)) dX2_turn_53 rfl ?_
      refine lv_iload FX.1 FX.2.1 dX2_turn_54 (lv_at hl 4 rfl) ?_
      refine c_RDV (i0 := 0) (ci := 4) FX (r_X2_turned l D cI cB o bo po (wth_X2_isNoTwo b1 b2 k1 5 y1) f g (ak + 1) su gt lf rf kn k1 (f b2.toNatClampNeg) y1) mi_X2_turned rfl ml_RX2_62 (RMok.mk) hl.1 rfl (Nat.le_of_ble_eq_true rfl) dX2_turn_56 (by decide) hK hP [0, 1, 2] rfl rfl rfl rfl ?_
      refine c_WRV (wr := []) (wsN := (wM cI o bo po (wth_X2_isNoTwo b1 b2 k1 5 y1) (wf_X2_become b1 (v_X2_turned k1 (f b2.toNatClampNeg) y1 f) f) g (ak + 1) su gt lf rf kn)) (i0 := 0) (ci := 4) FX (k_X2_become l D cI cB o bo po (wth_X2_isNoTwo b1 b2 k1 5 y1) f g (ak + 1) su gt lf rf kn b1 (v_X2_turned k1 (f b2.toNatClampNeg) y1 f) (in_v_X2_isNone (noTwo_1 c_1))) mi_X2_become rfl ml_RX2_47 (RMok.mk) hl.1 rfl (Nat.le_of_ble_eq_true rfl) dX2_turn_59 (by decide) hK hP hD hS hA [0, 1, 2] rfl [] rfl rfl (by decide) [0, 1, 2] rfl rfl rfl rfl rfl (fun H locs hP hD hS => ?_)
      exact retWR FX hr hlk dX2_turn_62 rfl hP hK hD hS (by decide) (by decide) (by rw [v_X2_turn, if_pos c_1, if_neg c_2]) (by rw [wth_X2_turn, wf_X2_turn, if_pos c_1, if_neg c_2, wak_X2_turn, if_pos c_1, if_neg c_2])
    · refine lv_aload_n FX.1 FX.2.1 dX2_turn_26 rfl (lv_at hl 0 rfl) ?_
      refine lv_iload_n FX.1 FX.2.1 dX2_turn_27 rfl (lv_at hl 1 rfl) ?_
      refine lv_ldc (v := (-100000)) FX.1 FX.2.1 FX.2.2.2.1 (FX.2.2.2.2 _ co_RX2_9) dX2_turn_28 ?_
      refine c_WRV (wr := []) (wsN := (wM cI o bo po (wth_X2_isNoTwo b1 b2 k1 5 y1) (wf_X2_become b1 (-100000) f) g ak su gt lf rf kn)) (i0 := 0) (ci := 4) FX (k_X2_become l D cI cB o bo po (wth_X2_isNoTwo b1 b2 k1 5 y1) f g ak su gt lf rf kn b1 (-100000) (in_v_X2_isNone (noTwo_1 c_1))) mi_X2_become rfl ml_RX2_47 (RMok.mk) hl.1 rfl (Nat.le_of_ble_eq_true rfl) dX2_turn_30 (by decide) hK hP hD hS hA [0, 1, 2] rfl [] rfl rfl (by decide) [0, 1, 2] rfl rfl rfl rfl rfl (fun H locs hP hD hS => ?_)
      exact retWR FX hr hlk dX2_turn_33 rfl hP hK hD hS (by decide) (by decide) (by rw [v_X2_turn, if_pos c_1, if_pos c_2]) (by rw [wth_X2_turn, wf_X2_turn, if_pos c_1, if_pos c_2, wak_X2_turn, if_pos c_1, if_pos c_2])
  · refine lv_iconst (v := 0) FX.1 FX.2.1 dX2_turn_13 (by decide) ?_
    exact retWR FX hr hlk dX2_turn_14 rfl hP hK hD hS (by decide) (by decide) (by rw [v_X2_turn, if_neg c_1]) (by rw [wth_X2_turn, wf_X2_turn, if_neg c_1, wak_X2_turn, if_neg c_1])
def v_X2_filter (b1 : Int32) (b2 : Int32) (k1 : Int32) (y1 : Int32) (f : Nat → Int32) : Int32 := if (v_X2_isNoTwo b1 b2 k1 4 y1) = 0 then (if (f b2.toNatClampNeg) = (-100000) then v_X2_become (-100000) else (if (v_X2_isLet k1 (f b2.toNatClampNeg) y1) = 0 then v_X2_become (-100000) else v_X2_become (f b2.toNatClampNeg))) else 0
def wth_X2_filter (b1 : Int32) (b2 : Int32) (k1 : Int32) (y1 : Int32) : Int32 := wth_X2_isNoTwo b1 b2 k1 4 y1
def wf_X2_filter (b1 : Int32) (b2 : Int32) (k1 : Int32) (y1 : Int32) (f : Nat → Int32) : Nat → Int32 := if (v_X2_isNoTwo b1 b2 k1 4 y1) = 0 then (if (f b2.toNatClampNeg) = (-100000) then wf_X2_become b1 (-100000) f else (if (v_X2_isLet k1 (f b2.toNatClampNeg) y1) = 0 then wf_X2_become b1 (-100000) f else wf_X2_become b1 (f b2.toNatClampNeg) f)) else f
def wak_X2_filter (b1 : Int32) (b2 : Int32) (k1 : Int32) (y1 : Int32) (f : Nat → Int32) (ak : Int32) : Int32 := if (v_X2_isNoTwo b1 b2 k1 4 y1) = 0 then (if (f b2.toNatClampNeg) = (-100000) then ak else ak + 1) else ak
set_option maxRecDepth 100000 in
set_option maxHeartbeats 4000000 in
theorem k_X2_filter (l : Launch) (D : va_G) (cI cB : ClassId) (o bo po : Nat) (th : Int32) (f g : Nat → Int32) (ak su gt lf rf kn : Int32) (b1 : Int32) (b2 : Int32) (k1 : Int32) (y1 : Int32) : WR l yX2_filter cX2_filter 5 (some .int) ({ frames := 3, cells := 0, slots := 0, locals := 67 } : Room) D cI cB [.ref o, .int b1, .int b2, .int k1, .int y1] (wM cI o bo po th f g ak su gt lf rf kn) (v_X2_filter b1 b2 k1 y1 f) (wM cI o bo po (wth_X2_filter b1 b2 k1 y1) (wf_X2_filter b1 b2 k1 y1 f) g (wak_X2_filter b1 b2 k1 y1 f ak) su gt lf rf kn) 0 0 := by
  refine bodyWR (by decide +kernel) (Nat.le_of_ble_eq_true rfl) (fun p e s m args below meth c ls A Z => ?_)
  obtain ⟨FX, hr, hlk, hK, hP, hD, hS, hA, hl⟩ := Z
  have hl : lv_has ls 5 [(0, .ref o), (1, .int b1), (2, .int b2), (3, .int k1), (4, .int y1)] := hl
  refine lv_aload_n FX.1 FX.2.1 dX2_filter_0 rfl (lv_at hl 0 rfl) ?_
  refine lv_iload_n FX.1 FX.2.1 dX2_filter_1 rfl (lv_at hl 1 rfl) ?_
  refine lv_iload_n FX.1 FX.2.1 dX2_filter_2 rfl (lv_at hl 2 rfl) ?_
  refine lv_iload_n FX.1 FX.2.1 dX2_filter_3 rfl (lv_at hl 3 rfl) ?_
  refine lv_iconst (v := 4) FX.1 FX.2.1 dX2_filter_4 (by decide) ?_
  refine lv_iload FX.1 FX.2.1 dX2_filter_5 (lv_at hl 4 rfl) ?_
  refine c_WRV (wr := []) (wsN := (wM cI o bo po (wth_X2_isNoTwo b1 b2 k1 4 y1) f g ak su gt lf rf kn)) (i0 := 0) (ci := 4) FX (k_X2_isNoTwo l D cI cB o bo po th f g ak su gt lf rf kn b1 b2 k1 4 y1) mi_X2_isNoTwo rfl ml_RX2_51 (RMok.mk) hl.1 rfl (Nat.le_of_ble_eq_true rfl) dX2_filter_7 (by decide) hK hP hD hS hA [0, 1, 2] rfl [] rfl rfl (by decide) [0, 1, 2] rfl rfl rfl rfl rfl (fun H locs hP hD hS => ?_)
  refine lv_if_eq (tgt := 15) FX.1 FX.2.1 dX2_filter_10 (by decide) (fun c_1 => ?_) (fun c_1 => ?_)
  · refine lv_aload_n FX.1 FX.2.1 dX2_filter_15 rfl (lv_at hl 0 rfl) ?_
    refine va_get (D := D) (ci := 4) (v := .ref bo) (C := RX2) (T := TX2) (N := 9) FX.1 FX.2.1 FX.2.2.2.2 inX2 FX.2.2.2.1 hK hP 0 rfl rfl 1 (by decide) (FX.2.2.2.2 _ fl_RX2_10) (fun _ h9 => h9) rfl dX2_filter_16 ?_
    refine lv_iload_n FX.1 FX.2.1 dX2_filter_19 rfl (lv_at hl 2 rfl) ?_
    refine p_iald (v := f b2.toNatClampNeg) FX hK hP 1 rfl (in_v_X2_isNone (noTwo_2 c_1)) dX2_filter_20 rfl ?_
    refine lv_ldc (v := (-100000)) FX.1 FX.2.1 FX.2.2.2.1 (FX.2.2.2.2 _ co_RX2_9) dX2_filter_21 ?_
    refine lv_icmp_ne (tgt := 34) FX.1 FX.2.1 dX2_filter_23 (by decide) (fun c_2 => ?_) (fun c_2 => ?_)
    · refine lv_aload_n FX.1 FX.2.1 dX2_filter_34 rfl (lv_at hl 0 rfl) ?_
      refine lv_dup FX.1 FX.2.1 dX2_filter_35 rfl ?_
      refine va_get (D := D) (ci := 4) (v := .int ak) (C := RX2) (T := TX2) (N := 9) FX.1 FX.2.1 FX.2.2.2.2 inX2 FX.2.2.2.1 hK hP 0 rfl rfl 3 (by decide) (FX.2.2.2.2 _ fl_RX2_55) (fun _ h9 => h9) rfl dX2_filter_36 ?_
      refine lv_iconst (v := 1) FX.1 FX.2.1 dX2_filter_39 (by decide) ?_
      refine lv_iadd FX.1 FX.2.1 dX2_filter_40 ?_
      refine p_put (wsN := (wM cI o bo po (wth_X2_isNoTwo b1 b2 k1 4 y1) f g (ak + 1) su gt lf rf kn)) (ci := 4) (v := .int (ak + 1)) (ty := .int) FX inX2 tyX2_ok nmX2 hK hP hD hS 0 rfl rfl 3 (by decide) (FX.2.2.2.2 _ fl_RX2_55) rfl (by decide +kernel) rfl rfl (Nat.le_of_ble_eq_true rfl) dX2_filter_41 rfl (fun H locs hP hD hS => ?_)
      refine lv_aload_n FX.1 FX.2.1 dX2_filter_44 rfl (lv_at hl 0 rfl) ?_
      refine lv_iload_n FX.1 FX.2.1 dX2_filter_45 rfl (lv_at hl 1 rfl) ?_
      refine lv_iload_n FX.1 FX.2.1 dX2_filter_46 rfl (lv_at hl 3 rfl) ?_
      refine lv_aload_n FX.1 FX.2.1 dX2_filter_47 rfl (lv_at hl 0 rfl) ?_
      refine va_get (D := D) (ci := 4) (v := .ref bo) (C := RX2) (T := TX2) (N := 9) FX.1 FX.2.1 FX.2.2.2.2 inX2 FX.2.2.2.1 hK hP 0 rfl rfl 1 (by decide) (FX.2.2.2.2 _ fl_RX2_10) (fun _ h9 => h9) rfl dX2_filter_48 ?_
      refine lv_iload_n FX.1 FX.2.1 dX2_filter_51 rfl (lv_at hl 2 rfl) ?_
      refine p_iald (v := f b2.toNatClampNeg) FX hK hP 1 rfl (in_v_X2_isNone (noTwo_2 c_1)) dX2_filter_52 rfl ?_
      refine lv_iload FX.1 FX.2.1 dX2_filter_53 (lv_at hl 4 rfl) ?_
      refine c_RDs FX (r_X2_isLet l D cI cB k1 (f b2.toNatClampNeg) y1) mi_X2_isLet rfl ml_RX2_65 (RMok.mk) hl.1 rfl (Nat.le_of_ble_eq_true rfl) dX2_filter_55 (by decide) hK hP [] rfl ?_
      refine lv_if_eq (tgt := 70) FX.1 FX.2.1 dX2_filter_58 (by decide) (fun c_3 => ?_) (fun c_3 => ?_)
      · refine lv_ldc (v := (-100000)) FX.1 FX.2.1 FX.2.2.2.1 (FX.2.2.2.2 _ co_RX2_9) dX2_filter_70 ?_
        refine c_WRV (wr := []) (wsN := (wM cI o bo po (wth_X2_isNoTwo b1 b2 k1 4 y1) (wf_X2_become b1 (-100000) f) g (ak + 1) su gt lf rf kn)) (i0 := 0) (ci := 4) FX (k_X2_become l D cI cB o bo po (wth_X2_isNoTwo b1 b2 k1 4 y1) f g (ak + 1) su gt lf rf kn b1 (-100000) (in_v_X2_isNone (noTwo_1 c_1))) mi_X2_become rfl ml_RX2_47 (RMok.mk) hl.1 rfl (Nat.le_of_ble_eq_true rfl) dX2_filter_72 (by decide) hK hP hD hS hA [0, 1, 2] rfl [] rfl rfl (by decide) [0, 1, 2] rfl rfl rfl rfl rfl (fun H locs hP hD hS => ?_)
        exact retWR FX hr hlk dX2_filter_75 rfl hP hK hD hS (by decide) (by decide) (by rw [v_X2_filter, if_pos c_1, if_neg c_2, if_pos c_3]) (by rw [wth_X2_filter, wf_X2_filter, if_pos c_1, if_neg c_2, if_pos c_3, wak_X2_filter, if_pos c_1, if_neg c_2])
      · refine lv_aload_n FX.1 FX.2.1 dX2_filter_61 rfl (lv_at hl 0 rfl) ?_
        refine va_get (D := D) (ci := 4) (v := .ref bo) (C := RX2) (T := TX2) (N := 9) FX.1 FX.2.1 FX.2.2.2.2 inX2 FX.2.2.2.1 hK hP 0 rfl rfl 1 (by decide) (FX.2.2.2.2 _ fl_RX2_10) (fun _ h9 => h9) rfl dX2_filter_62 ?_
        refine lv_iload_n FX.1 FX.2.1 dX2_filter_65 rfl (lv_at hl 2 rfl) ?_
        refine p_iald (v := f b2.toNatClampNeg) FX hK hP 1 rfl (in_v_X2_isNone (noTwo_2 c_1)) dX2_filter_66 rfl ?_
        refine lv_goto (tgt := 72) FX.1 FX.2.1 dX2_filter_67 (by decide) ?_
        refine c_WRV (wr := []) (wsN := (wM cI o bo po (wth_X2_isNoTwo b1 b2 k1 4 y1) (wf_X2_become b1 (f b2.toNatClampNeg) f) g (ak + 1) su gt lf rf kn)) (i0 := 0) (ci := 4) FX (k_X2_become l D cI cB o bo po (wth_X2_isNoTwo b1 b2 k1 4 y1) f g (ak + 1) su gt lf rf kn b1 (f b2.toNatClampNeg) (in_v_X2_isNone (noTwo_1 c_1))) mi_X2_become rfl ml_RX2_47 (RMok.mk) hl.1 rfl (Nat.le_of_ble_eq_true rfl) dX2_filter_72 (by decide) hK hP hD hS hA [0, 1, 2] rfl [] rfl rfl (by decide) [0, 1, 2] rfl rfl rfl rfl rfl (fun H locs hP hD hS => ?_)
        exact retWR FX hr hlk dX2_filter_75 rfl hP hK hD hS (by decide) (by decide) (by rw [v_X2_filter, if_pos c_1, if_neg c_2, if_neg c_3]) (by rw [wth_X2_filter, wf_X2_filter, if_pos c_1, if_neg c_2, if_neg c_3, wak_X2_filter, if_pos c_1, if_neg c_2])
    · refine lv_aload_n FX.1 FX.2.1 dX2_filter_26 rfl (lv_at hl 0 rfl) ?_
      refine lv_iload_n FX.1 FX.2.1 dX2_filter_27 rfl (lv_at hl 1 rfl) ?_
      refine lv_ldc (v := (-100000)) FX.1 FX.2.1 FX.2.2.2.1 (FX.2.2.2.2 _ co_RX2_9) dX2_filter_28 ?_
      refine c_WRV (wr := []) (wsN := (wM cI o bo po (wth_X2_isNoTwo b1 b2 k1 4 y1) (wf_X2_become b1 (-100000) f) g ak su gt lf rf kn)) (i0 := 0) (ci := 4) FX (k_X2_become l D cI cB o bo po (wth_X2_isNoTwo b1 b2 k1 4 y1) f g ak su gt lf rf kn b1 (-100000) (in_v_X2_isNone (noTwo_1 c_1))) mi_X2_become rfl ml_RX2_47 (RMok.mk) hl.1 rfl (Nat.le_of_ble_eq_true rfl) dX2_filter_30 (by decide) hK hP hD hS hA [0, 1, 2] rfl [] rfl rfl (by decide) [0, 1, 2] rfl rfl rfl rfl rfl (fun H locs hP hD hS => ?_)
      exact retWR FX hr hlk dX2_filter_33 rfl hP hK hD hS (by decide) (by decide) (by rw [v_X2_filter, if_pos c_1, if_pos c_2]) (by rw [wth_X2_filter, wf_X2_filter, if_pos c_1, if_pos c_2, wak_X2_filter, if_pos c_1, if_pos c_2])
  · refine lv_iconst (v := 0) FX.1 FX.2.1 dX2_filter_13 (by decide) ?_
    exact retWR FX hr hlk dX2_filter_14 rfl hP hK hD hS (by decide) (by decide) (by rw [v_X2_filter, if_neg c_1]) (by rw [wth_X2_filter, wf_X2_filter, if_neg c_1, wak_X2_filter, if_neg c_1])
def v_X2_or (b1 : Int32) (b2 : Int32) (b3 : Int32) (f : Nat → Int32) : Int32 := if (v_X2_isNone b1) = 0 then (if (v_X2_isNone b2) = 0 then (if (v_X2_isNone b3) = 0 then (if (f b2.toNatClampNeg) = (-100000) then v_X2_become (f b3.toNatClampNeg) else v_X2_become (f b2.toNatClampNeg)) else 0) else 0) else 0
def wth_X2_or (b1 : Int32) (b2 : Int32) (b3 : Int32) : Int32 := if (v_X2_isNone b1) = 0 then (if (v_X2_isNone b2) = 0 then (if (v_X2_isNone b3) = 0 then wth_X2_fails 0 0 else wth_X2_fails 1 0) else wth_X2_fails 1 0) else wth_X2_fails 1 0
def wf_X2_or (b1 : Int32) (b2 : Int32) (b3 : Int32) (f : Nat → Int32) : Nat → Int32 := if (v_X2_isNone b1) = 0 then (if (v_X2_isNone b2) = 0 then (if (v_X2_isNone b3) = 0 then (if (f b2.toNatClampNeg) = (-100000) then wf_X2_become b1 (f b3.toNatClampNeg) f else wf_X2_become b1 (f b2.toNatClampNeg) f) else f) else f) else f
def wak_X2_or (b1 : Int32) (b2 : Int32) (b3 : Int32) (f : Nat → Int32) (ak : Int32) : Int32 := if (v_X2_isNone b1) = 0 then (if (v_X2_isNone b2) = 0 then (if (v_X2_isNone b3) = 0 then (if (f b2.toNatClampNeg) = (-100000) then ak + (v_X2_one 1) else ak + (v_X2_one 0)) else ak) else ak) else ak
set_option maxRecDepth 100000 in
set_option maxHeartbeats 4000000 in
theorem k_X2_or (l : Launch) (D : va_G) (cI cB : ClassId) (o bo po : Nat) (th : Int32) (f g : Nat → Int32) (ak su gt lf rf kn : Int32) (b1 : Int32) (b2 : Int32) (b3 : Int32) : WR l yX2_or cX2_or 4 (some .int) ({ frames := 2, cells := 0, slots := 0, locals := 42 } : Room) D cI cB [.ref o, .int b1, .int b2, .int b3] (wM cI o bo po th f g ak su gt lf rf kn) (v_X2_or b1 b2 b3 f) (wM cI o bo po (wth_X2_or b1 b2 b3) (wf_X2_or b1 b2 b3 f) g (wak_X2_or b1 b2 b3 f ak) su gt lf rf kn) 0 0 := by
  refine bodyWR (by decide +kernel) (Nat.le_of_ble_eq_true rfl) (fun p e s m args below meth c ls A Z => ?_)
  obtain ⟨FX, hr, hlk, hK, hP, hD, hS, hA, hl⟩ := Z
  have hl : lv_has ls 4 [(0, .ref o), (1, .int b1), (2, .int b2), (3, .int b3)] := hl
  refine lv_aload_n FX.1 FX.2.1 dX2_or_0 rfl (lv_at hl 0 rfl) ?_
  refine lv_iload_n FX.1 FX.2.1 dX2_or_1 rfl (lv_at hl 1 rfl) ?_
  refine c_RDs FX (r_X2_isNone l D cI cB b1) mi_X2_isNone rfl ml_RX2_40 (RMok.mk) hl.1 rfl (Nat.le_of_ble_eq_true rfl) dX2_or_2 (by decide) hK hP [] rfl ?_
  refine lv_if_ne (tgt := 22) FX.1 FX.2.1 dX2_or_5 (by decide) (fun c_1 => ?_) (fun c_1 => ?_)
  · refine lv_iconst (v := 1) FX.1 FX.2.1 dX2_or_22 (by decide) ?_
    refine lv_goto (tgt := 27) FX.1 FX.2.1 dX2_or_23 (by decide) ?_
    refine lv_iconst (v := 0) FX.1 FX.2.1 dX2_or_27 (by decide) ?_
    refine c_WRV (wr := []) (wsN := (wM cI o bo po (wth_X2_fails 1 0) f g ak su gt lf rf kn)) (i0 := 0) (ci := 4) FX (k_X2_fails l D cI cB o bo po th f g ak su gt lf rf kn 1 0) mi_X2_fails rfl ml_RX2_43 (RMok.mk) hl.1 rfl (Nat.le_of_ble_eq_true rfl) dX2_or_28 (by decide) hK hP hD hS hA [0, 1, 2] rfl [] rfl rfl (by decide) [0, 1, 2] rfl rfl rfl rfl rfl (fun H locs hP hD hS => ?_)
    refine lv_if_eq (tgt := 36) FX.1 FX.2.1 dX2_or_31 (by decide) (fun c_2 => ?_) (fun c_2 => ?_)
    · exact absurd c_2 (by decide)
    · refine lv_iconst (v := 0) FX.1 FX.2.1 dX2_or_34 (by decide) ?_
      exact retWR FX hr hlk dX2_or_35 rfl hP hK hD hS (by decide) (by decide) (by rw [v_X2_or, if_neg c_1]) (by rw [wth_X2_or, if_neg c_1, wf_X2_or, if_neg c_1, wak_X2_or, if_neg c_1])
  · refine lv_iload_n FX.1 FX.2.1 dX2_or_8 rfl (lv_at hl 2 rfl) ?_
    refine c_RDs FX (r_X2_isNone l D cI cB b2) mi_X2_isNone rfl ml_RX2_40 (RMok.mk) hl.1 rfl (Nat.le_of_ble_eq_true rfl) dX2_or_9 (by decide) hK hP [] rfl ?_
    refine lv_if_ne (tgt := 22) FX.1 FX.2.1 dX2_or_12 (by decide) (fun c_3 => ?_) (fun c_3 => ?_)
    · refine lv_iconst (v := 1) FX.1 FX.2.1 dX2_or_22 (by decide) ?_
      refine lv_goto (tgt := 27) FX.1 FX.2.1 dX2_or_23 (by decide) ?_
      refine lv_iconst (v := 0) FX.1 FX.2.1 dX2_or_27 (by decide) ?_
      refine c_WRV (wr := []) (wsN := (wM cI o bo po (wth_X2_fails 1 0) f g ak su gt lf rf kn)) (i0 := 0) (ci := 4) FX (k_X2_fails l D cI cB o bo po th f g ak su gt lf rf kn 1 0) mi_X2_fails rfl ml_RX2_43 (RMok.mk) hl.1 rfl (Nat.le_of_ble_eq_true rfl) dX2_or_28 (by decide) hK hP hD hS hA [0, 1, 2] rfl [] rfl rfl (by decide) [0, 1, 2] rfl rfl rfl rfl rfl (fun H locs hP hD hS => ?_)
      refine lv_if_eq (tgt := 36) FX.1 FX.2.1 dX2_or_31 (by decide) (fun c_4 => ?_) (fun c_4 => ?_)
      · exact absurd c_4 (by decide)
      · refine lv_iconst (v := 0) FX.1 FX.2.1 dX2_or_34 (by decide) ?_
        exact retWR FX hr hlk dX2_or_35 rfl hP hK hD hS (by decide) (by decide) (by rw [v_X2_or, if_pos c_1, if_neg c_3]) (by rw [wth_X2_or, if_pos c_1, if_neg c_3, wf_X2_or, if_pos c_1, if_neg c_3, wak_X2_or, if_pos c_1, if_neg c_3])
    · refine lv_iload_n FX.1 FX.2.1 dX2_or_15 rfl (lv_at hl 3 rfl) ?_
      refine c_RDs FX (r_X2_isNone l D cI cB b3) mi_X2_isNone rfl ml_RX2_40 (RMok.mk) hl.1 rfl (Nat.le_of_ble_eq_true rfl) dX2_or_16 (by decide) hK hP [] rfl ?_
      refine lv_if_eq (tgt := 26) FX.1 FX.2.1 dX2_or_19 (by decide) (fun c_5 => ?_) (fun c_5 => ?_)
      · refine lv_iconst (v := 0) FX.1 FX.2.1 dX2_or_26 (by decide) ?_
        refine lv_iconst (v := 0) FX.1 FX.2.1 dX2_or_27 (by decide) ?_
        refine c_WRV (wr := []) (wsN := (wM cI o bo po (wth_X2_fails 0 0) f g ak su gt lf rf kn)) (i0 := 0) (ci := 4) FX (k_X2_fails l D cI cB o bo po th f g ak su gt lf rf kn 0 0) mi_X2_fails rfl ml_RX2_43 (RMok.mk) hl.1 rfl (Nat.le_of_ble_eq_true rfl) dX2_or_28 (by decide) hK hP hD hS hA [0, 1, 2] rfl [] rfl rfl (by decide) [0, 1, 2] rfl rfl rfl rfl rfl (fun H locs hP hD hS => ?_)
        refine lv_if_eq (tgt := 36) FX.1 FX.2.1 dX2_or_31 (by decide) (fun c_6 => ?_) (fun c_6 => ?_)
        · refine lv_aload_n FX.1 FX.2.1 dX2_or_36 rfl (lv_at hl 0 rfl) ?_
          refine lv_dup FX.1 FX.2.1 dX2_or_37 rfl ?_
          refine va_get (D := D) (ci := 4) (v := .int ak) (C := RX2) (T := TX2) (N := 9) FX.1 FX.2.1 FX.2.2.2.2 inX2 FX.2.2.2.1 hK hP 0 rfl rfl 3 (by decide) (FX.2.2.2.2 _ fl_RX2_55) (fun _ h9 => h9) rfl dX2_or_38 ?_
          refine lv_aload_n FX.1 FX.2.1 dX2_or_41 rfl (lv_at hl 0 rfl) ?_
          refine va_get (D := D) (ci := 4) (v := .ref bo) (C := RX2) (T := TX2) (N := 9) FX.1 FX.2.1 FX.2.2.2.2 inX2 FX.2.2.2.1 hK hP 0 rfl rfl 1 (by decide) (FX.2.2.2.2 _ fl_RX2_10) (fun _ h9 => h9) rfl dX2_or_42 ?_
          refine lv_iload_n FX.1 FX.2.1 dX2_or_45 rfl (lv_at hl 2 rfl) ?_
          refine p_iald (v := f b2.toNatClampNeg) FX hK hP 1 rfl (in_v_X2_isNone c_3) dX2_or_46 rfl ?_
          refine lv_ldc (v := (-100000)) FX.1 FX.2.1 FX.2.2.2.1 (FX.2.2.2.2 _ co_RX2_9) dX2_or_47 ?_
          refine lv_icmp_ne (tgt := 56) FX.1 FX.2.1 dX2_or_49 (by decide) (fun c_7 => ?_) (fun c_7 => ?_)
          · refine lv_iconst (v := 0) FX.1 FX.2.1 dX2_or_56 (by decide) ?_
            refine c_RDs FX (r_X2_one l D cI cB 0) mi_X2_one rfl ml_RX2_32 (RMok.mk) hl.1 rfl (Nat.le_of_ble_eq_true rfl) dX2_or_57 (by decide) hK hP [] rfl ?_
            refine lv_iadd FX.1 FX.2.1 dX2_or_60 ?_
            refine p_put (wsN := (wM cI o bo po (wth_X2_fails 0 0) f g (ak + (v_X2_one 0)) su gt lf rf kn)) (ci := 4) (v := .int (ak + (v_X2_one 0))) (ty := .int) FX inX2 tyX2_ok nmX2 hK hP hD hS 0 rfl rfl 3 (by decide) (FX.2.2.2.2 _ fl_RX2_55) rfl (by decide +kernel) rfl rfl (Nat.le_of_ble_eq_true rfl) dX2_or_61 rfl (fun H locs hP hD hS => ?_)
            refine lv_aload_n FX.1 FX.2.1 dX2_or_64 rfl (lv_at hl 0 rfl) ?_
            refine lv_iload_n FX.1 FX.2.1 dX2_or_65 rfl (lv_at hl 1 rfl) ?_
            refine lv_aload_n FX.1 FX.2.1 dX2_or_66 rfl (lv_at hl 0 rfl) ?_
            refine va_get (D := D) (ci := 4) (v := .ref bo) (C := RX2) (T := TX2) (N := 9) FX.1 FX.2.1 FX.2.2.2.2 inX2 FX.2.2.2.1 hK hP 0 rfl rfl 1 (by decide) (FX.2.2.2.2 _ fl_RX2_10) (fun _ h9 => h9) rfl dX2_or_67 ?_
            refine lv_iload_n FX.1 FX.2.1 dX2_or_70 rfl (lv_at hl 2 rfl) ?_
            refine p_iald (v := f b2.toNatClampNeg) FX hK hP 1 rfl (in_v_X2_isNone c_3) dX2_or_71 rfl ?_
            refine lv_ldc (v := (-100000)) FX.1 FX.2.1 FX.2.2.2.1 (FX.2.2.2.2 _ co_RX2_9) dX2_or_72 ?_
            refine lv_icmp_ne (tgt := 86) FX.1 FX.2.1 dX2_or_74 (by decide) (fun c_8 => ?_) (fun c_8 => ?_)
            · refine lv_aload_n FX.1 FX.2.1 dX2_or_86 rfl (lv_at hl 0 rfl) ?_
              refine va_get (D := D) (ci := 4) (v := .ref bo) (C := RX2) (T := TX2) (N := 9) FX.1 FX.2.1 FX.2.2.2.2 inX2 FX.2.2.2.1 hK hP 0 rfl rfl 1 (by decide) (FX.2.2.2.2 _ fl_RX2_10) (fun _ h9 => h9) rfl dX2_or_87 ?_
              refine lv_iload_n FX.1 FX.2.1 dX2_or_90 rfl (lv_at hl 2 rfl) ?_
              refine p_iald (v := f b2.toNatClampNeg) FX hK hP 1 rfl (in_v_X2_isNone c_3) dX2_or_91 rfl ?_
              refine c_WRV (wr := []) (wsN := (wM cI o bo po (wth_X2_fails 0 0) (wf_X2_become b1 (f b2.toNatClampNeg) f) g (ak + (v_X2_one 0)) su gt lf rf kn)) (i0 := 0) (ci := 4) FX (k_X2_become l D cI cB o bo po (wth_X2_fails 0 0) f g (ak + (v_X2_one 0)) su gt lf rf kn b1 (f b2.toNatClampNeg) (in_v_X2_isNone c_1)) mi_X2_become rfl ml_RX2_47 (RMok.mk) hl.1 rfl (Nat.le_of_ble_eq_true rfl) dX2_or_92 (by decide) hK hP hD hS hA [0, 1, 2] rfl [] rfl rfl (by decide) [0, 1, 2] rfl rfl rfl rfl rfl (fun H locs hP hD hS => ?_)
              exact retWR FX hr hlk dX2_or_95 rfl hP hK hD hS (by decide) (by decide) (by rw [v_X2_or, if_pos c_1, if_pos c_3, if_pos c_5, if_neg c_7]) (by rw [wth_X2_or, if_pos c_1, if_pos c_3, if_pos c_5, wf_X2_or, if_pos c_1, if_pos c_3, if_pos c_5, if_neg c_7, wak_X2_or, if_pos c_1, if_pos c_3, if_pos c_5, if_neg c_7])
            · exact absurd c_8 c_7
          · refine lv_iconst (v := 1) FX.1 FX.2.1 dX2_or_52 (by decide) ?_
            refine lv_goto (tgt := 57) FX.1 FX.2.1 dX2_or_53 (by decide) ?_
            refine c_RDs FX (r_X2_one l D cI cB 1) mi_X2_one rfl ml_RX2_32 (RMok.mk) hl.1 rfl (Nat.le_of_ble_eq_true rfl) dX2_or_57 (by decide) hK hP [] rfl ?_
            refine lv_iadd FX.1 FX.2.1 dX2_or_60 ?_
            refine p_put (wsN := (wM cI o bo po (wth_X2_fails 0 0) f g (ak + (v_X2_one 1)) su gt lf rf kn)) (ci := 4) (v := .int (ak + (v_X2_one 1))) (ty := .int) FX inX2 tyX2_ok nmX2 hK hP hD hS 0 rfl rfl 3 (by decide) (FX.2.2.2.2 _ fl_RX2_55) rfl (by decide +kernel) rfl rfl (Nat.le_of_ble_eq_true rfl) dX2_or_61 rfl (fun H locs hP hD hS => ?_)
            refine lv_aload_n FX.1 FX.2.1 dX2_or_64 rfl (lv_at hl 0 rfl) ?_
            refine lv_iload_n FX.1 FX.2.1 dX2_or_65 rfl (lv_at hl 1 rfl) ?_
            refine lv_aload_n FX.1 FX.2.1 dX2_or_66 rfl (lv_at hl 0 rfl) ?_
            refine va_get (D := D) (ci := 4) (v := .ref bo) (C := RX2) (T := TX2) (N := 9) FX.1 FX.2.1 FX.2.2.2.2 inX2 FX.2.2.2.1 hK hP 0 rfl rfl 1 (by decide) (FX.2.2.2.2 _ fl_RX2_10) (fun _ h9 => h9) rfl dX2_or_67 ?_
            refine lv_iload_n FX.1 FX.2.1 dX2_or_70 rfl (lv_at hl 2 rfl) ?_
            refine p_iald (v := f b2.toNatClampNeg) FX hK hP 1 rfl (in_v_X2_isNone c_3) dX2_or_71 rfl ?_
            refine lv_ldc (v := (-100000)) FX.1 FX.2.1 FX.2.2.2.1 (FX.2.2.2.2 _ co_RX2_9) dX2_or_72 ?_
            refine lv_icmp_ne (tgt := 86) FX.1 FX.2.1 dX2_or_74 (by decide) (fun c_9 => ?_) (fun c_9 => ?_)
            · exact absurd c_7 c_9
            · refine lv_aload_n FX.1 FX.2.1 dX2_or_77 rfl (lv_at hl 0 rfl) ?_
              refine va_get (D := D) (ci := 4) (v := .ref bo) (C := RX2) (T := TX2) (N := 9) FX.1 FX.2.1 FX.2.2.2.2 inX2 FX.2.2.2.1 hK hP 0 rfl rfl 1 (by decide) (FX.2.2.2.2 _ fl_RX2_10) (fun _ h9 => h9) rfl dX2_or_78 ?_
              refine lv_iload_n FX.1 FX.2.1 dX2_or_81 rfl (lv_at hl 3 rfl) ?_
              refine p_iald (v := f b3.toNatClampNeg) FX hK hP 1 rfl (in_v_X2_isNone c_5) dX2_or_82 rfl ?_
              refine lv_goto (tgt := 92) FX.1 FX.2.1 dX2_or_83 (by decide) ?_
              refine c_WRV (wr := []) (wsN := (wM cI o bo po (wth_X2_fails 0 0) (wf_X2_become b1 (f b3.toNatClampNeg) f) g (ak + (v_X2_one 1)) su gt lf rf kn)) (i0 := 0) (ci := 4) FX (k_X2_become l D cI cB o bo po (wth_X2_fails 0 0) f g (ak + (v_X2_one 1)) su gt lf rf kn b1 (f b3.toNatClampNeg) (in_v_X2_isNone c_1)) mi_X2_become rfl ml_RX2_47 (RMok.mk) hl.1 rfl (Nat.le_of_ble_eq_true rfl) dX2_or_92 (by decide) hK hP hD hS hA [0, 1, 2] rfl [] rfl rfl (by decide) [0, 1, 2] rfl rfl rfl rfl rfl (fun H locs hP hD hS => ?_)
              exact retWR FX hr hlk dX2_or_95 rfl hP hK hD hS (by decide) (by decide) (by rw [v_X2_or, if_pos c_1, if_pos c_3, if_pos c_5, if_pos c_7]) (by rw [wth_X2_or, if_pos c_1, if_pos c_3, if_pos c_5, wf_X2_or, if_pos c_1, if_pos c_3, if_pos c_5, if_pos c_7, wak_X2_or, if_pos c_1, if_pos c_3, if_pos c_5, if_pos c_7])
        · exact absurd c_6 (by decide)
      · refine lv_iconst (v := 1) FX.1 FX.2.1 dX2_or_22 (by decide) ?_
        refine lv_goto (tgt := 27) FX.1 FX.2.1 dX2_or_23 (by decide) ?_
        refine lv_iconst (v := 0) FX.1 FX.2.1 dX2_or_27 (by decide) ?_
        refine c_WRV (wr := []) (wsN := (wM cI o bo po (wth_X2_fails 1 0) f g ak su gt lf rf kn)) (i0 := 0) (ci := 4) FX (k_X2_fails l D cI cB o bo po th f g ak su gt lf rf kn 1 0) mi_X2_fails rfl ml_RX2_43 (RMok.mk) hl.1 rfl (Nat.le_of_ble_eq_true rfl) dX2_or_28 (by decide) hK hP hD hS hA [0, 1, 2] rfl [] rfl rfl (by decide) [0, 1, 2] rfl rfl rfl rfl rfl (fun H locs hP hD hS => ?_)
        refine lv_if_eq (tgt := 36) FX.1 FX.2.1 dX2_or_31 (by decide) (fun c_10 => ?_) (fun c_10 => ?_)
        · exact absurd c_10 (by decide)
        · refine lv_iconst (v := 0) FX.1 FX.2.1 dX2_or_34 (by decide) ?_
          exact retWR FX hr hlk dX2_or_35 rfl hP hK hD hS (by decide) (by decide) (by rw [v_X2_or, if_pos c_1, if_pos c_3, if_neg c_5]) (by rw [wth_X2_or, if_pos c_1, if_pos c_3, if_neg c_5, wf_X2_or, if_pos c_1, if_pos c_3, if_neg c_5, wak_X2_or, if_pos c_1, if_pos c_3, if_neg c_5])
def v_X2_wrap (b1 : Int32) (b2 : Int32) (f : Nat → Int32) : Int32 := v_X2_copy b1 b2 f
def wth_X2_wrap (b1 : Int32) (b2 : Int32) : Int32 := wth_X2_copy b1 b2
def wf_X2_wrap (b1 : Int32) (b2 : Int32) (f : Nat → Int32) : Nat → Int32 := wf_X2_copy b1 b2 f
set_option maxRecDepth 100000 in
set_option maxHeartbeats 4000000 in
theorem k_X2_wrap (l : Launch) (D : va_G) (cI cB : ClassId) (o bo po : Nat) (th : Int32) (f g : Nat → Int32) (ak su gt lf rf kn : Int32) (b1 : Int32) (b2 : Int32) : WR l yX2_wrap cX2_wrap 3 (some .int) ({ frames := 3, cells := 0, slots := 0, locals := 64 } : Room) D cI cB [.ref o, .int b1, .int b2] (wM cI o bo po th f g ak su gt lf rf kn) (v_X2_wrap b1 b2 f) (wM cI o bo po (wth_X2_wrap b1 b2) (wf_X2_wrap b1 b2 f) g ak su gt lf rf kn) 0 0 := by
  refine bodyWR (by decide +kernel) (Nat.le_of_ble_eq_true rfl) (fun p e s m args below meth c ls A Z => ?_)
  obtain ⟨FX, hr, hlk, hK, hP, hD, hS, hA, hl⟩ := Z
  have hl : lv_has ls 3 [(0, .ref o), (1, .int b1), (2, .int b2)] := hl
  refine lv_aload_n FX.1 FX.2.1 dX2_wrap_0 rfl (lv_at hl 0 rfl) ?_
  refine lv_iload_n FX.1 FX.2.1 dX2_wrap_1 rfl (lv_at hl 1 rfl) ?_
  refine lv_iload_n FX.1 FX.2.1 dX2_wrap_2 rfl (lv_at hl 2 rfl) ?_
  refine c_WRV (wr := []) (wsN := (wM cI o bo po (wth_X2_copy b1 b2) (wf_X2_copy b1 b2 f) g ak su gt lf rf kn)) (i0 := 0) (ci := 4) FX (k_X2_copy l D cI cB o bo po th f g ak su gt lf rf kn b1 b2) mi_X2_copy rfl ml_RX2_68 (RMok.mk) hl.1 rfl (Nat.le_of_ble_eq_true rfl) dX2_wrap_3 (by decide) hK hP hD hS hA [0, 1, 2] rfl [] rfl rfl (by decide) [0, 1, 2] rfl rfl rfl rfl rfl (fun H locs hP hD hS => ?_)
  exact retWR FX hr hlk dX2_wrap_6 rfl hP hK hD hS (by decide) (by decide) (by rw [v_X2_wrap]) (by rw [wth_X2_wrap, wf_X2_wrap])
def v_X2_both (b1 : Int32) (b2 : Int32) (k1 : Int32) (k2 : Int32) (y1 : Int32) (f : Nat → Int32) : Int32 := if (v_X2_isNone b1) = 0 then (if (v_X2_isNone b2) = 0 then (if (v_X2_isIn k1 0 5) = 0 then 0 else (if (v_X2_isIn k2 0 4) = 0 then 0 else (if (v_X2_isNoNumber y1) = 0 then (if (f b2.toNatClampNeg) = (-100000) then v_X2_become (-100000) else (if (v_X2_rule k1 (f b2.toNatClampNeg) y1) = (-100000) then v_X2_become (-100000) else v_X2_become (v_X2_turned k2 (v_X2_rule k1 (f b2.toNatClampNeg) y1) y1 f))) else 0))) else 0) else 0
def wth_X2_both (b1 : Int32) (b2 : Int32) (k1 : Int32) (k2 : Int32) (y1 : Int32) : Int32 := if (v_X2_isNone b1) = 0 then (if (v_X2_isNone b2) = 0 then (if (v_X2_isIn k1 0 5) = 0 then wth_X2_fails 0 1 else (if (v_X2_isIn k2 0 4) = 0 then wth_X2_fails 0 1 else (if (v_X2_isNoNumber y1) = 0 then wth_X2_fails 0 0 else wth_X2_fails 0 1))) else (if (v_X2_isIn k1 0 5) = 0 then wth_X2_fails 1 1 else (if (v_X2_isIn k2 0 4) = 0 then wth_X2_fails 1 1 else (if (v_X2_isNoNumber y1) = 0 then wth_X2_fails 1 0 else wth_X2_fails 1 1)))) else (if (v_X2_isIn k1 0 5) = 0 then wth_X2_fails 1 1 else (if (v_X2_isIn k2 0 4) = 0 then wth_X2_fails 1 1 else (if (v_X2_isNoNumber y1) = 0 then wth_X2_fails 1 0 else wth_X2_fails 1 1)))
def wf_X2_both (b1 : Int32) (b2 : Int32) (k1 : Int32) (k2 : Int32) (y1 : Int32) (f : Nat → Int32) : Nat → Int32 := if (v_X2_isNone b1) = 0 then (if (v_X2_isNone b2) = 0 then (if (v_X2_isIn k1 0 5) = 0 then f else (if (v_X2_isIn k2 0 4) = 0 then f else (if (v_X2_isNoNumber y1) = 0 then (if (f b2.toNatClampNeg) = (-100000) then wf_X2_become b1 (-100000) f else (if (v_X2_rule k1 (f b2.toNatClampNeg) y1) = (-100000) then wf_X2_become b1 (-100000) f else wf_X2_become b1 (v_X2_turned k2 (v_X2_rule k1 (f b2.toNatClampNeg) y1) y1 f) f)) else f))) else f) else f
def wak_X2_both (b1 : Int32) (b2 : Int32) (k1 : Int32) (k2 : Int32) (y1 : Int32) (f : Nat → Int32) (ak : Int32) : Int32 := if (v_X2_isNone b1) = 0 then (if (v_X2_isNone b2) = 0 then (if (v_X2_isIn k1 0 5) = 0 then ak else (if (v_X2_isIn k2 0 4) = 0 then ak else (if (v_X2_isNoNumber y1) = 0 then (if (f b2.toNatClampNeg) = (-100000) then ak else (if (v_X2_rule k1 (f b2.toNatClampNeg) y1) = (-100000) then ak + 1 else (ak + 1) + 1)) else ak))) else ak) else ak
set_option maxRecDepth 100000 in
set_option maxHeartbeats 4000000 in
theorem k_X2_both (l : Launch) (D : va_G) (cI cB : ClassId) (o bo po : Nat) (th : Int32) (f g : Nat → Int32) (ak su gt lf rf kn : Int32) (b1 : Int32) (b2 : Int32) (k1 : Int32) (k2 : Int32) (y1 : Int32) : WR l yX2_both cX2_both 7 (some .int) ({ frames := 4, cells := 0, slots := 0, locals := 84 } : Room) D cI cB [.ref o, .int b1, .int b2, .int k1, .int k2, .int y1] (wM cI o bo po th f g ak su gt lf rf kn) (v_X2_both b1 b2 k1 k2 y1 f) (wM cI o bo po (wth_X2_both b1 b2 k1 k2 y1) (wf_X2_both b1 b2 k1 k2 y1 f) g (wak_X2_both b1 b2 k1 k2 y1 f ak) su gt lf rf kn) 0 0 := by
  refine bodyWR (by decide +kernel) (Nat.le_of_ble_eq_true rfl) (fun p e s m args below meth c ls A Z => ?_)
  obtain ⟨FX, hr, hlk, hK, hP, hD, hS, hA, hl⟩ := Z
  have hl : lv_has ls 7 [(0, .ref o), (1, .int b1), (2, .int b2), (3, .int k1), (4, .int k2), (5, .int y1)] := hl
  refine lv_aload_n FX.1 FX.2.1 dX2_both_0 rfl (lv_at hl 0 rfl) ?_
  refine lv_iload_n FX.1 FX.2.1 dX2_both_1 rfl (lv_at hl 1 rfl) ?_
  refine c_RDs FX (r_X2_isNone l D cI cB b1) mi_X2_isNone rfl ml_RX2_40 (RMok.mk) hl.1 rfl (Nat.le_of_ble_eq_true rfl) dX2_both_2 (by decide) hK hP [] rfl ?_
  refine lv_if_ne (tgt := 15) FX.1 FX.2.1 dX2_both_5 (by decide) (fun c_1 => ?_) (fun c_1 => ?_)
  · refine lv_iconst (v := 1) FX.1 FX.2.1 dX2_both_15 (by decide) ?_
    refine lv_goto (tgt := 20) FX.1 FX.2.1 dX2_both_16 (by decide) ?_
    refine lv_iload_n FX.1 FX.2.1 dX2_both_20 rfl (lv_at hl 3 rfl) ?_
    refine lv_iconst (v := 0) FX.1 FX.2.1 dX2_both_21 (by decide) ?_
    refine lv_iconst (v := 5) FX.1 FX.2.1 dX2_both_22 (by decide) ?_
    refine c_RDs FX (r_X2_isIn l D cI cB k1 0 5) mi_X2_isIn rfl ml_RX2_21 (RMok.mk) hl.1 rfl (Nat.le_of_ble_eq_true rfl) dX2_both_23 (by decide) hK hP [] rfl ?_
    refine lv_if_eq (tgt := 47) FX.1 FX.2.1 dX2_both_26 (by decide) (fun c_2 => ?_) (fun c_2 => ?_)
    · refine lv_iconst (v := 1) FX.1 FX.2.1 dX2_both_47 (by decide) ?_
      refine lv_goto (tgt := 52) FX.1 FX.2.1 dX2_both_48 (by decide) ?_
      refine c_WRV (wr := []) (wsN := (wM cI o bo po (wth_X2_fails 1 1) f g ak su gt lf rf kn)) (i0 := 0) (ci := 4) FX (k_X2_fails l D cI cB o bo po th f g ak su gt lf rf kn 1 1) mi_X2_fails rfl ml_RX2_43 (RMok.mk) hl.1 rfl (Nat.le_of_ble_eq_true rfl) dX2_both_52 (by decide) hK hP hD hS hA [0, 1, 2] rfl [] rfl rfl (by decide) [0, 1, 2] rfl rfl rfl rfl rfl (fun H locs hP hD hS => ?_)
      refine lv_if_eq (tgt := 60) FX.1 FX.2.1 dX2_both_55 (by decide) (fun c_3 => ?_) (fun c_3 => ?_)
      · exact absurd c_3 (by decide)
      · refine lv_iconst (v := 0) FX.1 FX.2.1 dX2_both_58 (by decide) ?_
        exact retWR FX hr hlk dX2_both_59 rfl hP hK hD hS (by decide) (by decide) (by rw [v_X2_both, if_neg c_1]) (by rw [wth_X2_both, if_neg c_1, if_pos c_2, wf_X2_both, if_neg c_1, wak_X2_both, if_neg c_1])
    · refine lv_iload FX.1 FX.2.1 dX2_both_29 (lv_at hl 4 rfl) ?_
      refine lv_iconst (v := 0) FX.1 FX.2.1 dX2_both_31 (by decide) ?_
      refine lv_iconst (v := 4) FX.1 FX.2.1 dX2_both_32 (by decide) ?_
      refine c_RDs FX (r_X2_isIn l D cI cB k2 0 4) mi_X2_isIn rfl ml_RX2_21 (RMok.mk) hl.1 rfl (Nat.le_of_ble_eq_true rfl) dX2_both_33 (by decide) hK hP [] rfl ?_
      refine lv_if_eq (tgt := 47) FX.1 FX.2.1 dX2_both_36 (by decide) (fun c_4 => ?_) (fun c_4 => ?_)
      · refine lv_iconst (v := 1) FX.1 FX.2.1 dX2_both_47 (by decide) ?_
        refine lv_goto (tgt := 52) FX.1 FX.2.1 dX2_both_48 (by decide) ?_
        refine c_WRV (wr := []) (wsN := (wM cI o bo po (wth_X2_fails 1 1) f g ak su gt lf rf kn)) (i0 := 0) (ci := 4) FX (k_X2_fails l D cI cB o bo po th f g ak su gt lf rf kn 1 1) mi_X2_fails rfl ml_RX2_43 (RMok.mk) hl.1 rfl (Nat.le_of_ble_eq_true rfl) dX2_both_52 (by decide) hK hP hD hS hA [0, 1, 2] rfl [] rfl rfl (by decide) [0, 1, 2] rfl rfl rfl rfl rfl (fun H locs hP hD hS => ?_)
        refine lv_if_eq (tgt := 60) FX.1 FX.2.1 dX2_both_55 (by decide) (fun c_5 => ?_) (fun c_5 => ?_)
        · exact absurd c_5 (by decide)
        · refine lv_iconst (v := 0) FX.1 FX.2.1 dX2_both_58 (by decide) ?_
          exact retWR FX hr hlk dX2_both_59 rfl hP hK hD hS (by decide) (by decide) (by rw [v_X2_both, if_neg c_1]) (by rw [wth_X2_both, if_neg c_1, if_neg c_2, if_pos c_4, wf_X2_both, if_neg c_1, wak_X2_both, if_neg c_1])
      · refine lv_iload FX.1 FX.2.1 dX2_both_39 (lv_at hl 5 rfl) ?_
        refine c_RDs FX (r_X2_isNoNumber l D cI cB y1) mi_X2_isNoNumber rfl ml_RX2_25 (RMok.mk) hl.1 rfl (Nat.le_of_ble_eq_true rfl) dX2_both_41 (by decide) hK hP [] rfl ?_
        refine lv_if_eq (tgt := 51) FX.1 FX.2.1 dX2_both_44 (by decide) (fun c_6 => ?_) (fun c_6 => ?_)
        · refine lv_iconst (v := 0) FX.1 FX.2.1 dX2_both_51 (by decide) ?_
          refine c_WRV (wr := []) (wsN := (wM cI o bo po (wth_X2_fails 1 0) f g ak su gt lf rf kn)) (i0 := 0) (ci := 4) FX (k_X2_fails l D cI cB o bo po th f g ak su gt lf rf kn 1 0) mi_X2_fails rfl ml_RX2_43 (RMok.mk) hl.1 rfl (Nat.le_of_ble_eq_true rfl) dX2_both_52 (by decide) hK hP hD hS hA [0, 1, 2] rfl [] rfl rfl (by decide) [0, 1, 2] rfl rfl rfl rfl rfl (fun H locs hP hD hS => ?_)
          refine lv_if_eq (tgt := 60) FX.1 FX.2.1 dX2_both_55 (by decide) (fun c_7 => ?_) (fun c_7 => ?_)
          · exact absurd c_7 (by decide)
          · refine lv_iconst (v := 0) FX.1 FX.2.1 dX2_both_58 (by decide) ?_
            exact retWR FX hr hlk dX2_both_59 rfl hP hK hD hS (by decide) (by decide) (by rw [v_X2_both, if_neg c_1]) (by rw [wth_X2_both, if_neg c_1, if_neg c_2, if_neg c_4, if_pos c_6, wf_X2_both, if_neg c_1, wak_X2_both, if_neg c_1])
        · refine lv_iconst (v := 1) FX.1 FX.2.1 dX2_both_47 (by decide) ?_
          refine lv_goto (tgt := 52) FX.1 FX.2.1 dX2_both_48 (by decide) ?_
          refine c_WRV (wr := []) (wsN := (wM cI o bo po (wth_X2_fails 1 1) f g ak su gt lf rf kn)) (i0 := 0) (ci := 4) FX (k_X2_fails l D cI cB o bo po th f g ak su gt lf rf kn 1 1) mi_X2_fails rfl ml_RX2_43 (RMok.mk) hl.1 rfl (Nat.le_of_ble_eq_true rfl) dX2_both_52 (by decide) hK hP hD hS hA [0, 1, 2] rfl [] rfl rfl (by decide) [0, 1, 2] rfl rfl rfl rfl rfl (fun H locs hP hD hS => ?_)
          refine lv_if_eq (tgt := 60) FX.1 FX.2.1 dX2_both_55 (by decide) (fun c_8 => ?_) (fun c_8 => ?_)
          · exact absurd c_8 (by decide)
          · refine lv_iconst (v := 0) FX.1 FX.2.1 dX2_both_58 (by decide) ?_
            exact retWR FX hr hlk dX2_both_59 rfl hP hK hD hS (by decide) (by decide) (by rw [v_X2_both, if_neg c_1]) (by rw [wth_X2_both, if_neg c_1, if_neg c_2, if_neg c_4, if_neg c_6, wf_X2_both, if_neg c_1, wak_X2_both, if_neg c_1])
  · refine lv_iload_n FX.1 FX.2.1 dX2_both_8 rfl (lv_at hl 2 rfl) ?_
    refine c_RDs FX (r_X2_isNone l D cI cB b2) mi_X2_isNone rfl ml_RX2_40 (RMok.mk) hl.1 rfl (Nat.le_of_ble_eq_true rfl) dX2_both_9 (by decide) hK hP [] rfl ?_
    refine lv_if_eq (tgt := 19) FX.1 FX.2.1 dX2_both_12 (by decide) (fun c_9 => ?_) (fun c_9 => ?_)
    · refine lv_iconst (v := 0) FX.1 FX.2.1 dX2_both_19 (by decide) ?_
      refine lv_iload_n FX.1 FX.2.1 dX2_both_20 rfl (lv_at hl 3 rfl) ?_
      refine lv_iconst (v := 0) FX.1 FX.2.1 dX2_both_21 (by decide) ?_
      refine lv_iconst (v := 5) FX.1 FX.2.1 dX2_both_22 (by decide) ?_
      refine c_RDs FX (r_X2_isIn l D cI cB k1 0 5) mi_X2_isIn rfl ml_RX2_21 (RMok.mk) hl.1 rfl (Nat.le_of_ble_eq_true rfl) dX2_both_23 (by decide) hK hP [] rfl ?_
      refine lv_if_eq (tgt := 47) FX.1 FX.2.1 dX2_both_26 (by decide) (fun c_10 => ?_) (fun c_10 => ?_)
      · refine lv_iconst (v := 1) FX.1 FX.2.1 dX2_both_47 (by decide) ?_
        refine lv_goto (tgt := 52) FX.1 FX.2.1 dX2_both_48 (by decide) ?_
        refine c_WRV (wr := []) (wsN := (wM cI o bo po (wth_X2_fails 0 1) f g ak su gt lf rf kn)) (i0 := 0) (ci := 4) FX (k_X2_fails l D cI cB o bo po th f g ak su gt lf rf kn 0 1) mi_X2_fails rfl ml_RX2_43 (RMok.mk) hl.1 rfl (Nat.le_of_ble_eq_true rfl) dX2_both_52 (by decide) hK hP hD hS hA [0, 1, 2] rfl [] rfl rfl (by decide) [0, 1, 2] rfl rfl rfl rfl rfl (fun H locs hP hD hS => ?_)
        refine lv_if_eq (tgt := 60) FX.1 FX.2.1 dX2_both_55 (by decide) (fun c_11 => ?_) (fun c_11 => ?_)
        · exact absurd c_11 (by decide)
        · refine lv_iconst (v := 0) FX.1 FX.2.1 dX2_both_58 (by decide) ?_
          exact retWR FX hr hlk dX2_both_59 rfl hP hK hD hS (by decide) (by decide) (by rw [v_X2_both, if_pos c_1, if_pos c_9, if_pos c_10]) (by rw [wth_X2_both, if_pos c_1, if_pos c_9, if_pos c_10, wf_X2_both, if_pos c_1, if_pos c_9, if_pos c_10, wak_X2_both, if_pos c_1, if_pos c_9, if_pos c_10])
      · refine lv_iload FX.1 FX.2.1 dX2_both_29 (lv_at hl 4 rfl) ?_
        refine lv_iconst (v := 0) FX.1 FX.2.1 dX2_both_31 (by decide) ?_
        refine lv_iconst (v := 4) FX.1 FX.2.1 dX2_both_32 (by decide) ?_
        refine c_RDs FX (r_X2_isIn l D cI cB k2 0 4) mi_X2_isIn rfl ml_RX2_21 (RMok.mk) hl.1 rfl (Nat.le_of_ble_eq_true rfl) dX2_both_33 (by decide) hK hP [] rfl ?_
        refine lv_if_eq (tgt := 47) FX.1 FX.2.1 dX2_both_36 (by decide) (fun c_12 => ?_) (fun c_12 => ?_)
        · refine lv_iconst (v := 1) FX.1 FX.2.1 dX2_both_47 (by decide) ?_
          refine lv_goto (tgt := 52) FX.1 FX.2.1 dX2_both_48 (by decide) ?_
          refine c_WRV (wr := []) (wsN := (wM cI o bo po (wth_X2_fails 0 1) f g ak su gt lf rf kn)) (i0 := 0) (ci := 4) FX (k_X2_fails l D cI cB o bo po th f g ak su gt lf rf kn 0 1) mi_X2_fails rfl ml_RX2_43 (RMok.mk) hl.1 rfl (Nat.le_of_ble_eq_true rfl) dX2_both_52 (by decide) hK hP hD hS hA [0, 1, 2] rfl [] rfl rfl (by decide) [0, 1, 2] rfl rfl rfl rfl rfl (fun H locs hP hD hS => ?_)
          refine lv_if_eq (tgt := 60) FX.1 FX.2.1 dX2_both_55 (by decide) (fun c_13 => ?_) (fun c_13 => ?_)
          · exact absurd c_13 (by decide)
          · refine lv_iconst (v := 0) FX.1 FX.2.1 dX2_both_58 (by decide) ?_
            exact retWR FX hr hlk dX2_both_59 rfl hP hK hD hS (by decide) (by decide) (by rw [v_X2_both, if_pos c_1, if_pos c_9, if_neg c_10, if_pos c_12]) (by rw [wth_X2_both, if_pos c_1, if_pos c_9, if_neg c_10, if_pos c_12, wf_X2_both, if_pos c_1, if_pos c_9, if_neg c_10, if_pos c_12, wak_X2_both, if_pos c_1, if_pos c_9, if_neg c_10, if_pos c_12])
        · refine lv_iload FX.1 FX.2.1 dX2_both_39 (lv_at hl 5 rfl) ?_
          refine c_RDs FX (r_X2_isNoNumber l D cI cB y1) mi_X2_isNoNumber rfl ml_RX2_25 (RMok.mk) hl.1 rfl (Nat.le_of_ble_eq_true rfl) dX2_both_41 (by decide) hK hP [] rfl ?_
          refine lv_if_eq (tgt := 51) FX.1 FX.2.1 dX2_both_44 (by decide) (fun c_14 => ?_) (fun c_14 => ?_)
          · refine lv_iconst (v := 0) FX.1 FX.2.1 dX2_both_51 (by decide) ?_
            refine c_WRV (wr := []) (wsN := (wM cI o bo po (wth_X2_fails 0 0) f g ak su gt lf rf kn)) (i0 := 0) (ci := 4) FX (k_X2_fails l D cI cB o bo po th f g ak su gt lf rf kn 0 0) mi_X2_fails rfl ml_RX2_43 (RMok.mk) hl.1 rfl (Nat.le_of_ble_eq_true rfl) dX2_both_52 (by decide) hK hP hD hS hA [0, 1, 2] rfl [] rfl rfl (by decide) [0, 1, 2] rfl rfl rfl rfl rfl (fun H locs hP hD hS => ?_)
            refine lv_if_eq (tgt := 60) FX.1 FX.2.1 dX2_both_55 (by decide) (fun c_15 => ?_) (fun c_15 => ?_)
            · refine lv_aload_n FX.1 FX.2.1 dX2_both_60 rfl (lv_at hl 0 rfl) ?_
              refine va_get (D := D) (ci := 4) (v := .ref bo) (C := RX2) (T := TX2) (N := 9) FX.1 FX.2.1 FX.2.2.2.2 inX2 FX.2.2.2.1 hK hP 0 rfl rfl 1 (by decide) (FX.2.2.2.2 _ fl_RX2_10) (fun _ h9 => h9) rfl dX2_both_61 ?_
              refine lv_iload_n FX.1 FX.2.1 dX2_both_64 rfl (lv_at hl 2 rfl) ?_
              refine p_iald (v := f b2.toNatClampNeg) FX hK hP 1 rfl (in_v_X2_isNone c_9) dX2_both_65 rfl ?_
              refine lv_ldc (v := (-100000)) FX.1 FX.2.1 FX.2.2.2.1 (FX.2.2.2.2 _ co_RX2_9) dX2_both_66 ?_
              refine lv_icmp_ne (tgt := 79) FX.1 FX.2.1 dX2_both_68 (by decide) (fun c_16 => ?_) (fun c_16 => ?_)
              · refine lv_aload_n FX.1 FX.2.1 dX2_both_79 rfl (lv_at hl 0 rfl) ?_
                refine lv_dup FX.1 FX.2.1 dX2_both_80 rfl ?_
                refine va_get (D := D) (ci := 4) (v := .int ak) (C := RX2) (T := TX2) (N := 9) FX.1 FX.2.1 FX.2.2.2.2 inX2 FX.2.2.2.1 hK hP 0 rfl rfl 3 (by decide) (FX.2.2.2.2 _ fl_RX2_55) (fun _ h9 => h9) rfl dX2_both_81 ?_
                refine lv_iconst (v := 1) FX.1 FX.2.1 dX2_both_84 (by decide) ?_
                refine lv_iadd FX.1 FX.2.1 dX2_both_85 ?_
                refine p_put (wsN := (wM cI o bo po (wth_X2_fails 0 0) f g (ak + 1) su gt lf rf kn)) (ci := 4) (v := .int (ak + 1)) (ty := .int) FX inX2 tyX2_ok nmX2 hK hP hD hS 0 rfl rfl 3 (by decide) (FX.2.2.2.2 _ fl_RX2_55) rfl (by decide +kernel) rfl rfl (Nat.le_of_ble_eq_true rfl) dX2_both_86 rfl (fun H locs hP hD hS => ?_)
                refine lv_iload_n FX.1 FX.2.1 dX2_both_89 rfl (lv_at hl 3 rfl) ?_
                refine lv_aload_n FX.1 FX.2.1 dX2_both_90 rfl (lv_at hl 0 rfl) ?_
                refine va_get (D := D) (ci := 4) (v := .ref bo) (C := RX2) (T := TX2) (N := 9) FX.1 FX.2.1 FX.2.2.2.2 inX2 FX.2.2.2.1 hK hP 0 rfl rfl 1 (by decide) (FX.2.2.2.2 _ fl_RX2_10) (fun _ h9 => h9) rfl dX2_both_91 ?_
                refine lv_iload_n FX.1 FX.2.1 dX2_both_94 rfl (lv_at hl 2 rfl) ?_
                refine p_iald (v := f b2.toNatClampNeg) FX hK hP 1 rfl (in_v_X2_isNone c_9) dX2_both_95 rfl ?_
                refine lv_iload FX.1 FX.2.1 dX2_both_96 (lv_at hl 5 rfl) ?_
                refine c_RDs FX (r_X2_rule l D cI cB k1 (f b2.toNatClampNeg) y1) mi_X2_rule rfl ml_RX2_58 (RMok.mk) hl.1 rfl (Nat.le_of_ble_eq_true rfl) dX2_both_98 (by decide) hK hP [] rfl ?_
                refine lv_istore (lv' := [(6, .int (v_X2_rule k1 (f b2.toNatClampNeg) y1)), (0, .ref o), (1, .int b1), (2, .int b2), (3, .int k1), (4, .int k2), (5, .int y1)]) FX.1 FX.2.1 dX2_both_101 hl (by decide) rfl (fun ls hl => ?_)
                refine lv_iload FX.1 FX.2.1 dX2_both_103 (lv_at hl 0 rfl) ?_
                refine lv_ldc (v := (-100000)) FX.1 FX.2.1 FX.2.2.2.1 (FX.2.2.2.2 _ co_RX2_9) dX2_both_105 ?_
                refine lv_icmp_ne (tgt := 118) FX.1 FX.2.1 dX2_both_107 (by decide) (fun c_17 => ?_) (fun c_17 => ?_)
                · refine lv_aload_n FX.1 FX.2.1 dX2_both_118 rfl (lv_at hl 1 rfl) ?_
                  refine lv_dup FX.1 FX.2.1 dX2_both_119 rfl ?_
                  refine va_get (D := D) (ci := 4) (v := .int (ak + 1)) (C := RX2) (T := TX2) (N := 9) FX.1 FX.2.1 FX.2.2.2.2 inX2 FX.2.2.2.1 hK hP 0 rfl rfl 3 (by decide) (FX.2.2.2.2 _ fl_RX2_55) (fun _ h9 => h9) rfl dX2_both_120 ?_
                  refine lv_iconst (v := 1) FX.1 FX.2.1 dX2_both_123 (by decide) ?_
                  refine lv_iadd FX.1 FX.2.1 dX2_both_124 ?_
                  refine p_put (wsN := (wM cI o bo po (wth_X2_fails 0 0) f g ((ak + 1) + 1) su gt lf rf kn)) (ci := 4) (v := .int ((ak + 1) + 1)) (ty := .int) FX inX2 tyX2_ok nmX2 hK hP hD hS 0 rfl rfl 3 (by decide) (FX.2.2.2.2 _ fl_RX2_55) rfl (by decide +kernel) rfl rfl (Nat.le_of_ble_eq_true rfl) dX2_both_125 rfl (fun H locs hP hD hS => ?_)
                  refine lv_aload_n FX.1 FX.2.1 dX2_both_128 rfl (lv_at hl 1 rfl) ?_
                  refine lv_iload_n FX.1 FX.2.1 dX2_both_129 rfl (lv_at hl 2 rfl) ?_
                  refine lv_aload_n FX.1 FX.2.1 dX2_both_130 rfl (lv_at hl 1 rfl) ?_
                  refine lv_iload FX.1 FX.2.1 dX2_both_131 (lv_at hl 5 rfl) ?_
                  refine lv_iload FX.1 FX.2.1 dX2_both_133 (lv_at hl 0 rfl) ?_
                  refine lv_iload FX.1 FX.2.1 dX2_both_135 (lv_at hl 6 rfl) ?_
                  refine c_RDV (i0 := 0) (ci := 4) FX (r_X2_turned l D cI cB o bo po (wth_X2_fails 0 0) f g ((ak + 1) + 1) su gt lf rf kn k2 (v_X2_rule k1 (f b2.toNatClampNeg) y1) y1) mi_X2_turned rfl ml_RX2_62 (RMok.mk) hl.1 rfl (Nat.le_of_ble_eq_true rfl) dX2_both_137 (by decide) hK hP [0, 1, 2] rfl rfl rfl rfl ?_
                  refine c_WRV (wr := []) (wsN := (wM cI o bo po (wth_X2_fails 0 0) (wf_X2_become b1 (v_X2_turned k2 (v_X2_rule k1 (f b2.toNatClampNeg) y1) y1 f) f) g ((ak + 1) + 1) su gt lf rf kn)) (i0 := 0) (ci := 4) FX (k_X2_become l D cI cB o bo po (wth_X2_fails 0 0) f g ((ak + 1) + 1) su gt lf rf kn b1 (v_X2_turned k2 (v_X2_rule k1 (f b2.toNatClampNeg) y1) y1 f) (in_v_X2_isNone c_1)) mi_X2_become rfl ml_RX2_47 (RMok.mk) hl.1 rfl (Nat.le_of_ble_eq_true rfl) dX2_both_140 (by decide) hK hP hD hS hA [0, 1, 2] rfl [] rfl rfl (by decide) [0, 1, 2] rfl rfl rfl rfl rfl (fun H locs hP hD hS => ?_)
                  exact retWR FX hr hlk dX2_both_143 rfl hP hK hD hS (by decide) (by decide) (by rw [v_X2_both, if_pos c_1, if_pos c_9, if_neg c_10, if_neg c_12, if_pos c_14, if_neg c_16, if_neg c_17]) (by rw [wth_X2_both, if_pos c_1, if_pos c_9, if_neg c_10, if_neg c_12, if_pos c_14, wf_X2_both, if_pos c_1, if_pos c_9, if_neg c_10, if_neg c_12, if_pos c_14, if_neg c_16, if_neg c_17, wak_X2_both, if_pos c_1, if_pos c_9, if_neg c_10, if_neg c_12, if_pos c_14, if_neg c_16, if_neg c_17])
                · refine lv_aload_n FX.1 FX.2.1 dX2_both_110 rfl (lv_at hl 1 rfl) ?_
                  refine lv_iload_n FX.1 FX.2.1 dX2_both_111 rfl (lv_at hl 2 rfl) ?_
                  refine lv_ldc (v := (-100000)) FX.1 FX.2.1 FX.2.2.2.1 (FX.2.2.2.2 _ co_RX2_9) dX2_both_112 ?_
                  refine c_WRV (wr := []) (wsN := (wM cI o bo po (wth_X2_fails 0 0) (wf_X2_become b1 (-100000) f) g (ak + 1) su gt lf rf kn)) (i0 := 0) (ci := 4) FX (k_X2_become l D cI cB o bo po (wth_X2_fails 0 0) f g (ak + 1) su gt lf rf kn b1 (-100000) (in_v_X2_isNone c_1)) mi_X2_become rfl ml_RX2_47 (RMok.mk) hl.1 rfl (Nat.le_of_ble_eq_true rfl) dX2_both_114 (by decide) hK hP hD hS hA [0, 1, 2] rfl [] rfl rfl (by decide) [0, 1, 2] rfl rfl rfl rfl rfl (fun H locs hP hD hS => ?_)
                  exact retWR FX hr hlk dX2_both_117 rfl hP hK hD hS (by decide) (by decide) (by rw [v_X2_both, if_pos c_1, if_pos c_9, if_neg c_10, if_neg c_12, if_pos c_14, if_neg c_16, if_pos c_17]) (by rw [wth_X2_both, if_pos c_1, if_pos c_9, if_neg c_10, if_neg c_12, if_pos c_14, wf_X2_both, if_pos c_1, if_pos c_9, if_neg c_10, if_neg c_12, if_pos c_14, if_neg c_16, if_pos c_17, wak_X2_both, if_pos c_1, if_pos c_9, if_neg c_10, if_neg c_12, if_pos c_14, if_neg c_16, if_pos c_17])
              · refine lv_aload_n FX.1 FX.2.1 dX2_both_71 rfl (lv_at hl 0 rfl) ?_
                refine lv_iload_n FX.1 FX.2.1 dX2_both_72 rfl (lv_at hl 1 rfl) ?_
                refine lv_ldc (v := (-100000)) FX.1 FX.2.1 FX.2.2.2.1 (FX.2.2.2.2 _ co_RX2_9) dX2_both_73 ?_
                refine c_WRV (wr := []) (wsN := (wM cI o bo po (wth_X2_fails 0 0) (wf_X2_become b1 (-100000) f) g ak su gt lf rf kn)) (i0 := 0) (ci := 4) FX (k_X2_become l D cI cB o bo po (wth_X2_fails 0 0) f g ak su gt lf rf kn b1 (-100000) (in_v_X2_isNone c_1)) mi_X2_become rfl ml_RX2_47 (RMok.mk) hl.1 rfl (Nat.le_of_ble_eq_true rfl) dX2_both_75 (by decide) hK hP hD hS hA [0, 1, 2] rfl [] rfl rfl (by decide) [0, 1, 2] rfl rfl rfl rfl rfl (fun H locs hP hD hS => ?_)
                exact retWR FX hr hlk dX2_both_78 rfl hP hK hD hS (by decide) (by decide) (by rw [v_X2_both, if_pos c_1, if_pos c_9, if_neg c_10, if_neg c_12, if_pos c_14, if_pos c_16]) (by rw [wth_X2_both, if_pos c_1, if_pos c_9, if_neg c_10, if_neg c_12, if_pos c_14, wf_X2_both, if_pos c_1, if_pos c_9, if_neg c_10, if_neg c_12, if_pos c_14, if_pos c_16, wak_X2_both, if_pos c_1, if_pos c_9, if_neg c_10, if_neg c_12, if_pos c_14, if_pos c_16])
            · exact absurd c_15 (by decide)
          · refine lv_iconst (v := 1) FX.1 FX.2.1 dX2_both_47 (by decide) ?_
            refine lv_goto (tgt := 52) FX.1 FX.2.1 dX2_both_48 (by decide) ?_
            refine c_WRV (wr := []) (wsN := (wM cI o bo po (wth_X2_fails 0 1) f g ak su gt lf rf kn)) (i0 := 0) (ci := 4) FX (k_X2_fails l D cI cB o bo po th f g ak su gt lf rf kn 0 1) mi_X2_fails rfl ml_RX2_43 (RMok.mk) hl.1 rfl (Nat.le_of_ble_eq_true rfl) dX2_both_52 (by decide) hK hP hD hS hA [0, 1, 2] rfl [] rfl rfl (by decide) [0, 1, 2] rfl rfl rfl rfl rfl (fun H locs hP hD hS => ?_)
            refine lv_if_eq (tgt := 60) FX.1 FX.2.1 dX2_both_55 (by decide) (fun c_18 => ?_) (fun c_18 => ?_)
            · exact absurd c_18 (by decide)
            · refine lv_iconst (v := 0) FX.1 FX.2.1 dX2_both_58 (by decide) ?_
              exact retWR FX hr hlk dX2_both_59 rfl hP hK hD hS (by decide) (by decide) (by rw [v_X2_both, if_pos c_1, if_pos c_9, if_neg c_10, if_neg c_12, if_neg c_14]) (by rw [wth_X2_both, if_pos c_1, if_pos c_9, if_neg c_10, if_neg c_12, if_neg c_14, wf_X2_both, if_pos c_1, if_pos c_9, if_neg c_10, if_neg c_12, if_neg c_14, wak_X2_both, if_pos c_1, if_pos c_9, if_neg c_10, if_neg c_12, if_neg c_14])
    · refine lv_iconst (v := 1) FX.1 FX.2.1 dX2_both_15 (by decide) ?_
      refine lv_goto (tgt := 20) FX.1 FX.2.1 dX2_both_16 (by decide) ?_
      refine lv_iload_n FX.1 FX.2.1 dX2_both_20 rfl (lv_at hl 3 rfl) ?_
      refine lv_iconst (v := 0) FX.1 FX.2.1 dX2_both_21 (by decide) ?_
      refine lv_iconst (v := 5) FX.1 FX.2.1 dX2_both_22 (by decide) ?_
      refine c_RDs FX (r_X2_isIn l D cI cB k1 0 5) mi_X2_isIn rfl ml_RX2_21 (RMok.mk) hl.1 rfl (Nat.le_of_ble_eq_true rfl) dX2_both_23 (by decide) hK hP [] rfl ?_
      refine lv_if_eq (tgt := 47) FX.1 FX.2.1 dX2_both_26 (by decide) (fun c_19 => ?_) (fun c_19 => ?_)
      · refine lv_iconst (v := 1) FX.1 FX.2.1 dX2_both_47 (by decide) ?_
        refine lv_goto (tgt := 52) FX.1 FX.2.1 dX2_both_48 (by decide) ?_
        refine c_WRV (wr := []) (wsN := (wM cI o bo po (wth_X2_fails 1 1) f g ak su gt lf rf kn)) (i0 := 0) (ci := 4) FX (k_X2_fails l D cI cB o bo po th f g ak su gt lf rf kn 1 1) mi_X2_fails rfl ml_RX2_43 (RMok.mk) hl.1 rfl (Nat.le_of_ble_eq_true rfl) dX2_both_52 (by decide) hK hP hD hS hA [0, 1, 2] rfl [] rfl rfl (by decide) [0, 1, 2] rfl rfl rfl rfl rfl (fun H locs hP hD hS => ?_)
        refine lv_if_eq (tgt := 60) FX.1 FX.2.1 dX2_both_55 (by decide) (fun c_20 => ?_) (fun c_20 => ?_)
        · exact absurd c_20 (by decide)
        · refine lv_iconst (v := 0) FX.1 FX.2.1 dX2_both_58 (by decide) ?_
          exact retWR FX hr hlk dX2_both_59 rfl hP hK hD hS (by decide) (by decide) (by rw [v_X2_both, if_pos c_1, if_neg c_9]) (by rw [wth_X2_both, if_pos c_1, if_neg c_9, if_pos c_19, wf_X2_both, if_pos c_1, if_neg c_9, wak_X2_both, if_pos c_1, if_neg c_9])
      · refine lv_iload FX.1 FX.2.1 dX2_both_29 (lv_at hl 4 rfl) ?_
        refine lv_iconst (v := 0) FX.1 FX.2.1 dX2_both_31 (by decide) ?_
        refine lv_iconst (v := 4) FX.1 FX.2.1 dX2_both_32 (by decide) ?_
        refine c_RDs FX (r_X2_isIn l D cI cB k2 0 4) mi_X2_isIn rfl ml_RX2_21 (RMok.mk) hl.1 rfl (Nat.le_of_ble_eq_true rfl) dX2_both_33 (by decide) hK hP [] rfl ?_
        refine lv_if_eq (tgt := 47) FX.1 FX.2.1 dX2_both_36 (by decide) (fun c_21 => ?_) (fun c_21 => ?_)
        · refine lv_iconst (v := 1) FX.1 FX.2.1 dX2_both_47 (by decide) ?_
          refine lv_goto (tgt := 52) FX.1 FX.2.1 dX2_both_48 (by decide) ?_
          refine c_WRV (wr := []) (wsN := (wM cI o bo po (wth_X2_fails 1 1) f g ak su gt lf rf kn)) (i0 := 0) (ci := 4) FX (k_X2_fails l D cI cB o bo po th f g ak su gt lf rf kn 1 1) mi_X2_fails rfl ml_RX2_43 (RMok.mk) hl.1 rfl (Nat.le_of_ble_eq_true rfl) dX2_both_52 (by decide) hK hP hD hS hA [0, 1, 2] rfl [] rfl rfl (by decide) [0, 1, 2] rfl rfl rfl rfl rfl (fun H locs hP hD hS => ?_)
          refine lv_if_eq (tgt := 60) FX.1 FX.2.1 dX2_both_55 (by decide) (fun c_22 => ?_) (fun c_22 => ?_)
          · exact absurd c_22 (by decide)
          · refine lv_iconst (v := 0) FX.1 FX.2.1 dX2_both_58 (by decide) ?_
            exact retWR FX hr hlk dX2_both_59 rfl hP hK hD hS (by decide) (by decide) (by rw [v_X2_both, if_pos c_1, if_neg c_9]) (by rw [wth_X2_both, if_pos c_1, if_neg c_9, if_neg c_19, if_pos c_21, wf_X2_both, if_pos c_1, if_neg c_9, wak_X2_both, if_pos c_1, if_neg c_9])
        · refine lv_iload FX.1 FX.2.1 dX2_both_39 (lv_at hl 5 rfl) ?_
          refine c_RDs FX (r_X2_isNoNumber l D cI cB y1) mi_X2_isNoNumber rfl ml_RX2_25 (RMok.mk) hl.1 rfl (Nat.le_of_ble_eq_true rfl) dX2_both_41 (by decide) hK hP [] rfl ?_
          refine lv_if_eq (tgt := 51) FX.1 FX.2.1 dX2_both_44 (by decide) (fun c_23 => ?_) (fun c_23 => ?_)
          · refine lv_iconst (v := 0) FX.1 FX.2.1 dX2_both_51 (by decide) ?_
            refine c_WRV (wr := []) (wsN := (wM cI o bo po (wth_X2_fails 1 0) f g ak su gt lf rf kn)) (i0 := 0) (ci := 4) FX (k_X2_fails l D cI cB o bo po th f g ak su gt lf rf kn 1 0) mi_X2_fails rfl ml_RX2_43 (RMok.mk) hl.1 rfl (Nat.le_of_ble_eq_true rfl) dX2_both_52 (by decide) hK hP hD hS hA [0, 1, 2] rfl [] rfl rfl (by decide) [0, 1, 2] rfl rfl rfl rfl rfl (fun H locs hP hD hS => ?_)
            refine lv_if_eq (tgt := 60) FX.1 FX.2.1 dX2_both_55 (by decide) (fun c_24 => ?_) (fun c_24 => ?_)
            · exact absurd c_24 (by decide)
            · refine lv_iconst (v := 0) FX.1 FX.2.1 dX2_both_58 (by decide) ?_
              exact retWR FX hr hlk dX2_both_59 rfl hP hK hD hS (by decide) (by decide) (by rw [v_X2_both, if_pos c_1, if_neg c_9]) (by rw [wth_X2_both, if_pos c_1, if_neg c_9, if_neg c_19, if_neg c_21, if_pos c_23, wf_X2_both, if_pos c_1, if_neg c_9, wak_X2_both, if_pos c_1, if_neg c_9])
          · refine lv_iconst (v := 1) FX.1 FX.2.1 dX2_both_47 (by decide) ?_
            refine lv_goto (tgt := 52) FX.1 FX.2.1 dX2_both_48 (by decide) ?_
            refine c_WRV (wr := []) (wsN := (wM cI o bo po (wth_X2_fails 1 1) f g ak su gt lf rf kn)) (i0 := 0) (ci := 4) FX (k_X2_fails l D cI cB o bo po th f g ak su gt lf rf kn 1 1) mi_X2_fails rfl ml_RX2_43 (RMok.mk) hl.1 rfl (Nat.le_of_ble_eq_true rfl) dX2_both_52 (by decide) hK hP hD hS hA [0, 1, 2] rfl [] rfl rfl (by decide) [0, 1, 2] rfl rfl rfl rfl rfl (fun H locs hP hD hS => ?_)
            refine lv_if_eq (tgt := 60) FX.1 FX.2.1 dX2_both_55 (by decide) (fun c_25 => ?_) (fun c_25 => ?_)
            · exact absurd c_25 (by decide)
            · refine lv_iconst (v := 0) FX.1 FX.2.1 dX2_both_58 (by decide) ?_
              exact retWR FX hr hlk dX2_both_59 rfl hP hK hD hS (by decide) (by decide) (by rw [v_X2_both, if_pos c_1, if_neg c_9]) (by rw [wth_X2_both, if_pos c_1, if_neg c_9, if_neg c_19, if_neg c_21, if_neg c_23, wf_X2_both, if_pos c_1, if_neg c_9, wak_X2_both, if_pos c_1, if_neg c_9])
def v_X2_take (b1 : Int32) (f : Nat → Int32) (su : Int32) : Int32 := if (v_X2_fails (v_X2_isNone b1) 0) = 0 then (if (f b1.toNatClampNeg) = (-100000) then su else wsu_X2_give (f b1.toNatClampNeg) su) else 0
def wth_X2_take (b1 : Int32) : Int32 := wth_X2_fails (v_X2_isNone b1) 0
def wak_X2_take (b1 : Int32) (f : Nat → Int32) (ak : Int32) : Int32 := if (v_X2_fails (v_X2_isNone b1) 0) = 0 then (if (f b1.toNatClampNeg) = (-100000) then ak else wak_X2_give ak) else ak
def wsu_X2_take (b1 : Int32) (f : Nat → Int32) (su : Int32) : Int32 := if (v_X2_fails (v_X2_isNone b1) 0) = 0 then (if (f b1.toNatClampNeg) = (-100000) then su else wsu_X2_give (f b1.toNatClampNeg) su) else su
def wgt_X2_take (b1 : Int32) (f : Nat → Int32) (gt : Int32) : Int32 := if (v_X2_fails (v_X2_isNone b1) 0) = 0 then (if (f b1.toNatClampNeg) = (-100000) then gt else wgt_X2_give gt) else gt
set_option maxRecDepth 100000 in
set_option maxHeartbeats 4000000 in
theorem k_X2_take (l : Launch) (D : va_G) (cI cB : ClassId) (o bo po : Nat) (th : Int32) (f g : Nat → Int32) (ak su gt lf rf kn : Int32) (b1 : Int32) : WR l yX2_take cX2_take 2 (some .int) ({ frames := 2, cells := 0, slots := 0, locals := 42 } : Room) D cI cB [.ref o, .int b1] (wM cI o bo po th f g ak su gt lf rf kn) (v_X2_take b1 f su) (wM cI o bo po (wth_X2_take b1) f g (wak_X2_take b1 f ak) (wsu_X2_take b1 f su) (wgt_X2_take b1 f gt) lf rf kn) 0 0 := by
  refine bodyWR (by decide +kernel) (Nat.le_of_ble_eq_true rfl) (fun p e s m args below meth c ls A Z => ?_)
  obtain ⟨FX, hr, hlk, hK, hP, hD, hS, hA, hl⟩ := Z
  have hl : lv_has ls 2 [(0, .ref o), (1, .int b1)] := hl
  refine lv_aload_n FX.1 FX.2.1 dX2_take_0 rfl (lv_at hl 0 rfl) ?_
  refine lv_iload_n FX.1 FX.2.1 dX2_take_1 rfl (lv_at hl 1 rfl) ?_
  refine c_RDs FX (r_X2_isNone l D cI cB b1) mi_X2_isNone rfl ml_RX2_40 (RMok.mk) hl.1 rfl (Nat.le_of_ble_eq_true rfl) dX2_take_2 (by decide) hK hP [] rfl ?_
  refine lv_iconst (v := 0) FX.1 FX.2.1 dX2_take_5 (by decide) ?_
  refine c_WRV (wr := []) (wsN := (wM cI o bo po (wth_X2_fails (v_X2_isNone b1) 0) f g ak su gt lf rf kn)) (i0 := 0) (ci := 4) FX (k_X2_fails l D cI cB o bo po th f g ak su gt lf rf kn (v_X2_isNone b1) 0) mi_X2_fails rfl ml_RX2_43 (RMok.mk) hl.1 rfl (Nat.le_of_ble_eq_true rfl) dX2_take_6 (by decide) hK hP hD hS hA [0, 1, 2] rfl [] rfl rfl (by decide) [0, 1, 2] rfl rfl rfl rfl rfl (fun H locs hP hD hS => ?_)
  refine lv_if_eq (tgt := 14) FX.1 FX.2.1 dX2_take_9 (by decide) (fun c_1 => ?_) (fun c_1 => ?_)
  · refine lv_aload_n FX.1 FX.2.1 dX2_take_14 rfl (lv_at hl 0 rfl) ?_
    refine va_get (D := D) (ci := 4) (v := .ref bo) (C := RX2) (T := TX2) (N := 9) FX.1 FX.2.1 FX.2.2.2.2 inX2 FX.2.2.2.1 hK hP 0 rfl rfl 1 (by decide) (FX.2.2.2.2 _ fl_RX2_10) (fun _ h9 => h9) rfl dX2_take_15 ?_
    refine lv_iload_n FX.1 FX.2.1 dX2_take_18 rfl (lv_at hl 1 rfl) ?_
    refine p_iald (v := f b1.toNatClampNeg) FX hK hP 1 rfl (in_v_X2_isNone (fails_1 c_1)) dX2_take_19 rfl ?_
    refine lv_ldc (v := (-100000)) FX.1 FX.2.1 FX.2.2.2.1 (FX.2.2.2.2 _ co_RX2_9) dX2_take_20 ?_
    refine lv_icmp_eq (tgt := 35) FX.1 FX.2.1 dX2_take_22 (by decide) (fun c_2 => ?_) (fun c_2 => ?_)
    · refine lv_aload_n FX.1 FX.2.1 dX2_take_35 rfl (lv_at hl 0 rfl) ?_
      refine va_get (D := D) (ci := 4) (v := .int su) (C := RX2) (T := TX2) (N := 9) FX.1 FX.2.1 FX.2.2.2.2 inX2 FX.2.2.2.1 hK hP 0 rfl rfl 4 (by decide) (FX.2.2.2.2 _ fl_RX2_74) (fun _ h9 => h9) rfl dX2_take_36 ?_
      exact retWR FX hr hlk dX2_take_39 rfl hP hK hD hS (by decide) (by decide) (by rw [v_X2_take, if_pos c_1, if_pos c_2]) (by rw [wth_X2_take, wak_X2_take, if_pos c_1, if_pos c_2, wsu_X2_take, if_pos c_1, if_pos c_2, wgt_X2_take, if_pos c_1, if_pos c_2])
    · refine lv_aload_n FX.1 FX.2.1 dX2_take_25 rfl (lv_at hl 0 rfl) ?_
      refine lv_aload_n FX.1 FX.2.1 dX2_take_26 rfl (lv_at hl 0 rfl) ?_
      refine va_get (D := D) (ci := 4) (v := .ref bo) (C := RX2) (T := TX2) (N := 9) FX.1 FX.2.1 FX.2.2.2.2 inX2 FX.2.2.2.1 hK hP 0 rfl rfl 1 (by decide) (FX.2.2.2.2 _ fl_RX2_10) (fun _ h9 => h9) rfl dX2_take_27 ?_
      refine lv_iload_n FX.1 FX.2.1 dX2_take_30 rfl (lv_at hl 1 rfl) ?_
      refine p_iald (v := f b1.toNatClampNeg) FX hK hP 1 rfl (in_v_X2_isNone (fails_1 c_1)) dX2_take_31 rfl ?_
      refine c_WRvV (wr := []) (wsN := (wM cI o bo po (wth_X2_fails (v_X2_isNone b1) 0) f g (wak_X2_give ak) (wsu_X2_give (f b1.toNatClampNeg) su) (wgt_X2_give gt) lf rf kn)) (i0 := 0) (ci := 4) FX (k_X2_give l D cI cB o bo po (wth_X2_fails (v_X2_isNone b1) 0) f g ak su gt lf rf kn (f b1.toNatClampNeg)) mi_X2_give rfl ml_RX2_77 (RMok.mk) hl.1 rfl (Nat.le_of_ble_eq_true rfl) dX2_take_32 (by decide) hK hP hD hS hA [0, 1, 2] rfl [] rfl rfl (by decide) [0, 1, 2] rfl rfl rfl rfl rfl (fun H locs hP hD hS => ?_)
      refine lv_aload_n FX.1 FX.2.1 dX2_take_35 rfl (lv_at hl 0 rfl) ?_
      refine va_get (D := D) (ci := 4) (v := .int (wsu_X2_give (f b1.toNatClampNeg) su)) (C := RX2) (T := TX2) (N := 9) FX.1 FX.2.1 FX.2.2.2.2 inX2 FX.2.2.2.1 hK hP 0 rfl rfl 4 (by decide) (FX.2.2.2.2 _ fl_RX2_74) (fun _ h9 => h9) rfl dX2_take_36 ?_
      exact retWR FX hr hlk dX2_take_39 rfl hP hK hD hS (by decide) (by decide) (by rw [v_X2_take, if_pos c_1, if_neg c_2]) (by rw [wth_X2_take, wak_X2_take, if_pos c_1, if_neg c_2, wsu_X2_take, if_pos c_1, if_neg c_2, wgt_X2_take, if_pos c_1, if_neg c_2])
  · refine lv_iconst (v := 0) FX.1 FX.2.1 dX2_take_12 (by decide) ?_
    exact retWR FX hr hlk dX2_take_13 rfl hP hK hD hS (by decide) (by decide) (by rw [v_X2_take, if_neg c_1]) (by rw [wth_X2_take, wak_X2_take, if_neg c_1, wsu_X2_take, if_neg c_1, wgt_X2_take, if_neg c_1])
def v_X2_takeOrLeave (b1 : Int32) (f : Nat → Int32) (su : Int32) : Int32 := if (v_X2_fails (v_X2_isNone b1) 0) = 0 then (if (f b1.toNatClampNeg) = (-100000) then su else wsu_X2_give (f b1.toNatClampNeg) su) else 0
def wth_X2_takeOrLeave (b1 : Int32) : Int32 := wth_X2_fails (v_X2_isNone b1) 0
def wak_X2_takeOrLeave (b1 : Int32) (f : Nat → Int32) (ak : Int32) : Int32 := if (v_X2_fails (v_X2_isNone b1) 0) = 0 then (if (f b1.toNatClampNeg) = (-100000) then ak + 1 else wak_X2_give ak) else ak
def wsu_X2_takeOrLeave (b1 : Int32) (f : Nat → Int32) (su : Int32) : Int32 := if (v_X2_fails (v_X2_isNone b1) 0) = 0 then (if (f b1.toNatClampNeg) = (-100000) then su else wsu_X2_give (f b1.toNatClampNeg) su) else su
def wgt_X2_takeOrLeave (b1 : Int32) (f : Nat → Int32) (gt : Int32) : Int32 := if (v_X2_fails (v_X2_isNone b1) 0) = 0 then (if (f b1.toNatClampNeg) = (-100000) then gt else wgt_X2_give gt) else gt
def wlf_X2_takeOrLeave (b1 : Int32) (f : Nat → Int32) (lf : Int32) : Int32 := if (v_X2_fails (v_X2_isNone b1) 0) = 0 then (if (f b1.toNatClampNeg) = (-100000) then lf + 1 else lf) else lf
set_option maxRecDepth 100000 in
set_option maxHeartbeats 4000000 in
theorem k_X2_takeOrLeave (l : Launch) (D : va_G) (cI cB : ClassId) (o bo po : Nat) (th : Int32) (f g : Nat → Int32) (ak su gt lf rf kn : Int32) (b1 : Int32) : WR l yX2_takeOrLeave cX2_takeOrLeave 2 (some .int) ({ frames := 2, cells := 0, slots := 0, locals := 42 } : Room) D cI cB [.ref o, .int b1] (wM cI o bo po th f g ak su gt lf rf kn) (v_X2_takeOrLeave b1 f su) (wM cI o bo po (wth_X2_takeOrLeave b1) f g (wak_X2_takeOrLeave b1 f ak) (wsu_X2_takeOrLeave b1 f su) (wgt_X2_takeOrLeave b1 f gt) (wlf_X2_takeOrLeave b1 f lf) rf kn) 0 0 := by
  refine bodyWR (by decide +kernel) (Nat.le_of_ble_eq_true rfl) (fun p e s m args below meth c ls A Z => ?_)
  obtain ⟨FX, hr, hlk, hK, hP, hD, hS, hA, hl⟩ := Z
  have hl : lv_has ls 2 [(0, .ref o), (1, .int b1)] := hl
  refine lv_aload_n FX.1 FX.2.1 dX2_takeOrLeave_0 rfl (lv_at hl 0 rfl) ?_
  refine lv_iload_n FX.1 FX.2.1 dX2_takeOrLeave_1 rfl (lv_at hl 1 rfl) ?_
  refine c_RDs FX (r_X2_isNone l D cI cB b1) mi_X2_isNone rfl ml_RX2_40 (RMok.mk) hl.1 rfl (Nat.le_of_ble_eq_true rfl) dX2_takeOrLeave_2 (by decide) hK hP [] rfl ?_
  refine lv_iconst (v := 0) FX.1 FX.2.1 dX2_takeOrLeave_5 (by decide) ?_
  refine c_WRV (wr := []) (wsN := (wM cI o bo po (wth_X2_fails (v_X2_isNone b1) 0) f g ak su gt lf rf kn)) (i0 := 0) (ci := 4) FX (k_X2_fails l D cI cB o bo po th f g ak su gt lf rf kn (v_X2_isNone b1) 0) mi_X2_fails rfl ml_RX2_43 (RMok.mk) hl.1 rfl (Nat.le_of_ble_eq_true rfl) dX2_takeOrLeave_6 (by decide) hK hP hD hS hA [0, 1, 2] rfl [] rfl rfl (by decide) [0, 1, 2] rfl rfl rfl rfl rfl (fun H locs hP hD hS => ?_)
  refine lv_if_eq (tgt := 14) FX.1 FX.2.1 dX2_takeOrLeave_9 (by decide) (fun c_1 => ?_) (fun c_1 => ?_)
  · refine lv_aload_n FX.1 FX.2.1 dX2_takeOrLeave_14 rfl (lv_at hl 0 rfl) ?_
    refine va_get (D := D) (ci := 4) (v := .ref bo) (C := RX2) (T := TX2) (N := 9) FX.1 FX.2.1 FX.2.2.2.2 inX2 FX.2.2.2.1 hK hP 0 rfl rfl 1 (by decide) (FX.2.2.2.2 _ fl_RX2_10) (fun _ h9 => h9) rfl dX2_takeOrLeave_15 ?_
    refine lv_iload_n FX.1 FX.2.1 dX2_takeOrLeave_18 rfl (lv_at hl 1 rfl) ?_
    refine p_iald (v := f b1.toNatClampNeg) FX hK hP 1 rfl (in_v_X2_isNone (fails_1 c_1)) dX2_takeOrLeave_19 rfl ?_
    refine lv_ldc (v := (-100000)) FX.1 FX.2.1 FX.2.2.2.1 (FX.2.2.2.2 _ co_RX2_9) dX2_takeOrLeave_20 ?_
    refine lv_icmp_eq (tgt := 38) FX.1 FX.2.1 dX2_takeOrLeave_22 (by decide) (fun c_2 => ?_) (fun c_2 => ?_)
    · refine lv_aload_n FX.1 FX.2.1 dX2_takeOrLeave_38 rfl (lv_at hl 0 rfl) ?_
      refine lv_dup FX.1 FX.2.1 dX2_takeOrLeave_39 rfl ?_
      refine va_get (D := D) (ci := 4) (v := .int ak) (C := RX2) (T := TX2) (N := 9) FX.1 FX.2.1 FX.2.2.2.2 inX2 FX.2.2.2.1 hK hP 0 rfl rfl 3 (by decide) (FX.2.2.2.2 _ fl_RX2_55) (fun _ h9 => h9) rfl dX2_takeOrLeave_40 ?_
      refine lv_iconst (v := 1) FX.1 FX.2.1 dX2_takeOrLeave_43 (by decide) ?_
      refine lv_iadd FX.1 FX.2.1 dX2_takeOrLeave_44 ?_
      refine p_put (wsN := (wM cI o bo po (wth_X2_fails (v_X2_isNone b1) 0) f g (ak + 1) su gt lf rf kn)) (ci := 4) (v := .int (ak + 1)) (ty := .int) FX inX2 tyX2_ok nmX2 hK hP hD hS 0 rfl rfl 3 (by decide) (FX.2.2.2.2 _ fl_RX2_55) rfl (by decide +kernel) rfl rfl (Nat.le_of_ble_eq_true rfl) dX2_takeOrLeave_45 rfl (fun H locs hP hD hS => ?_)
      refine lv_aload_n FX.1 FX.2.1 dX2_takeOrLeave_48 rfl (lv_at hl 0 rfl) ?_
      refine lv_dup FX.1 FX.2.1 dX2_takeOrLeave_49 rfl ?_
      refine va_get (D := D) (ci := 4) (v := .int lf) (C := RX2) (T := TX2) (N := 9) FX.1 FX.2.1 FX.2.2.2.2 inX2 FX.2.2.2.1 hK hP 0 rfl rfl 6 (by decide) (FX.2.2.2.2 _ fl_RX2_81) (fun _ h9 => h9) rfl dX2_takeOrLeave_50 ?_
      refine lv_iconst (v := 1) FX.1 FX.2.1 dX2_takeOrLeave_53 (by decide) ?_
      refine lv_iadd FX.1 FX.2.1 dX2_takeOrLeave_54 ?_
      refine p_put (wsN := (wM cI o bo po (wth_X2_fails (v_X2_isNone b1) 0) f g (ak + 1) su gt (lf + 1) rf kn)) (ci := 4) (v := .int (lf + 1)) (ty := .int) FX inX2 tyX2_ok nmX2 hK hP hD hS 0 rfl rfl 6 (by decide) (FX.2.2.2.2 _ fl_RX2_81) rfl (by decide +kernel) rfl rfl (Nat.le_of_ble_eq_true rfl) dX2_takeOrLeave_55 rfl (fun H locs hP hD hS => ?_)
      refine lv_aload_n FX.1 FX.2.1 dX2_takeOrLeave_58 rfl (lv_at hl 0 rfl) ?_
      refine va_get (D := D) (ci := 4) (v := .int su) (C := RX2) (T := TX2) (N := 9) FX.1 FX.2.1 FX.2.2.2.2 inX2 FX.2.2.2.1 hK hP 0 rfl rfl 4 (by decide) (FX.2.2.2.2 _ fl_RX2_74) (fun _ h9 => h9) rfl dX2_takeOrLeave_59 ?_
      exact retWR FX hr hlk dX2_takeOrLeave_62 rfl hP hK hD hS (by decide) (by decide) (by rw [v_X2_takeOrLeave, if_pos c_1, if_pos c_2]) (by rw [wth_X2_takeOrLeave, wak_X2_takeOrLeave, if_pos c_1, if_pos c_2, wsu_X2_takeOrLeave, if_pos c_1, if_pos c_2, wgt_X2_takeOrLeave, if_pos c_1, if_pos c_2, wlf_X2_takeOrLeave, if_pos c_1, if_pos c_2])
    · refine lv_aload_n FX.1 FX.2.1 dX2_takeOrLeave_25 rfl (lv_at hl 0 rfl) ?_
      refine lv_aload_n FX.1 FX.2.1 dX2_takeOrLeave_26 rfl (lv_at hl 0 rfl) ?_
      refine va_get (D := D) (ci := 4) (v := .ref bo) (C := RX2) (T := TX2) (N := 9) FX.1 FX.2.1 FX.2.2.2.2 inX2 FX.2.2.2.1 hK hP 0 rfl rfl 1 (by decide) (FX.2.2.2.2 _ fl_RX2_10) (fun _ h9 => h9) rfl dX2_takeOrLeave_27 ?_
      refine lv_iload_n FX.1 FX.2.1 dX2_takeOrLeave_30 rfl (lv_at hl 1 rfl) ?_
      refine p_iald (v := f b1.toNatClampNeg) FX hK hP 1 rfl (in_v_X2_isNone (fails_1 c_1)) dX2_takeOrLeave_31 rfl ?_
      refine c_WRvV (wr := []) (wsN := (wM cI o bo po (wth_X2_fails (v_X2_isNone b1) 0) f g (wak_X2_give ak) (wsu_X2_give (f b1.toNatClampNeg) su) (wgt_X2_give gt) lf rf kn)) (i0 := 0) (ci := 4) FX (k_X2_give l D cI cB o bo po (wth_X2_fails (v_X2_isNone b1) 0) f g ak su gt lf rf kn (f b1.toNatClampNeg)) mi_X2_give rfl ml_RX2_77 (RMok.mk) hl.1 rfl (Nat.le_of_ble_eq_true rfl) dX2_takeOrLeave_32 (by decide) hK hP hD hS hA [0, 1, 2] rfl [] rfl rfl (by decide) [0, 1, 2] rfl rfl rfl rfl rfl (fun H locs hP hD hS => ?_)
      refine lv_goto (tgt := 58) FX.1 FX.2.1 dX2_takeOrLeave_35 (by decide) ?_
      refine lv_aload_n FX.1 FX.2.1 dX2_takeOrLeave_58 rfl (lv_at hl 0 rfl) ?_
      refine va_get (D := D) (ci := 4) (v := .int (wsu_X2_give (f b1.toNatClampNeg) su)) (C := RX2) (T := TX2) (N := 9) FX.1 FX.2.1 FX.2.2.2.2 inX2 FX.2.2.2.1 hK hP 0 rfl rfl 4 (by decide) (FX.2.2.2.2 _ fl_RX2_74) (fun _ h9 => h9) rfl dX2_takeOrLeave_59 ?_
      exact retWR FX hr hlk dX2_takeOrLeave_62 rfl hP hK hD hS (by decide) (by decide) (by rw [v_X2_takeOrLeave, if_pos c_1, if_neg c_2]) (by rw [wth_X2_takeOrLeave, wak_X2_takeOrLeave, if_pos c_1, if_neg c_2, wsu_X2_takeOrLeave, if_pos c_1, if_neg c_2, wgt_X2_takeOrLeave, if_pos c_1, if_neg c_2, wlf_X2_takeOrLeave, if_pos c_1, if_neg c_2])
  · refine lv_iconst (v := 0) FX.1 FX.2.1 dX2_takeOrLeave_12 (by decide) ?_
    exact retWR FX hr hlk dX2_takeOrLeave_13 rfl hP hK hD hS (by decide) (by decide) (by rw [v_X2_takeOrLeave, if_neg c_1]) (by rw [wth_X2_takeOrLeave, wak_X2_takeOrLeave, if_neg c_1, wsu_X2_takeOrLeave, if_neg c_1, wgt_X2_takeOrLeave, if_neg c_1, wlf_X2_takeOrLeave, if_neg c_1])
def v_X2_get (b1 : Int32) (f : Nat → Int32) : Int32 := if (v_X2_fails (v_X2_isNone b1) 0) = 0 then (if (f b1.toNatClampNeg) = (-100000) then v_X2_refuse else f b1.toNatClampNeg) else 0
def wth_X2_get (b1 : Int32) : Int32 := wth_X2_fails (v_X2_isNone b1) 0
def wrf_X2_get (b1 : Int32) (f : Nat → Int32) (rf : Int32) : Int32 := if (v_X2_fails (v_X2_isNone b1) 0) = 0 then (if (f b1.toNatClampNeg) = (-100000) then wrf_X2_refuse rf else rf) else rf
set_option maxRecDepth 100000 in
set_option maxHeartbeats 4000000 in
theorem k_X2_get (l : Launch) (D : va_G) (cI cB : ClassId) (o bo po : Nat) (th : Int32) (f g : Nat → Int32) (ak su gt lf rf kn : Int32) (b1 : Int32) : WR l yX2_get cX2_get 2 (some .int) ({ frames := 2, cells := 0, slots := 0, locals := 42 } : Room) D cI cB [.ref o, .int b1] (wM cI o bo po th f g ak su gt lf rf kn) (v_X2_get b1 f) (wM cI o bo po (wth_X2_get b1) f g ak su gt lf (wrf_X2_get b1 f rf) kn) 0 0 := by
  refine bodyWR (by decide +kernel) (Nat.le_of_ble_eq_true rfl) (fun p e s m args below meth c ls A Z => ?_)
  obtain ⟨FX, hr, hlk, hK, hP, hD, hS, hA, hl⟩ := Z
  have hl : lv_has ls 2 [(0, .ref o), (1, .int b1)] := hl
  refine lv_aload_n FX.1 FX.2.1 dX2_get_0 rfl (lv_at hl 0 rfl) ?_
  refine lv_iload_n FX.1 FX.2.1 dX2_get_1 rfl (lv_at hl 1 rfl) ?_
  refine c_RDs FX (r_X2_isNone l D cI cB b1) mi_X2_isNone rfl ml_RX2_40 (RMok.mk) hl.1 rfl (Nat.le_of_ble_eq_true rfl) dX2_get_2 (by decide) hK hP [] rfl ?_
  refine lv_iconst (v := 0) FX.1 FX.2.1 dX2_get_5 (by decide) ?_
  refine c_WRV (wr := []) (wsN := (wM cI o bo po (wth_X2_fails (v_X2_isNone b1) 0) f g ak su gt lf rf kn)) (i0 := 0) (ci := 4) FX (k_X2_fails l D cI cB o bo po th f g ak su gt lf rf kn (v_X2_isNone b1) 0) mi_X2_fails rfl ml_RX2_43 (RMok.mk) hl.1 rfl (Nat.le_of_ble_eq_true rfl) dX2_get_6 (by decide) hK hP hD hS hA [0, 1, 2] rfl [] rfl rfl (by decide) [0, 1, 2] rfl rfl rfl rfl rfl (fun H locs hP hD hS => ?_)
  refine lv_if_eq (tgt := 16) FX.1 FX.2.1 dX2_get_9 (by decide) (fun c_1 => ?_) (fun c_1 => ?_)
  · refine lv_aload_n FX.1 FX.2.1 dX2_get_16 rfl (lv_at hl 0 rfl) ?_
    refine va_get (D := D) (ci := 4) (v := .ref bo) (C := RX2) (T := TX2) (N := 9) FX.1 FX.2.1 FX.2.2.2.2 inX2 FX.2.2.2.1 hK hP 0 rfl rfl 1 (by decide) (FX.2.2.2.2 _ fl_RX2_10) (fun _ h9 => h9) rfl dX2_get_17 ?_
    refine lv_iload_n FX.1 FX.2.1 dX2_get_20 rfl (lv_at hl 1 rfl) ?_
    refine p_iald (v := f b1.toNatClampNeg) FX hK hP 1 rfl (in_v_X2_isNone (fails_1 c_1)) dX2_get_21 rfl ?_
    refine lv_ldc (v := (-100000)) FX.1 FX.2.1 FX.2.2.2.1 (FX.2.2.2.2 _ co_RX2_9) dX2_get_22 ?_
    refine lv_icmp_ne (tgt := 34) FX.1 FX.2.1 dX2_get_24 (by decide) (fun c_2 => ?_) (fun c_2 => ?_)
    · refine lv_aload_n FX.1 FX.2.1 dX2_get_34 rfl (lv_at hl 0 rfl) ?_
      refine va_get (D := D) (ci := 4) (v := .ref bo) (C := RX2) (T := TX2) (N := 9) FX.1 FX.2.1 FX.2.2.2.2 inX2 FX.2.2.2.1 hK hP 0 rfl rfl 1 (by decide) (FX.2.2.2.2 _ fl_RX2_10) (fun _ h9 => h9) rfl dX2_get_35 ?_
      refine lv_iload_n FX.1 FX.2.1 dX2_get_38 rfl (lv_at hl 1 rfl) ?_
      refine p_iald (v := f b1.toNatClampNeg) FX hK hP 1 rfl (in_v_X2_isNone (fails_1 c_1)) dX2_get_39 rfl ?_
      exact retWR FX hr hlk dX2_get_40 rfl hP hK hD hS (by decide) (by decide) (by rw [v_X2_get, if_pos c_1, if_neg c_2]) (by rw [wth_X2_get, wrf_X2_get, if_pos c_1, if_neg c_2])
    · refine lv_aload_n FX.1 FX.2.1 dX2_get_27 rfl (lv_at hl 0 rfl) ?_
      refine c_WRV (wr := []) (wsN := (wM cI o bo po (wth_X2_fails (v_X2_isNone b1) 0) f g ak su gt lf (wrf_X2_refuse rf) kn)) (i0 := 0) (ci := 4) FX (k_X2_refuse l D cI cB o bo po (wth_X2_fails (v_X2_isNone b1) 0) f g ak su gt lf rf kn) mi_X2_refuse rfl ml_RX2_84 (RMok.mk) hl.1 rfl (Nat.le_of_ble_eq_true rfl) dX2_get_28 (by decide) hK hP hD hS hA [0, 1, 2] rfl [] rfl rfl (by decide) [0, 1, 2] rfl rfl rfl rfl rfl (fun H locs hP hD hS => ?_)
      refine lv_goto (tgt := 40) FX.1 FX.2.1 dX2_get_31 (by decide) ?_
      exact retWR FX hr hlk dX2_get_40 rfl hP hK hD hS (by decide) (by decide) (by rw [v_X2_get, if_pos c_1, if_pos c_2]) (by rw [wth_X2_get, wrf_X2_get, if_pos c_1, if_pos c_2])
  · refine lv_iconst (v := 0) FX.1 FX.2.1 dX2_get_12 (by decide) ?_
    refine lv_goto (tgt := 40) FX.1 FX.2.1 dX2_get_13 (by decide) ?_
    exact retWR FX hr hlk dX2_get_40 rfl hP hK hD hS (by decide) (by decide) (by rw [v_X2_get, if_neg c_1]) (by rw [wth_X2_get, wrf_X2_get, if_neg c_1])
def v_X2_orElse (b1 : Int32) (n1 : Int32) (f : Nat → Int32) : Int32 := if (v_X2_fails (v_X2_isNone b1) (v_X2_isNoNumber n1)) = 0 then (if (f b1.toNatClampNeg) = (-100000) then n1 else f b1.toNatClampNeg) else 0
def wth_X2_orElse (b1 : Int32) (n1 : Int32) : Int32 := wth_X2_fails (v_X2_isNone b1) (v_X2_isNoNumber n1)
set_option maxRecDepth 100000 in
set_option maxHeartbeats 4000000 in
theorem k_X2_orElse (l : Launch) (D : va_G) (cI cB : ClassId) (o bo po : Nat) (th : Int32) (f g : Nat → Int32) (ak su gt lf rf kn : Int32) (b1 : Int32) (n1 : Int32) : WR l yX2_orElse cX2_orElse 3 (some .int) ({ frames := 2, cells := 0, slots := 0, locals := 42 } : Room) D cI cB [.ref o, .int b1, .int n1] (wM cI o bo po th f g ak su gt lf rf kn) (v_X2_orElse b1 n1 f) (wM cI o bo po (wth_X2_orElse b1 n1) f g ak su gt lf rf kn) 0 0 := by
  refine bodyWR (by decide +kernel) (Nat.le_of_ble_eq_true rfl) (fun p e s m args below meth c ls A Z => ?_)
  obtain ⟨FX, hr, hlk, hK, hP, hD, hS, hA, hl⟩ := Z
  have hl : lv_has ls 3 [(0, .ref o), (1, .int b1), (2, .int n1)] := hl
  refine lv_aload_n FX.1 FX.2.1 dX2_orElse_0 rfl (lv_at hl 0 rfl) ?_
  refine lv_iload_n FX.1 FX.2.1 dX2_orElse_1 rfl (lv_at hl 1 rfl) ?_
  refine c_RDs FX (r_X2_isNone l D cI cB b1) mi_X2_isNone rfl ml_RX2_40 (RMok.mk) hl.1 rfl (Nat.le_of_ble_eq_true rfl) dX2_orElse_2 (by decide) hK hP [] rfl ?_
  refine lv_iload_n FX.1 FX.2.1 dX2_orElse_5 rfl (lv_at hl 2 rfl) ?_
  refine c_RDs FX (r_X2_isNoNumber l D cI cB n1) mi_X2_isNoNumber rfl ml_RX2_25 (RMok.mk) hl.1 rfl (Nat.le_of_ble_eq_true rfl) dX2_orElse_6 (by decide) hK hP [] rfl ?_
  refine c_WRV (wr := []) (wsN := (wM cI o bo po (wth_X2_fails (v_X2_isNone b1) (v_X2_isNoNumber n1)) f g ak su gt lf rf kn)) (i0 := 0) (ci := 4) FX (k_X2_fails l D cI cB o bo po th f g ak su gt lf rf kn (v_X2_isNone b1) (v_X2_isNoNumber n1)) mi_X2_fails rfl ml_RX2_43 (RMok.mk) hl.1 rfl (Nat.le_of_ble_eq_true rfl) dX2_orElse_9 (by decide) hK hP hD hS hA [0, 1, 2] rfl [] rfl rfl (by decide) [0, 1, 2] rfl rfl rfl rfl rfl (fun H locs hP hD hS => ?_)
  refine lv_if_eq (tgt := 19) FX.1 FX.2.1 dX2_orElse_12 (by decide) (fun c_1 => ?_) (fun c_1 => ?_)
  · refine lv_aload_n FX.1 FX.2.1 dX2_orElse_19 rfl (lv_at hl 0 rfl) ?_
    refine va_get (D := D) (ci := 4) (v := .ref bo) (C := RX2) (T := TX2) (N := 9) FX.1 FX.2.1 FX.2.2.2.2 inX2 FX.2.2.2.1 hK hP 0 rfl rfl 1 (by decide) (FX.2.2.2.2 _ fl_RX2_10) (fun _ h9 => h9) rfl dX2_orElse_20 ?_
    refine lv_iload_n FX.1 FX.2.1 dX2_orElse_23 rfl (lv_at hl 1 rfl) ?_
    refine p_iald (v := f b1.toNatClampNeg) FX hK hP 1 rfl (in_v_X2_isNone (fails_1 c_1)) dX2_orElse_24 rfl ?_
    refine lv_ldc (v := (-100000)) FX.1 FX.2.1 FX.2.2.2.1 (FX.2.2.2.2 _ co_RX2_9) dX2_orElse_25 ?_
    refine lv_icmp_ne (tgt := 34) FX.1 FX.2.1 dX2_orElse_27 (by decide) (fun c_2 => ?_) (fun c_2 => ?_)
    · refine lv_aload_n FX.1 FX.2.1 dX2_orElse_34 rfl (lv_at hl 0 rfl) ?_
      refine va_get (D := D) (ci := 4) (v := .ref bo) (C := RX2) (T := TX2) (N := 9) FX.1 FX.2.1 FX.2.2.2.2 inX2 FX.2.2.2.1 hK hP 0 rfl rfl 1 (by decide) (FX.2.2.2.2 _ fl_RX2_10) (fun _ h9 => h9) rfl dX2_orElse_35 ?_
      refine lv_iload_n FX.1 FX.2.1 dX2_orElse_38 rfl (lv_at hl 1 rfl) ?_
      refine p_iald (v := f b1.toNatClampNeg) FX hK hP 1 rfl (in_v_X2_isNone (fails_1 c_1)) dX2_orElse_39 rfl ?_
      exact retWR FX hr hlk dX2_orElse_40 rfl hP hK hD hS (by decide) (by decide) (by rw [v_X2_orElse, if_pos c_1, if_neg c_2]) (by rw [wth_X2_orElse])
    · refine lv_iload_n FX.1 FX.2.1 dX2_orElse_30 rfl (lv_at hl 2 rfl) ?_
      refine lv_goto (tgt := 40) FX.1 FX.2.1 dX2_orElse_31 (by decide) ?_
      exact retWR FX hr hlk dX2_orElse_40 rfl hP hK hD hS (by decide) (by decide) (by rw [v_X2_orElse, if_pos c_1, if_pos c_2]) (by rw [wth_X2_orElse])
  · refine lv_iconst (v := 0) FX.1 FX.2.1 dX2_orElse_15 (by decide) ?_
    refine lv_goto (tgt := 40) FX.1 FX.2.1 dX2_orElse_16 (by decide) ?_
    exact retWR FX hr hlk dX2_orElse_40 rfl hP hK hD hS (by decide) (by decide) (by rw [v_X2_orElse, if_neg c_1]) (by rw [wth_X2_orElse])
def v_X2_orElseGet (b1 : Int32) (n1 : Int32) (f : Nat → Int32) (ak : Int32) : Int32 := if (v_X2_fails (v_X2_isNone b1) (v_X2_isNoNumber n1)) = 0 then (if (f b1.toNatClampNeg) = (-100000) then ak + n1 else f b1.toNatClampNeg) else 0
def wth_X2_orElseGet (b1 : Int32) (n1 : Int32) : Int32 := wth_X2_fails (v_X2_isNone b1) (v_X2_isNoNumber n1)
def wak_X2_orElseGet (b1 : Int32) (n1 : Int32) (f : Nat → Int32) (ak : Int32) : Int32 := if (v_X2_fails (v_X2_isNone b1) (v_X2_isNoNumber n1)) = 0 then (if (f b1.toNatClampNeg) = (-100000) then ak + 1 else ak) else ak
set_option maxRecDepth 100000 in
set_option maxHeartbeats 4000000 in
theorem k_X2_orElseGet (l : Launch) (D : va_G) (cI cB : ClassId) (o bo po : Nat) (th : Int32) (f g : Nat → Int32) (ak su gt lf rf kn : Int32) (b1 : Int32) (n1 : Int32) : WR l yX2_orElseGet cX2_orElseGet 4 (some .int) ({ frames := 2, cells := 0, slots := 0, locals := 42 } : Room) D cI cB [.ref o, .int b1, .int n1] (wM cI o bo po th f g ak su gt lf rf kn) (v_X2_orElseGet b1 n1 f ak) (wM cI o bo po (wth_X2_orElseGet b1 n1) f g (wak_X2_orElseGet b1 n1 f ak) su gt lf rf kn) 0 0 := by
  refine bodyWR (by decide +kernel) (Nat.le_of_ble_eq_true rfl) (fun p e s m args below meth c ls A Z => ?_)
  obtain ⟨FX, hr, hlk, hK, hP, hD, hS, hA, hl⟩ := Z
  have hl : lv_has ls 4 [(0, .ref o), (1, .int b1), (2, .int n1)] := hl
  refine lv_aload_n FX.1 FX.2.1 dX2_orElseGet_0 rfl (lv_at hl 0 rfl) ?_
  refine lv_iload_n FX.1 FX.2.1 dX2_orElseGet_1 rfl (lv_at hl 1 rfl) ?_
  refine c_RDs FX (r_X2_isNone l D cI cB b1) mi_X2_isNone rfl ml_RX2_40 (RMok.mk) hl.1 rfl (Nat.le_of_ble_eq_true rfl) dX2_orElseGet_2 (by decide) hK hP [] rfl ?_
  refine lv_iload_n FX.1 FX.2.1 dX2_orElseGet_5 rfl (lv_at hl 2 rfl) ?_
  refine c_RDs FX (r_X2_isNoNumber l D cI cB n1) mi_X2_isNoNumber rfl ml_RX2_25 (RMok.mk) hl.1 rfl (Nat.le_of_ble_eq_true rfl) dX2_orElseGet_6 (by decide) hK hP [] rfl ?_
  refine c_WRV (wr := []) (wsN := (wM cI o bo po (wth_X2_fails (v_X2_isNone b1) (v_X2_isNoNumber n1)) f g ak su gt lf rf kn)) (i0 := 0) (ci := 4) FX (k_X2_fails l D cI cB o bo po th f g ak su gt lf rf kn (v_X2_isNone b1) (v_X2_isNoNumber n1)) mi_X2_fails rfl ml_RX2_43 (RMok.mk) hl.1 rfl (Nat.le_of_ble_eq_true rfl) dX2_orElseGet_9 (by decide) hK hP hD hS hA [0, 1, 2] rfl [] rfl rfl (by decide) [0, 1, 2] rfl rfl rfl rfl rfl (fun H locs hP hD hS => ?_)
  refine lv_if_eq (tgt := 17) FX.1 FX.2.1 dX2_orElseGet_12 (by decide) (fun c_1 => ?_) (fun c_1 => ?_)
  · refine lv_aload_n FX.1 FX.2.1 dX2_orElseGet_17 rfl (lv_at hl 0 rfl) ?_
    refine va_get (D := D) (ci := 4) (v := .ref bo) (C := RX2) (T := TX2) (N := 9) FX.1 FX.2.1 FX.2.2.2.2 inX2 FX.2.2.2.1 hK hP 0 rfl rfl 1 (by decide) (FX.2.2.2.2 _ fl_RX2_10) (fun _ h9 => h9) rfl dX2_orElseGet_18 ?_
    refine lv_iload_n FX.1 FX.2.1 dX2_orElseGet_21 rfl (lv_at hl 1 rfl) ?_
    refine p_iald (v := f b1.toNatClampNeg) FX hK hP 1 rfl (in_v_X2_isNone (fails_1 c_1)) dX2_orElseGet_22 rfl ?_
    refine lv_ldc (v := (-100000)) FX.1 FX.2.1 FX.2.2.2.1 (FX.2.2.2.2 _ co_RX2_9) dX2_orElseGet_23 ?_
    refine lv_icmp_eq (tgt := 35) FX.1 FX.2.1 dX2_orElseGet_25 (by decide) (fun c_2 => ?_) (fun c_2 => ?_)
    · refine lv_aload_n FX.1 FX.2.1 dX2_orElseGet_35 rfl (lv_at hl 0 rfl) ?_
      refine va_get (D := D) (ci := 4) (v := .int ak) (C := RX2) (T := TX2) (N := 9) FX.1 FX.2.1 FX.2.2.2.2 inX2 FX.2.2.2.1 hK hP 0 rfl rfl 3 (by decide) (FX.2.2.2.2 _ fl_RX2_55) (fun _ h9 => h9) rfl dX2_orElseGet_36 ?_
      refine lv_iload_n FX.1 FX.2.1 dX2_orElseGet_39 rfl (lv_at hl 2 rfl) ?_
      refine lv_iadd FX.1 FX.2.1 dX2_orElseGet_40 ?_
      refine lv_istore_n (lv' := [(3, .int (ak + n1)), (0, .ref o), (1, .int b1), (2, .int n1)]) FX.1 FX.2.1 dX2_orElseGet_41 rfl hl (by decide) rfl (fun ls hl => ?_)
      refine lv_aload_n FX.1 FX.2.1 dX2_orElseGet_42 rfl (lv_at hl 1 rfl) ?_
      refine lv_dup FX.1 FX.2.1 dX2_orElseGet_43 rfl ?_
      refine va_get (D := D) (ci := 4) (v := .int ak) (C := RX2) (T := TX2) (N := 9) FX.1 FX.2.1 FX.2.2.2.2 inX2 FX.2.2.2.1 hK hP 0 rfl rfl 3 (by decide) (FX.2.2.2.2 _ fl_RX2_55) (fun _ h9 => h9) rfl dX2_orElseGet_44 ?_
      refine lv_iconst (v := 1) FX.1 FX.2.1 dX2_orElseGet_47 (by decide) ?_
      refine lv_iadd FX.1 FX.2.1 dX2_orElseGet_48 ?_
      refine p_put (wsN := (wM cI o bo po (wth_X2_fails (v_X2_isNone b1) (v_X2_isNoNumber n1)) f g (ak + 1) su gt lf rf kn)) (ci := 4) (v := .int (ak + 1)) (ty := .int) FX inX2 tyX2_ok nmX2 hK hP hD hS 0 rfl rfl 3 (by decide) (FX.2.2.2.2 _ fl_RX2_55) rfl (by decide +kernel) rfl rfl (Nat.le_of_ble_eq_true rfl) dX2_orElseGet_49 rfl (fun H locs hP hD hS => ?_)
      refine lv_iload_n FX.1 FX.2.1 dX2_orElseGet_52 rfl (lv_at hl 0 rfl) ?_
      exact retWR FX hr hlk dX2_orElseGet_53 rfl hP hK hD hS (by decide) (by decide) (by rw [v_X2_orElseGet, if_pos c_1, if_pos c_2]) (by rw [wth_X2_orElseGet, wak_X2_orElseGet, if_pos c_1, if_pos c_2])
    · refine lv_aload_n FX.1 FX.2.1 dX2_orElseGet_28 rfl (lv_at hl 0 rfl) ?_
      refine va_get (D := D) (ci := 4) (v := .ref bo) (C := RX2) (T := TX2) (N := 9) FX.1 FX.2.1 FX.2.2.2.2 inX2 FX.2.2.2.1 hK hP 0 rfl rfl 1 (by decide) (FX.2.2.2.2 _ fl_RX2_10) (fun _ h9 => h9) rfl dX2_orElseGet_29 ?_
      refine lv_iload_n FX.1 FX.2.1 dX2_orElseGet_32 rfl (lv_at hl 1 rfl) ?_
      refine p_iald (v := f b1.toNatClampNeg) FX hK hP 1 rfl (in_v_X2_isNone (fails_1 c_1)) dX2_orElseGet_33 rfl ?_
      exact retWR FX hr hlk dX2_orElseGet_34 rfl hP hK hD hS (by decide) (by decide) (by rw [v_X2_orElseGet, if_pos c_1, if_neg c_2]) (by rw [wth_X2_orElseGet, wak_X2_orElseGet, if_pos c_1, if_neg c_2])
  · refine lv_iconst (v := 0) FX.1 FX.2.1 dX2_orElseGet_15 (by decide) ?_
    exact retWR FX hr hlk dX2_orElseGet_16 rfl hP hK hD hS (by decide) (by decide) (by rw [v_X2_orElseGet, if_neg c_1]) (by rw [wth_X2_orElseGet, wak_X2_orElseGet, if_neg c_1])
def v_X2_orElseThrow (b1 : Int32) (f : Nat → Int32) : Int32 := if (v_X2_isNone b1) = 0 then (if (f b1.toNatClampNeg) = (-100000) then (if (v_X2_fails (v_X2_isNone b1) 1) = 0 then f b1.toNatClampNeg else 0) else (if (v_X2_fails (v_X2_isNone b1) 0) = 0 then f b1.toNatClampNeg else 0)) else (if (v_X2_fails (v_X2_isNone b1) 0) = 0 then f b1.toNatClampNeg else 0)
def wth_X2_orElseThrow (b1 : Int32) (f : Nat → Int32) : Int32 := if (v_X2_isNone b1) = 0 then (if (f b1.toNatClampNeg) = (-100000) then wth_X2_fails (v_X2_isNone b1) 1 else wth_X2_fails (v_X2_isNone b1) 0) else wth_X2_fails (v_X2_isNone b1) 0
set_option maxRecDepth 100000 in
set_option maxHeartbeats 4000000 in
theorem k_X2_orElseThrow (l : Launch) (D : va_G) (cI cB : ClassId) (o bo po : Nat) (th : Int32) (f g : Nat → Int32) (ak su gt lf rf kn : Int32) (b1 : Int32) : WR l yX2_orElseThrow cX2_orElseThrow 2 (some .int) ({ frames := 2, cells := 0, slots := 0, locals := 42 } : Room) D cI cB [.ref o, .int b1] (wM cI o bo po th f g ak su gt lf rf kn) (v_X2_orElseThrow b1 f) (wM cI o bo po (wth_X2_orElseThrow b1 f) f g ak su gt lf rf kn) 0 0 := by
  refine bodyWR (by decide +kernel) (Nat.le_of_ble_eq_true rfl) (fun p e s m args below meth c ls A Z => ?_)
  obtain ⟨FX, hr, hlk, hK, hP, hD, hS, hA, hl⟩ := Z
  have hl : lv_has ls 2 [(0, .ref o), (1, .int b1)] := hl
  refine lv_aload_n FX.1 FX.2.1 dX2_orElseThrow_0 rfl (lv_at hl 0 rfl) ?_
  refine lv_iload_n FX.1 FX.2.1 dX2_orElseThrow_1 rfl (lv_at hl 1 rfl) ?_
  refine c_RDs FX (r_X2_isNone l D cI cB b1) mi_X2_isNone rfl ml_RX2_40 (RMok.mk) hl.1 rfl (Nat.le_of_ble_eq_true rfl) dX2_orElseThrow_2 (by decide) hK hP [] rfl ?_
  refine lv_iload_n FX.1 FX.2.1 dX2_orElseThrow_5 rfl (lv_at hl 1 rfl) ?_
  refine c_RDs FX (r_X2_isNone l D cI cB b1) mi_X2_isNone rfl ml_RX2_40 (RMok.mk) hl.1 rfl (Nat.le_of_ble_eq_true rfl) dX2_orElseThrow_6 (by decide) hK hP [] rfl ?_
  refine lv_if_ne (tgt := 27) FX.1 FX.2.1 dX2_orElseThrow_9 (by decide) (fun c_1 => ?_) (fun c_1 => ?_)
  · refine lv_iconst (v := 0) FX.1 FX.2.1 dX2_orElseThrow_27 (by decide) ?_
    refine c_WRV (wr := []) (wsN := (wM cI o bo po (wth_X2_fails (v_X2_isNone b1) 0) f g ak su gt lf rf kn)) (i0 := 0) (ci := 4) FX (k_X2_fails l D cI cB o bo po th f g ak su gt lf rf kn (v_X2_isNone b1) 0) mi_X2_fails rfl ml_RX2_43 (RMok.mk) hl.1 rfl (Nat.le_of_ble_eq_true rfl) dX2_orElseThrow_28 (by decide) hK hP hD hS hA [0, 1, 2] rfl [] rfl rfl (by decide) [0, 1, 2] rfl rfl rfl rfl rfl (fun H locs hP hD hS => ?_)
    refine lv_if_eq (tgt := 38) FX.1 FX.2.1 dX2_orElseThrow_31 (by decide) (fun c_2 => ?_) (fun c_2 => ?_)
    · refine lv_aload_n FX.1 FX.2.1 dX2_orElseThrow_38 rfl (lv_at hl 0 rfl) ?_
      refine va_get (D := D) (ci := 4) (v := .ref bo) (C := RX2) (T := TX2) (N := 9) FX.1 FX.2.1 FX.2.2.2.2 inX2 FX.2.2.2.1 hK hP 0 rfl rfl 1 (by decide) (FX.2.2.2.2 _ fl_RX2_10) (fun _ h9 => h9) rfl dX2_orElseThrow_39 ?_
      refine lv_iload_n FX.1 FX.2.1 dX2_orElseThrow_42 rfl (lv_at hl 1 rfl) ?_
      refine p_iald (v := f b1.toNatClampNeg) FX hK hP 1 rfl (in_v_X2_isNone (fails_1 c_2)) dX2_orElseThrow_43 rfl ?_
      exact retWR FX hr hlk dX2_orElseThrow_44 rfl hP hK hD hS (by decide) (by decide) (by rw [v_X2_orElseThrow, if_neg c_1, if_pos c_2]) (by rw [wth_X2_orElseThrow, if_neg c_1])
    · refine lv_iconst (v := 0) FX.1 FX.2.1 dX2_orElseThrow_34 (by decide) ?_
      refine lv_goto (tgt := 44) FX.1 FX.2.1 dX2_orElseThrow_35 (by decide) ?_
      exact retWR FX hr hlk dX2_orElseThrow_44 rfl hP hK hD hS (by decide) (by decide) (by rw [v_X2_orElseThrow, if_neg c_1, if_neg c_2]) (by rw [wth_X2_orElseThrow, if_neg c_1])
  · refine lv_aload_n FX.1 FX.2.1 dX2_orElseThrow_12 rfl (lv_at hl 0 rfl) ?_
    refine va_get (D := D) (ci := 4) (v := .ref bo) (C := RX2) (T := TX2) (N := 9) FX.1 FX.2.1 FX.2.2.2.2 inX2 FX.2.2.2.1 hK hP 0 rfl rfl 1 (by decide) (FX.2.2.2.2 _ fl_RX2_10) (fun _ h9 => h9) rfl dX2_orElseThrow_13 ?_
    refine lv_iload_n FX.1 FX.2.1 dX2_orElseThrow_16 rfl (lv_at hl 1 rfl) ?_
    refine p_iald (v := f b1.toNatClampNeg) FX hK hP 1 rfl (in_v_X2_isNone c_1) dX2_orElseThrow_17 rfl ?_
    refine lv_ldc (v := (-100000)) FX.1 FX.2.1 FX.2.2.2.1 (FX.2.2.2.2 _ co_RX2_9) dX2_orElseThrow_18 ?_
    refine lv_icmp_ne (tgt := 27) FX.1 FX.2.1 dX2_orElseThrow_20 (by decide) (fun c_3 => ?_) (fun c_3 => ?_)
    · refine lv_iconst (v := 0) FX.1 FX.2.1 dX2_orElseThrow_27 (by decide) ?_
      refine c_WRV (wr := []) (wsN := (wM cI o bo po (wth_X2_fails (v_X2_isNone b1) 0) f g ak su gt lf rf kn)) (i0 := 0) (ci := 4) FX (k_X2_fails l D cI cB o bo po th f g ak su gt lf rf kn (v_X2_isNone b1) 0) mi_X2_fails rfl ml_RX2_43 (RMok.mk) hl.1 rfl (Nat.le_of_ble_eq_true rfl) dX2_orElseThrow_28 (by decide) hK hP hD hS hA [0, 1, 2] rfl [] rfl rfl (by decide) [0, 1, 2] rfl rfl rfl rfl rfl (fun H locs hP hD hS => ?_)
      refine lv_if_eq (tgt := 38) FX.1 FX.2.1 dX2_orElseThrow_31 (by decide) (fun c_4 => ?_) (fun c_4 => ?_)
      · refine lv_aload_n FX.1 FX.2.1 dX2_orElseThrow_38 rfl (lv_at hl 0 rfl) ?_
        refine va_get (D := D) (ci := 4) (v := .ref bo) (C := RX2) (T := TX2) (N := 9) FX.1 FX.2.1 FX.2.2.2.2 inX2 FX.2.2.2.1 hK hP 0 rfl rfl 1 (by decide) (FX.2.2.2.2 _ fl_RX2_10) (fun _ h9 => h9) rfl dX2_orElseThrow_39 ?_
        refine lv_iload_n FX.1 FX.2.1 dX2_orElseThrow_42 rfl (lv_at hl 1 rfl) ?_
        refine p_iald (v := f b1.toNatClampNeg) FX hK hP 1 rfl (in_v_X2_isNone c_1) dX2_orElseThrow_43 rfl ?_
        exact retWR FX hr hlk dX2_orElseThrow_44 rfl hP hK hD hS (by decide) (by decide) (by rw [v_X2_orElseThrow, if_pos c_1, if_neg c_3, if_pos c_4]) (by rw [wth_X2_orElseThrow, if_pos c_1, if_neg c_3])
      · refine lv_iconst (v := 0) FX.1 FX.2.1 dX2_orElseThrow_34 (by decide) ?_
        refine lv_goto (tgt := 44) FX.1 FX.2.1 dX2_orElseThrow_35 (by decide) ?_
        exact retWR FX hr hlk dX2_orElseThrow_44 rfl hP hK hD hS (by decide) (by decide) (by rw [v_X2_orElseThrow, if_pos c_1, if_neg c_3, if_neg c_4]) (by rw [wth_X2_orElseThrow, if_pos c_1, if_neg c_3])
    · refine lv_iconst (v := 1) FX.1 FX.2.1 dX2_orElseThrow_23 (by decide) ?_
      refine lv_goto (tgt := 28) FX.1 FX.2.1 dX2_orElseThrow_24 (by decide) ?_
      refine c_WRV (wr := []) (wsN := (wM cI o bo po (wth_X2_fails (v_X2_isNone b1) 1) f g ak su gt lf rf kn)) (i0 := 0) (ci := 4) FX (k_X2_fails l D cI cB o bo po th f g ak su gt lf rf kn (v_X2_isNone b1) 1) mi_X2_fails rfl ml_RX2_43 (RMok.mk) hl.1 rfl (Nat.le_of_ble_eq_true rfl) dX2_orElseThrow_28 (by decide) hK hP hD hS hA [0, 1, 2] rfl [] rfl rfl (by decide) [0, 1, 2] rfl rfl rfl rfl rfl (fun H locs hP hD hS => ?_)
      refine lv_if_eq (tgt := 38) FX.1 FX.2.1 dX2_orElseThrow_31 (by decide) (fun c_5 => ?_) (fun c_5 => ?_)
      · refine lv_aload_n FX.1 FX.2.1 dX2_orElseThrow_38 rfl (lv_at hl 0 rfl) ?_
        refine va_get (D := D) (ci := 4) (v := .ref bo) (C := RX2) (T := TX2) (N := 9) FX.1 FX.2.1 FX.2.2.2.2 inX2 FX.2.2.2.1 hK hP 0 rfl rfl 1 (by decide) (FX.2.2.2.2 _ fl_RX2_10) (fun _ h9 => h9) rfl dX2_orElseThrow_39 ?_
        refine lv_iload_n FX.1 FX.2.1 dX2_orElseThrow_42 rfl (lv_at hl 1 rfl) ?_
        refine p_iald (v := f b1.toNatClampNeg) FX hK hP 1 rfl (in_v_X2_isNone c_1) dX2_orElseThrow_43 rfl ?_
        exact retWR FX hr hlk dX2_orElseThrow_44 rfl hP hK hD hS (by decide) (by decide) (by rw [v_X2_orElseThrow, if_pos c_1, if_pos c_3, if_pos c_5]) (by rw [wth_X2_orElseThrow, if_pos c_1, if_pos c_3])
      · refine lv_iconst (v := 0) FX.1 FX.2.1 dX2_orElseThrow_34 (by decide) ?_
        refine lv_goto (tgt := 44) FX.1 FX.2.1 dX2_orElseThrow_35 (by decide) ?_
        exact retWR FX hr hlk dX2_orElseThrow_44 rfl hP hK hD hS (by decide) (by decide) (by rw [v_X2_orElseThrow, if_pos c_1, if_pos c_3, if_neg c_5]) (by rw [wth_X2_orElseThrow, if_pos c_1, if_pos c_3])
def v_X2_isFull (b1 : Int32) (f : Nat → Int32) : Int32 := if (v_X2_fails (v_X2_isNone b1) 0) = 0 then (if (f b1.toNatClampNeg) = (-100000) then 0 else 1) else 0
def wth_X2_isFull (b1 : Int32) : Int32 := wth_X2_fails (v_X2_isNone b1) 0
set_option maxRecDepth 100000 in
set_option maxHeartbeats 4000000 in
theorem k_X2_isFull (l : Launch) (D : va_G) (cI cB : ClassId) (o bo po : Nat) (th : Int32) (f g : Nat → Int32) (ak su gt lf rf kn : Int32) (b1 : Int32) : WR l yX2_isFull cX2_isFull 2 (some .boolean) ({ frames := 2, cells := 0, slots := 0, locals := 42 } : Room) D cI cB [.ref o, .int b1] (wM cI o bo po th f g ak su gt lf rf kn) (v_X2_isFull b1 f) (wM cI o bo po (wth_X2_isFull b1) f g ak su gt lf rf kn) 0 0 := by
  refine bodyWR (by decide +kernel) (Nat.le_of_ble_eq_true rfl) (fun p e s m args below meth c ls A Z => ?_)
  obtain ⟨FX, hr, hlk, hK, hP, hD, hS, hA, hl⟩ := Z
  have hl : lv_has ls 2 [(0, .ref o), (1, .int b1)] := hl
  refine lv_aload_n FX.1 FX.2.1 dX2_isFull_0 rfl (lv_at hl 0 rfl) ?_
  refine lv_iload_n FX.1 FX.2.1 dX2_isFull_1 rfl (lv_at hl 1 rfl) ?_
  refine c_RDs FX (r_X2_isNone l D cI cB b1) mi_X2_isNone rfl ml_RX2_40 (RMok.mk) hl.1 rfl (Nat.le_of_ble_eq_true rfl) dX2_isFull_2 (by decide) hK hP [] rfl ?_
  refine lv_iconst (v := 0) FX.1 FX.2.1 dX2_isFull_5 (by decide) ?_
  refine c_WRV (wr := []) (wsN := (wM cI o bo po (wth_X2_fails (v_X2_isNone b1) 0) f g ak su gt lf rf kn)) (i0 := 0) (ci := 4) FX (k_X2_fails l D cI cB o bo po th f g ak su gt lf rf kn (v_X2_isNone b1) 0) mi_X2_fails rfl ml_RX2_43 (RMok.mk) hl.1 rfl (Nat.le_of_ble_eq_true rfl) dX2_isFull_6 (by decide) hK hP hD hS hA [0, 1, 2] rfl [] rfl rfl (by decide) [0, 1, 2] rfl rfl rfl rfl rfl (fun H locs hP hD hS => ?_)
  refine lv_if_ne (tgt := 27) FX.1 FX.2.1 dX2_isFull_9 (by decide) (fun c_1 => ?_) (fun c_1 => ?_)
  · refine lv_iconst (v := 0) FX.1 FX.2.1 dX2_isFull_27 (by decide) ?_
    exact retWR FX hr hlk dX2_isFull_28 rfl hP hK hD hS (by decide) (by decide) (by rw [v_X2_isFull, if_neg c_1]) (by rw [wth_X2_isFull])
  · refine lv_aload_n FX.1 FX.2.1 dX2_isFull_12 rfl (lv_at hl 0 rfl) ?_
    refine va_get (D := D) (ci := 4) (v := .ref bo) (C := RX2) (T := TX2) (N := 9) FX.1 FX.2.1 FX.2.2.2.2 inX2 FX.2.2.2.1 hK hP 0 rfl rfl 1 (by decide) (FX.2.2.2.2 _ fl_RX2_10) (fun _ h9 => h9) rfl dX2_isFull_13 ?_
    refine lv_iload_n FX.1 FX.2.1 dX2_isFull_16 rfl (lv_at hl 1 rfl) ?_
    refine p_iald (v := f b1.toNatClampNeg) FX hK hP 1 rfl (in_v_X2_isNone (fails_1 c_1)) dX2_isFull_17 rfl ?_
    refine lv_ldc (v := (-100000)) FX.1 FX.2.1 FX.2.2.2.1 (FX.2.2.2.2 _ co_RX2_9) dX2_isFull_18 ?_
    refine lv_icmp_eq (tgt := 27) FX.1 FX.2.1 dX2_isFull_20 (by decide) (fun c_2 => ?_) (fun c_2 => ?_)
    · refine lv_iconst (v := 0) FX.1 FX.2.1 dX2_isFull_27 (by decide) ?_
      exact retWR FX hr hlk dX2_isFull_28 rfl hP hK hD hS (by decide) (by decide) (by rw [v_X2_isFull, if_pos c_1, if_pos c_2]) (by rw [wth_X2_isFull])
    · refine lv_iconst (v := 1) FX.1 FX.2.1 dX2_isFull_23 (by decide) ?_
      refine lv_goto (tgt := 28) FX.1 FX.2.1 dX2_isFull_24 (by decide) ?_
      exact retWR FX hr hlk dX2_isFull_28 rfl hP hK hD hS (by decide) (by decide) (by rw [v_X2_isFull, if_pos c_1, if_neg c_2]) (by rw [wth_X2_isFull])
theorem b01_v_X2_isFull (b1 : Int32) (f : Nat → Int32) : is01 (v_X2_isFull b1 f) := by
  unfold v_X2_isFull
  repeat' split
  all_goals first | exact Or.inl rfl | exact Or.inr rfl
def v_X2_isEmpty (b1 : Int32) (f : Nat → Int32) : Int32 := if (v_X2_fails (v_X2_isNone b1) 0) = 0 then (if (f b1.toNatClampNeg) = (-100000) then 1 else 0) else 0
def wth_X2_isEmpty (b1 : Int32) : Int32 := wth_X2_fails (v_X2_isNone b1) 0
set_option maxRecDepth 100000 in
set_option maxHeartbeats 4000000 in
theorem k_X2_isEmpty (l : Launch) (D : va_G) (cI cB : ClassId) (o bo po : Nat) (th : Int32) (f g : Nat → Int32) (ak su gt lf rf kn : Int32) (b1 : Int32) : WR l yX2_isEmpty cX2_isEmpty 2 (some .boolean) ({ frames := 2, cells := 0, slots := 0, locals := 42 } : Room) D cI cB [.ref o, .int b1] (wM cI o bo po th f g ak su gt lf rf kn) (v_X2_isEmpty b1 f) (wM cI o bo po (wth_X2_isEmpty b1) f g ak su gt lf rf kn) 0 0 := by
  refine bodyWR (by decide +kernel) (Nat.le_of_ble_eq_true rfl) (fun p e s m args below meth c ls A Z => ?_)
  obtain ⟨FX, hr, hlk, hK, hP, hD, hS, hA, hl⟩ := Z
  have hl : lv_has ls 2 [(0, .ref o), (1, .int b1)] := hl
  refine lv_aload_n FX.1 FX.2.1 dX2_isEmpty_0 rfl (lv_at hl 0 rfl) ?_
  refine lv_iload_n FX.1 FX.2.1 dX2_isEmpty_1 rfl (lv_at hl 1 rfl) ?_
  refine c_RDs FX (r_X2_isNone l D cI cB b1) mi_X2_isNone rfl ml_RX2_40 (RMok.mk) hl.1 rfl (Nat.le_of_ble_eq_true rfl) dX2_isEmpty_2 (by decide) hK hP [] rfl ?_
  refine lv_iconst (v := 0) FX.1 FX.2.1 dX2_isEmpty_5 (by decide) ?_
  refine c_WRV (wr := []) (wsN := (wM cI o bo po (wth_X2_fails (v_X2_isNone b1) 0) f g ak su gt lf rf kn)) (i0 := 0) (ci := 4) FX (k_X2_fails l D cI cB o bo po th f g ak su gt lf rf kn (v_X2_isNone b1) 0) mi_X2_fails rfl ml_RX2_43 (RMok.mk) hl.1 rfl (Nat.le_of_ble_eq_true rfl) dX2_isEmpty_6 (by decide) hK hP hD hS hA [0, 1, 2] rfl [] rfl rfl (by decide) [0, 1, 2] rfl rfl rfl rfl rfl (fun H locs hP hD hS => ?_)
  refine lv_if_ne (tgt := 27) FX.1 FX.2.1 dX2_isEmpty_9 (by decide) (fun c_1 => ?_) (fun c_1 => ?_)
  · refine lv_iconst (v := 0) FX.1 FX.2.1 dX2_isEmpty_27 (by decide) ?_
    exact retWR FX hr hlk dX2_isEmpty_28 rfl hP hK hD hS (by decide) (by decide) (by rw [v_X2_isEmpty, if_neg c_1]) (by rw [wth_X2_isEmpty])
  · refine lv_aload_n FX.1 FX.2.1 dX2_isEmpty_12 rfl (lv_at hl 0 rfl) ?_
    refine va_get (D := D) (ci := 4) (v := .ref bo) (C := RX2) (T := TX2) (N := 9) FX.1 FX.2.1 FX.2.2.2.2 inX2 FX.2.2.2.1 hK hP 0 rfl rfl 1 (by decide) (FX.2.2.2.2 _ fl_RX2_10) (fun _ h9 => h9) rfl dX2_isEmpty_13 ?_
    refine lv_iload_n FX.1 FX.2.1 dX2_isEmpty_16 rfl (lv_at hl 1 rfl) ?_
    refine p_iald (v := f b1.toNatClampNeg) FX hK hP 1 rfl (in_v_X2_isNone (fails_1 c_1)) dX2_isEmpty_17 rfl ?_
    refine lv_ldc (v := (-100000)) FX.1 FX.2.1 FX.2.2.2.1 (FX.2.2.2.2 _ co_RX2_9) dX2_isEmpty_18 ?_
    refine lv_icmp_ne (tgt := 27) FX.1 FX.2.1 dX2_isEmpty_20 (by decide) (fun c_2 => ?_) (fun c_2 => ?_)
    · refine lv_iconst (v := 0) FX.1 FX.2.1 dX2_isEmpty_27 (by decide) ?_
      exact retWR FX hr hlk dX2_isEmpty_28 rfl hP hK hD hS (by decide) (by decide) (by rw [v_X2_isEmpty, if_pos c_1, if_neg c_2]) (by rw [wth_X2_isEmpty])
    · refine lv_iconst (v := 1) FX.1 FX.2.1 dX2_isEmpty_23 (by decide) ?_
      refine lv_goto (tgt := 28) FX.1 FX.2.1 dX2_isEmpty_24 (by decide) ?_
      exact retWR FX hr hlk dX2_isEmpty_28 rfl hP hK hD hS (by decide) (by decide) (by rw [v_X2_isEmpty, if_pos c_1, if_pos c_2]) (by rw [wth_X2_isEmpty])
theorem b01_v_X2_isEmpty (b1 : Int32) (f : Nat → Int32) : is01 (v_X2_isEmpty b1 f) := by
  unfold v_X2_isEmpty
  repeat' split
  all_goals first | exact Or.inl rfl | exact Or.inr rfl
def v_X2_isLike (b1 : Int32) (b2 : Int32) (f : Nat → Int32) : Int32 := if (v_X2_isNone b1) = 0 then (if (v_X2_isNone b2) = 0 then (if (f b1.toNatClampNeg) = (f b2.toNatClampNeg) then 1 else 0) else 0) else 0
def wth_X2_isLike (b1 : Int32) (b2 : Int32) : Int32 := if (v_X2_isNone b1) = 0 then (if (v_X2_isNone b2) = 0 then wth_X2_fails 0 0 else wth_X2_fails 1 0) else wth_X2_fails 1 0
set_option maxRecDepth 100000 in
set_option maxHeartbeats 4000000 in
theorem k_X2_isLike (l : Launch) (D : va_G) (cI cB : ClassId) (o bo po : Nat) (th : Int32) (f g : Nat → Int32) (ak su gt lf rf kn : Int32) (b1 : Int32) (b2 : Int32) : WR l yX2_isLike cX2_isLike 3 (some .boolean) ({ frames := 2, cells := 0, slots := 0, locals := 42 } : Room) D cI cB [.ref o, .int b1, .int b2] (wM cI o bo po th f g ak su gt lf rf kn) (v_X2_isLike b1 b2 f) (wM cI o bo po (wth_X2_isLike b1 b2) f g ak su gt lf rf kn) 0 0 := by
  refine bodyWR (by decide +kernel) (Nat.le_of_ble_eq_true rfl) (fun p e s m args below meth c ls A Z => ?_)
  obtain ⟨FX, hr, hlk, hK, hP, hD, hS, hA, hl⟩ := Z
  have hl : lv_has ls 3 [(0, .ref o), (1, .int b1), (2, .int b2)] := hl
  refine lv_aload_n FX.1 FX.2.1 dX2_isLike_0 rfl (lv_at hl 0 rfl) ?_
  refine lv_iload_n FX.1 FX.2.1 dX2_isLike_1 rfl (lv_at hl 1 rfl) ?_
  refine c_RDs FX (r_X2_isNone l D cI cB b1) mi_X2_isNone rfl ml_RX2_40 (RMok.mk) hl.1 rfl (Nat.le_of_ble_eq_true rfl) dX2_isLike_2 (by decide) hK hP [] rfl ?_
  refine lv_if_ne (tgt := 15) FX.1 FX.2.1 dX2_isLike_5 (by decide) (fun c_1 => ?_) (fun c_1 => ?_)
  · refine lv_iconst (v := 1) FX.1 FX.2.1 dX2_isLike_15 (by decide) ?_
    refine lv_goto (tgt := 20) FX.1 FX.2.1 dX2_isLike_16 (by decide) ?_
    refine lv_iconst (v := 0) FX.1 FX.2.1 dX2_isLike_20 (by decide) ?_
    refine c_WRV (wr := []) (wsN := (wM cI o bo po (wth_X2_fails 1 0) f g ak su gt lf rf kn)) (i0 := 0) (ci := 4) FX (k_X2_fails l D cI cB o bo po th f g ak su gt lf rf kn 1 0) mi_X2_fails rfl ml_RX2_43 (RMok.mk) hl.1 rfl (Nat.le_of_ble_eq_true rfl) dX2_isLike_21 (by decide) hK hP hD hS hA [0, 1, 2] rfl [] rfl rfl (by decide) [0, 1, 2] rfl rfl rfl rfl rfl (fun H locs hP hD hS => ?_)
    refine lv_if_ne (tgt := 46) FX.1 FX.2.1 dX2_isLike_24 (by decide) (fun c_2 => ?_) (fun c_2 => ?_)
    · refine lv_iconst (v := 0) FX.1 FX.2.1 dX2_isLike_46 (by decide) ?_
      exact retWR FX hr hlk dX2_isLike_47 rfl hP hK hD hS (by decide) (by decide) (by rw [v_X2_isLike, if_neg c_1]) (by rw [wth_X2_isLike, if_neg c_1])
    · exact absurd c_2 (by decide)
  · refine lv_iload_n FX.1 FX.2.1 dX2_isLike_8 rfl (lv_at hl 2 rfl) ?_
    refine c_RDs FX (r_X2_isNone l D cI cB b2) mi_X2_isNone rfl ml_RX2_40 (RMok.mk) hl.1 rfl (Nat.le_of_ble_eq_true rfl) dX2_isLike_9 (by decide) hK hP [] rfl ?_
    refine lv_if_eq (tgt := 19) FX.1 FX.2.1 dX2_isLike_12 (by decide) (fun c_3 => ?_) (fun c_3 => ?_)
    · refine lv_iconst (v := 0) FX.1 FX.2.1 dX2_isLike_19 (by decide) ?_
      refine lv_iconst (v := 0) FX.1 FX.2.1 dX2_isLike_20 (by decide) ?_
      refine c_WRV (wr := []) (wsN := (wM cI o bo po (wth_X2_fails 0 0) f g ak su gt lf rf kn)) (i0 := 0) (ci := 4) FX (k_X2_fails l D cI cB o bo po th f g ak su gt lf rf kn 0 0) mi_X2_fails rfl ml_RX2_43 (RMok.mk) hl.1 rfl (Nat.le_of_ble_eq_true rfl) dX2_isLike_21 (by decide) hK hP hD hS hA [0, 1, 2] rfl [] rfl rfl (by decide) [0, 1, 2] rfl rfl rfl rfl rfl (fun H locs hP hD hS => ?_)
      refine lv_if_ne (tgt := 46) FX.1 FX.2.1 dX2_isLike_24 (by decide) (fun c_4 => ?_) (fun c_4 => ?_)
      · exact absurd c_4 (by decide)
      · refine lv_aload_n FX.1 FX.2.1 dX2_isLike_27 rfl (lv_at hl 0 rfl) ?_
        refine va_get (D := D) (ci := 4) (v := .ref bo) (C := RX2) (T := TX2) (N := 9) FX.1 FX.2.1 FX.2.2.2.2 inX2 FX.2.2.2.1 hK hP 0 rfl rfl 1 (by decide) (FX.2.2.2.2 _ fl_RX2_10) (fun _ h9 => h9) rfl dX2_isLike_28 ?_
        refine lv_iload_n FX.1 FX.2.1 dX2_isLike_31 rfl (lv_at hl 1 rfl) ?_
        refine p_iald (v := f b1.toNatClampNeg) FX hK hP 1 rfl (in_v_X2_isNone c_1) dX2_isLike_32 rfl ?_
        refine lv_aload_n FX.1 FX.2.1 dX2_isLike_33 rfl (lv_at hl 0 rfl) ?_
        refine va_get (D := D) (ci := 4) (v := .ref bo) (C := RX2) (T := TX2) (N := 9) FX.1 FX.2.1 FX.2.2.2.2 inX2 FX.2.2.2.1 hK hP 0 rfl rfl 1 (by decide) (FX.2.2.2.2 _ fl_RX2_10) (fun _ h9 => h9) rfl dX2_isLike_34 ?_
        refine lv_iload_n FX.1 FX.2.1 dX2_isLike_37 rfl (lv_at hl 2 rfl) ?_
        refine p_iald (v := f b2.toNatClampNeg) FX hK hP 1 rfl (in_v_X2_isNone c_3) dX2_isLike_38 rfl ?_
        refine lv_icmp_ne (tgt := 46) FX.1 FX.2.1 dX2_isLike_39 (by decide) (fun c_5 => ?_) (fun c_5 => ?_)
        · refine lv_iconst (v := 0) FX.1 FX.2.1 dX2_isLike_46 (by decide) ?_
          exact retWR FX hr hlk dX2_isLike_47 rfl hP hK hD hS (by decide) (by decide) (by rw [v_X2_isLike, if_pos c_1, if_pos c_3, if_neg c_5]) (by rw [wth_X2_isLike, if_pos c_1, if_pos c_3])
        · refine lv_iconst (v := 1) FX.1 FX.2.1 dX2_isLike_42 (by decide) ?_
          refine lv_goto (tgt := 47) FX.1 FX.2.1 dX2_isLike_43 (by decide) ?_
          exact retWR FX hr hlk dX2_isLike_47 rfl hP hK hD hS (by decide) (by decide) (by rw [v_X2_isLike, if_pos c_1, if_pos c_3, if_pos c_5]) (by rw [wth_X2_isLike, if_pos c_1, if_pos c_3])
    · refine lv_iconst (v := 1) FX.1 FX.2.1 dX2_isLike_15 (by decide) ?_
      refine lv_goto (tgt := 20) FX.1 FX.2.1 dX2_isLike_16 (by decide) ?_
      refine lv_iconst (v := 0) FX.1 FX.2.1 dX2_isLike_20 (by decide) ?_
      refine c_WRV (wr := []) (wsN := (wM cI o bo po (wth_X2_fails 1 0) f g ak su gt lf rf kn)) (i0 := 0) (ci := 4) FX (k_X2_fails l D cI cB o bo po th f g ak su gt lf rf kn 1 0) mi_X2_fails rfl ml_RX2_43 (RMok.mk) hl.1 rfl (Nat.le_of_ble_eq_true rfl) dX2_isLike_21 (by decide) hK hP hD hS hA [0, 1, 2] rfl [] rfl rfl (by decide) [0, 1, 2] rfl rfl rfl rfl rfl (fun H locs hP hD hS => ?_)
      refine lv_if_ne (tgt := 46) FX.1 FX.2.1 dX2_isLike_24 (by decide) (fun c_6 => ?_) (fun c_6 => ?_)
      · refine lv_iconst (v := 0) FX.1 FX.2.1 dX2_isLike_46 (by decide) ?_
        exact retWR FX hr hlk dX2_isLike_47 rfl hP hK hD hS (by decide) (by decide) (by rw [v_X2_isLike, if_pos c_1, if_neg c_3]) (by rw [wth_X2_isLike, if_pos c_1, if_neg c_3])
      · exact absurd c_6 (by decide)
theorem b01_v_X2_isLike (b1 : Int32) (b2 : Int32) (f : Nat → Int32) : is01 (v_X2_isLike b1 b2 f) := by
  unfold v_X2_isLike
  repeat' split
  all_goals first | exact Or.inl rfl | exact Or.inr rfl
def v_X2_code (b1 : Int32) (f : Nat → Int32) : Int32 := if (v_X2_fails (v_X2_isNone b1) 0) = 0 then v_X2_codeTold (f b1.toNatClampNeg) else 0
def wth_X2_code (b1 : Int32) : Int32 := wth_X2_fails (v_X2_isNone b1) 0
set_option maxRecDepth 100000 in
set_option maxHeartbeats 4000000 in
theorem k_X2_code (l : Launch) (D : va_G) (cI cB : ClassId) (o bo po : Nat) (th : Int32) (f g : Nat → Int32) (ak su gt lf rf kn : Int32) (b1 : Int32) : WR l yX2_code cX2_code 2 (some .int) ({ frames := 2, cells := 0, slots := 0, locals := 42 } : Room) D cI cB [.ref o, .int b1] (wM cI o bo po th f g ak su gt lf rf kn) (v_X2_code b1 f) (wM cI o bo po (wth_X2_code b1) f g ak su gt lf rf kn) 0 0 := by
  refine bodyWR (by decide +kernel) (Nat.le_of_ble_eq_true rfl) (fun p e s m args below meth c ls A Z => ?_)
  obtain ⟨FX, hr, hlk, hK, hP, hD, hS, hA, hl⟩ := Z
  have hl : lv_has ls 2 [(0, .ref o), (1, .int b1)] := hl
  refine lv_aload_n FX.1 FX.2.1 dX2_code_0 rfl (lv_at hl 0 rfl) ?_
  refine lv_iload_n FX.1 FX.2.1 dX2_code_1 rfl (lv_at hl 1 rfl) ?_
  refine c_RDs FX (r_X2_isNone l D cI cB b1) mi_X2_isNone rfl ml_RX2_40 (RMok.mk) hl.1 rfl (Nat.le_of_ble_eq_true rfl) dX2_code_2 (by decide) hK hP [] rfl ?_
  refine lv_iconst (v := 0) FX.1 FX.2.1 dX2_code_5 (by decide) ?_
  refine c_WRV (wr := []) (wsN := (wM cI o bo po (wth_X2_fails (v_X2_isNone b1) 0) f g ak su gt lf rf kn)) (i0 := 0) (ci := 4) FX (k_X2_fails l D cI cB o bo po th f g ak su gt lf rf kn (v_X2_isNone b1) 0) mi_X2_fails rfl ml_RX2_43 (RMok.mk) hl.1 rfl (Nat.le_of_ble_eq_true rfl) dX2_code_6 (by decide) hK hP hD hS hA [0, 1, 2] rfl [] rfl rfl (by decide) [0, 1, 2] rfl rfl rfl rfl rfl (fun H locs hP hD hS => ?_)
  refine lv_if_eq (tgt := 16) FX.1 FX.2.1 dX2_code_9 (by decide) (fun c_1 => ?_) (fun c_1 => ?_)
  · refine lv_aload_n FX.1 FX.2.1 dX2_code_16 rfl (lv_at hl 0 rfl) ?_
    refine va_get (D := D) (ci := 4) (v := .ref bo) (C := RX2) (T := TX2) (N := 9) FX.1 FX.2.1 FX.2.2.2.2 inX2 FX.2.2.2.1 hK hP 0 rfl rfl 1 (by decide) (FX.2.2.2.2 _ fl_RX2_10) (fun _ h9 => h9) rfl dX2_code_17 ?_
    refine lv_iload_n FX.1 FX.2.1 dX2_code_20 rfl (lv_at hl 1 rfl) ?_
    refine p_iald (v := f b1.toNatClampNeg) FX hK hP 1 rfl (in_v_X2_isNone (fails_1 c_1)) dX2_code_21 rfl ?_
    refine c_RDs FX (r_X2_codeTold l D cI cB (f b1.toNatClampNeg)) mi_X2_codeTold rfl ml_RX2_88 (RMok.mk) hl.1 rfl (Nat.le_of_ble_eq_true rfl) dX2_code_22 (by decide) hK hP [] rfl ?_
    exact retWR FX hr hlk dX2_code_25 rfl hP hK hD hS (by decide) (by decide) (by rw [v_X2_code, if_pos c_1]) (by rw [wth_X2_code])
  · refine lv_iconst (v := 0) FX.1 FX.2.1 dX2_code_12 (by decide) ?_
    refine lv_goto (tgt := 25) FX.1 FX.2.1 dX2_code_13 (by decide) ?_
    exact retWR FX hr hlk dX2_code_25 rfl hP hK hD hS (by decide) (by decide) (by rw [v_X2_code, if_neg c_1]) (by rw [wth_X2_code])
def v_X2_fillPlain (p1 : Int32) (n1 : Int32) (g : Nat → Int32) : Int32 := if (v_X2_fails (v_X2_isNoPlain p1) (v_X2_isNoNumber n1)) = 0 then (if (g p1.toNatClampNeg) = (-100000) then v_X2_one 0 else v_X2_one 1) else 0
def wth_X2_fillPlain (p1 : Int32) (n1 : Int32) : Int32 := wth_X2_fails (v_X2_isNoPlain p1) (v_X2_isNoNumber n1)
def wg_X2_fillPlain (p1 : Int32) (n1 : Int32) (g : Nat → Int32) : Nat → Int32 := if (v_X2_fails (v_X2_isNoPlain p1) (v_X2_isNoNumber n1)) = 0 then upd g p1.toNatClampNeg n1 else g
set_option maxRecDepth 100000 in
set_option maxHeartbeats 4000000 in
theorem k_X2_fillPlain (l : Launch) (D : va_G) (cI cB : ClassId) (o bo po : Nat) (th : Int32) (f g : Nat → Int32) (ak su gt lf rf kn : Int32) (p1 : Int32) (n1 : Int32) : WR l yX2_fillPlain cX2_fillPlain 4 (some .int) ({ frames := 2, cells := 0, slots := 0, locals := 42 } : Room) D cI cB [.ref o, .int p1, .int n1] (wM cI o bo po th f g ak su gt lf rf kn) (v_X2_fillPlain p1 n1 g) (wM cI o bo po (wth_X2_fillPlain p1 n1) f (wg_X2_fillPlain p1 n1 g) ak su gt lf rf kn) 0 0 := by
  refine bodyWR (by decide +kernel) (Nat.le_of_ble_eq_true rfl) (fun p e s m args below meth c ls A Z => ?_)
  obtain ⟨FX, hr, hlk, hK, hP, hD, hS, hA, hl⟩ := Z
  have hl : lv_has ls 4 [(0, .ref o), (1, .int p1), (2, .int n1)] := hl
  refine lv_aload_n FX.1 FX.2.1 dX2_fillPlain_0 rfl (lv_at hl 0 rfl) ?_
  refine lv_iload_n FX.1 FX.2.1 dX2_fillPlain_1 rfl (lv_at hl 1 rfl) ?_
  refine c_RDs FX (r_X2_isNoPlain l D cI cB p1) mi_X2_isNoPlain rfl ml_RX2_91 (RMok.mk) hl.1 rfl (Nat.le_of_ble_eq_true rfl) dX2_fillPlain_2 (by decide) hK hP [] rfl ?_
  refine lv_iload_n FX.1 FX.2.1 dX2_fillPlain_5 rfl (lv_at hl 2 rfl) ?_
  refine c_RDs FX (r_X2_isNoNumber l D cI cB n1) mi_X2_isNoNumber rfl ml_RX2_25 (RMok.mk) hl.1 rfl (Nat.le_of_ble_eq_true rfl) dX2_fillPlain_6 (by decide) hK hP [] rfl ?_
  refine c_WRV (wr := []) (wsN := (wM cI o bo po (wth_X2_fails (v_X2_isNoPlain p1) (v_X2_isNoNumber n1)) f g ak su gt lf rf kn)) (i0 := 0) (ci := 4) FX (k_X2_fails l D cI cB o bo po th f g ak su gt lf rf kn (v_X2_isNoPlain p1) (v_X2_isNoNumber n1)) mi_X2_fails rfl ml_RX2_43 (RMok.mk) hl.1 rfl (Nat.le_of_ble_eq_true rfl) dX2_fillPlain_9 (by decide) hK hP hD hS hA [0, 1, 2] rfl [] rfl rfl (by decide) [0, 1, 2] rfl rfl rfl rfl rfl (fun H locs hP hD hS => ?_)
  refine lv_if_eq (tgt := 17) FX.1 FX.2.1 dX2_fillPlain_12 (by decide) (fun c_1 => ?_) (fun c_1 => ?_)
  · refine lv_aload_n FX.1 FX.2.1 dX2_fillPlain_17 rfl (lv_at hl 0 rfl) ?_
    refine va_get (D := D) (ci := 4) (v := .ref po) (C := RX2) (T := TX2) (N := 9) FX.1 FX.2.1 FX.2.2.2.2 inX2 FX.2.2.2.1 hK hP 0 rfl rfl 2 (by decide) (FX.2.2.2.2 _ fl_RX2_14) (fun _ h9 => h9) rfl dX2_fillPlain_18 ?_
    refine lv_iload_n FX.1 FX.2.1 dX2_fillPlain_21 rfl (lv_at hl 1 rfl) ?_
    refine p_iald (v := g p1.toNatClampNeg) FX hK hP 2 rfl (in_v_X2_isNoPlain (fails_1 c_1)) dX2_fillPlain_22 rfl ?_
    refine lv_ldc (v := (-100000)) FX.1 FX.2.1 FX.2.2.2.1 (FX.2.2.2.2 _ co_RX2_9) dX2_fillPlain_23 ?_
    refine lv_icmp_eq (tgt := 32) FX.1 FX.2.1 dX2_fillPlain_25 (by decide) (fun c_2 => ?_) (fun c_2 => ?_)
    · refine lv_iconst (v := 0) FX.1 FX.2.1 dX2_fillPlain_32 (by decide) ?_
      refine c_RDs FX (r_X2_one l D cI cB 0) mi_X2_one rfl ml_RX2_32 (RMok.mk) hl.1 rfl (Nat.le_of_ble_eq_true rfl) dX2_fillPlain_33 (by decide) hK hP [] rfl ?_
      refine lv_istore_n (lv' := [(3, .int (v_X2_one 0)), (0, .ref o), (1, .int p1), (2, .int n1)]) FX.1 FX.2.1 dX2_fillPlain_36 rfl hl (by decide) rfl (fun ls hl => ?_)
      refine lv_aload_n FX.1 FX.2.1 dX2_fillPlain_37 rfl (lv_at hl 1 rfl) ?_
      refine va_get (D := D) (ci := 4) (v := .ref po) (C := RX2) (T := TX2) (N := 9) FX.1 FX.2.1 FX.2.2.2.2 inX2 FX.2.2.2.1 hK hP 0 rfl rfl 2 (by decide) (FX.2.2.2.2 _ fl_RX2_14) (fun _ h9 => h9) rfl dX2_fillPlain_38 ?_
      refine lv_iload_n FX.1 FX.2.1 dX2_fillPlain_41 rfl (lv_at hl 2 rfl) ?_
      refine lv_iload_n FX.1 FX.2.1 dX2_fillPlain_42 rfl (lv_at hl 3 rfl) ?_
      refine p_iast (wsN := (wM cI o bo po (wth_X2_fails (v_X2_isNoPlain p1) (v_X2_isNoNumber n1)) f (upd g p1.toNatClampNeg n1) ak su gt lf rf kn)) FX hK hP hD hS 2 rfl (in_v_X2_isNoPlain (fails_1 c_1)) dX2_fillPlain_43 rfl (fun H locs hP hD hS => ?_)
      refine lv_iload_n FX.1 FX.2.1 dX2_fillPlain_44 rfl (lv_at hl 0 rfl) ?_
      exact retWR FX hr hlk dX2_fillPlain_45 rfl hP hK hD hS (by decide) (by decide) (by rw [v_X2_fillPlain, if_pos c_1, if_pos c_2]) (by rw [wth_X2_fillPlain, wg_X2_fillPlain, if_pos c_1])
    · refine lv_iconst (v := 1) FX.1 FX.2.1 dX2_fillPlain_28 (by decide) ?_
      refine lv_goto (tgt := 33) FX.1 FX.2.1 dX2_fillPlain_29 (by decide) ?_
      refine c_RDs FX (r_X2_one l D cI cB 1) mi_X2_one rfl ml_RX2_32 (RMok.mk) hl.1 rfl (Nat.le_of_ble_eq_true rfl) dX2_fillPlain_33 (by decide) hK hP [] rfl ?_
      refine lv_istore_n (lv' := [(3, .int (v_X2_one 1)), (0, .ref o), (1, .int p1), (2, .int n1)]) FX.1 FX.2.1 dX2_fillPlain_36 rfl hl (by decide) rfl (fun ls hl => ?_)
      refine lv_aload_n FX.1 FX.2.1 dX2_fillPlain_37 rfl (lv_at hl 1 rfl) ?_
      refine va_get (D := D) (ci := 4) (v := .ref po) (C := RX2) (T := TX2) (N := 9) FX.1 FX.2.1 FX.2.2.2.2 inX2 FX.2.2.2.1 hK hP 0 rfl rfl 2 (by decide) (FX.2.2.2.2 _ fl_RX2_14) (fun _ h9 => h9) rfl dX2_fillPlain_38 ?_
      refine lv_iload_n FX.1 FX.2.1 dX2_fillPlain_41 rfl (lv_at hl 2 rfl) ?_
      refine lv_iload_n FX.1 FX.2.1 dX2_fillPlain_42 rfl (lv_at hl 3 rfl) ?_
      refine p_iast (wsN := (wM cI o bo po (wth_X2_fails (v_X2_isNoPlain p1) (v_X2_isNoNumber n1)) f (upd g p1.toNatClampNeg n1) ak su gt lf rf kn)) FX hK hP hD hS 2 rfl (in_v_X2_isNoPlain (fails_1 c_1)) dX2_fillPlain_43 rfl (fun H locs hP hD hS => ?_)
      refine lv_iload_n FX.1 FX.2.1 dX2_fillPlain_44 rfl (lv_at hl 0 rfl) ?_
      exact retWR FX hr hlk dX2_fillPlain_45 rfl hP hK hD hS (by decide) (by decide) (by rw [v_X2_fillPlain, if_pos c_1, if_neg c_2]) (by rw [wth_X2_fillPlain, wg_X2_fillPlain, if_pos c_1])
  · refine lv_iconst (v := 0) FX.1 FX.2.1 dX2_fillPlain_15 (by decide) ?_
    exact retWR FX hr hlk dX2_fillPlain_16 rfl hP hK hD hS (by decide) (by decide) (by rw [v_X2_fillPlain, if_neg c_1]) (by rw [wth_X2_fillPlain, wg_X2_fillPlain, if_neg c_1])
def v_X2_emptyPlain (p1 : Int32) (g : Nat → Int32) : Int32 := if (v_X2_fails (v_X2_isNoPlain p1) 0) = 0 then (if (g p1.toNatClampNeg) = (-100000) then v_X2_one 0 else v_X2_one 1) else 0
def wth_X2_emptyPlain (p1 : Int32) : Int32 := wth_X2_fails (v_X2_isNoPlain p1) 0
def wg_X2_emptyPlain (p1 : Int32) (g : Nat → Int32) : Nat → Int32 := if (v_X2_fails (v_X2_isNoPlain p1) 0) = 0 then upd g p1.toNatClampNeg (-100000) else g
set_option maxRecDepth 100000 in
set_option maxHeartbeats 4000000 in
theorem k_X2_emptyPlain (l : Launch) (D : va_G) (cI cB : ClassId) (o bo po : Nat) (th : Int32) (f g : Nat → Int32) (ak su gt lf rf kn : Int32) (p1 : Int32) : WR l yX2_emptyPlain cX2_emptyPlain 3 (some .int) ({ frames := 2, cells := 0, slots := 0, locals := 42 } : Room) D cI cB [.ref o, .int p1] (wM cI o bo po th f g ak su gt lf rf kn) (v_X2_emptyPlain p1 g) (wM cI o bo po (wth_X2_emptyPlain p1) f (wg_X2_emptyPlain p1 g) ak su gt lf rf kn) 0 0 := by
  refine bodyWR (by decide +kernel) (Nat.le_of_ble_eq_true rfl) (fun p e s m args below meth c ls A Z => ?_)
  obtain ⟨FX, hr, hlk, hK, hP, hD, hS, hA, hl⟩ := Z
  have hl : lv_has ls 3 [(0, .ref o), (1, .int p1)] := hl
  refine lv_aload_n FX.1 FX.2.1 dX2_emptyPlain_0 rfl (lv_at hl 0 rfl) ?_
  refine lv_iload_n FX.1 FX.2.1 dX2_emptyPlain_1 rfl (lv_at hl 1 rfl) ?_
  refine c_RDs FX (r_X2_isNoPlain l D cI cB p1) mi_X2_isNoPlain rfl ml_RX2_91 (RMok.mk) hl.1 rfl (Nat.le_of_ble_eq_true rfl) dX2_emptyPlain_2 (by decide) hK hP [] rfl ?_
  refine lv_iconst (v := 0) FX.1 FX.2.1 dX2_emptyPlain_5 (by decide) ?_
  refine c_WRV (wr := []) (wsN := (wM cI o bo po (wth_X2_fails (v_X2_isNoPlain p1) 0) f g ak su gt lf rf kn)) (i0 := 0) (ci := 4) FX (k_X2_fails l D cI cB o bo po th f g ak su gt lf rf kn (v_X2_isNoPlain p1) 0) mi_X2_fails rfl ml_RX2_43 (RMok.mk) hl.1 rfl (Nat.le_of_ble_eq_true rfl) dX2_emptyPlain_6 (by decide) hK hP hD hS hA [0, 1, 2] rfl [] rfl rfl (by decide) [0, 1, 2] rfl rfl rfl rfl rfl (fun H locs hP hD hS => ?_)
  refine lv_if_eq (tgt := 14) FX.1 FX.2.1 dX2_emptyPlain_9 (by decide) (fun c_1 => ?_) (fun c_1 => ?_)
  · refine lv_aload_n FX.1 FX.2.1 dX2_emptyPlain_14 rfl (lv_at hl 0 rfl) ?_
    refine va_get (D := D) (ci := 4) (v := .ref po) (C := RX2) (T := TX2) (N := 9) FX.1 FX.2.1 FX.2.2.2.2 inX2 FX.2.2.2.1 hK hP 0 rfl rfl 2 (by decide) (FX.2.2.2.2 _ fl_RX2_14) (fun _ h9 => h9) rfl dX2_emptyPlain_15 ?_
    refine lv_iload_n FX.1 FX.2.1 dX2_emptyPlain_18 rfl (lv_at hl 1 rfl) ?_
    refine p_iald (v := g p1.toNatClampNeg) FX hK hP 2 rfl (in_v_X2_isNoPlain (fails_1 c_1)) dX2_emptyPlain_19 rfl ?_
    refine lv_ldc (v := (-100000)) FX.1 FX.2.1 FX.2.2.2.1 (FX.2.2.2.2 _ co_RX2_9) dX2_emptyPlain_20 ?_
    refine lv_icmp_eq (tgt := 29) FX.1 FX.2.1 dX2_emptyPlain_22 (by decide) (fun c_2 => ?_) (fun c_2 => ?_)
    · refine lv_iconst (v := 0) FX.1 FX.2.1 dX2_emptyPlain_29 (by decide) ?_
      refine c_RDs FX (r_X2_one l D cI cB 0) mi_X2_one rfl ml_RX2_32 (RMok.mk) hl.1 rfl (Nat.le_of_ble_eq_true rfl) dX2_emptyPlain_30 (by decide) hK hP [] rfl ?_
      refine lv_istore_n (lv' := [(2, .int (v_X2_one 0)), (0, .ref o), (1, .int p1)]) FX.1 FX.2.1 dX2_emptyPlain_33 rfl hl (by decide) rfl (fun ls hl => ?_)
      refine lv_aload_n FX.1 FX.2.1 dX2_emptyPlain_34 rfl (lv_at hl 1 rfl) ?_
      refine va_get (D := D) (ci := 4) (v := .ref po) (C := RX2) (T := TX2) (N := 9) FX.1 FX.2.1 FX.2.2.2.2 inX2 FX.2.2.2.1 hK hP 0 rfl rfl 2 (by decide) (FX.2.2.2.2 _ fl_RX2_14) (fun _ h9 => h9) rfl dX2_emptyPlain_35 ?_
      refine lv_iload_n FX.1 FX.2.1 dX2_emptyPlain_38 rfl (lv_at hl 2 rfl) ?_
      refine lv_ldc (v := (-100000)) FX.1 FX.2.1 FX.2.2.2.1 (FX.2.2.2.2 _ co_RX2_9) dX2_emptyPlain_39 ?_
      refine p_iast (wsN := (wM cI o bo po (wth_X2_fails (v_X2_isNoPlain p1) 0) f (upd g p1.toNatClampNeg (-100000)) ak su gt lf rf kn)) FX hK hP hD hS 2 rfl (in_v_X2_isNoPlain (fails_1 c_1)) dX2_emptyPlain_41 rfl (fun H locs hP hD hS => ?_)
      refine lv_iload_n FX.1 FX.2.1 dX2_emptyPlain_42 rfl (lv_at hl 0 rfl) ?_
      exact retWR FX hr hlk dX2_emptyPlain_43 rfl hP hK hD hS (by decide) (by decide) (by rw [v_X2_emptyPlain, if_pos c_1, if_pos c_2]) (by rw [wth_X2_emptyPlain, wg_X2_emptyPlain, if_pos c_1])
    · refine lv_iconst (v := 1) FX.1 FX.2.1 dX2_emptyPlain_25 (by decide) ?_
      refine lv_goto (tgt := 30) FX.1 FX.2.1 dX2_emptyPlain_26 (by decide) ?_
      refine c_RDs FX (r_X2_one l D cI cB 1) mi_X2_one rfl ml_RX2_32 (RMok.mk) hl.1 rfl (Nat.le_of_ble_eq_true rfl) dX2_emptyPlain_30 (by decide) hK hP [] rfl ?_
      refine lv_istore_n (lv' := [(2, .int (v_X2_one 1)), (0, .ref o), (1, .int p1)]) FX.1 FX.2.1 dX2_emptyPlain_33 rfl hl (by decide) rfl (fun ls hl => ?_)
      refine lv_aload_n FX.1 FX.2.1 dX2_emptyPlain_34 rfl (lv_at hl 1 rfl) ?_
      refine va_get (D := D) (ci := 4) (v := .ref po) (C := RX2) (T := TX2) (N := 9) FX.1 FX.2.1 FX.2.2.2.2 inX2 FX.2.2.2.1 hK hP 0 rfl rfl 2 (by decide) (FX.2.2.2.2 _ fl_RX2_14) (fun _ h9 => h9) rfl dX2_emptyPlain_35 ?_
      refine lv_iload_n FX.1 FX.2.1 dX2_emptyPlain_38 rfl (lv_at hl 2 rfl) ?_
      refine lv_ldc (v := (-100000)) FX.1 FX.2.1 FX.2.2.2.1 (FX.2.2.2.2 _ co_RX2_9) dX2_emptyPlain_39 ?_
      refine p_iast (wsN := (wM cI o bo po (wth_X2_fails (v_X2_isNoPlain p1) 0) f (upd g p1.toNatClampNeg (-100000)) ak su gt lf rf kn)) FX hK hP hD hS 2 rfl (in_v_X2_isNoPlain (fails_1 c_1)) dX2_emptyPlain_41 rfl (fun H locs hP hD hS => ?_)
      refine lv_iload_n FX.1 FX.2.1 dX2_emptyPlain_42 rfl (lv_at hl 0 rfl) ?_
      exact retWR FX hr hlk dX2_emptyPlain_43 rfl hP hK hD hS (by decide) (by decide) (by rw [v_X2_emptyPlain, if_pos c_1, if_neg c_2]) (by rw [wth_X2_emptyPlain, wg_X2_emptyPlain, if_pos c_1])
  · refine lv_iconst (v := 0) FX.1 FX.2.1 dX2_emptyPlain_12 (by decide) ?_
    exact retWR FX hr hlk dX2_emptyPlain_13 rfl hP hK hD hS (by decide) (by decide) (by rw [v_X2_emptyPlain, if_neg c_1]) (by rw [wth_X2_emptyPlain, wg_X2_emptyPlain, if_neg c_1])
def v_X2_getPlain (p1 : Int32) (g : Nat → Int32) : Int32 := if (v_X2_fails (v_X2_isNoPlain p1) 0) = 0 then (if (g p1.toNatClampNeg) = (-100000) then v_X2_refuse else g p1.toNatClampNeg) else 0
def wth_X2_getPlain (p1 : Int32) : Int32 := wth_X2_fails (v_X2_isNoPlain p1) 0
def wrf_X2_getPlain (p1 : Int32) (g : Nat → Int32) (rf : Int32) : Int32 := if (v_X2_fails (v_X2_isNoPlain p1) 0) = 0 then (if (g p1.toNatClampNeg) = (-100000) then wrf_X2_refuse rf else rf) else rf
set_option maxRecDepth 100000 in
set_option maxHeartbeats 4000000 in
theorem k_X2_getPlain (l : Launch) (D : va_G) (cI cB : ClassId) (o bo po : Nat) (th : Int32) (f g : Nat → Int32) (ak su gt lf rf kn : Int32) (p1 : Int32) : WR l yX2_getPlain cX2_getPlain 2 (some .int) ({ frames := 2, cells := 0, slots := 0, locals := 42 } : Room) D cI cB [.ref o, .int p1] (wM cI o bo po th f g ak su gt lf rf kn) (v_X2_getPlain p1 g) (wM cI o bo po (wth_X2_getPlain p1) f g ak su gt lf (wrf_X2_getPlain p1 g rf) kn) 0 0 := by
  refine bodyWR (by decide +kernel) (Nat.le_of_ble_eq_true rfl) (fun p e s m args below meth c ls A Z => ?_)
  obtain ⟨FX, hr, hlk, hK, hP, hD, hS, hA, hl⟩ := Z
  have hl : lv_has ls 2 [(0, .ref o), (1, .int p1)] := hl
  refine lv_aload_n FX.1 FX.2.1 dX2_getPlain_0 rfl (lv_at hl 0 rfl) ?_
  refine lv_iload_n FX.1 FX.2.1 dX2_getPlain_1 rfl (lv_at hl 1 rfl) ?_
  refine c_RDs FX (r_X2_isNoPlain l D cI cB p1) mi_X2_isNoPlain rfl ml_RX2_91 (RMok.mk) hl.1 rfl (Nat.le_of_ble_eq_true rfl) dX2_getPlain_2 (by decide) hK hP [] rfl ?_
  refine lv_iconst (v := 0) FX.1 FX.2.1 dX2_getPlain_5 (by decide) ?_
  refine c_WRV (wr := []) (wsN := (wM cI o bo po (wth_X2_fails (v_X2_isNoPlain p1) 0) f g ak su gt lf rf kn)) (i0 := 0) (ci := 4) FX (k_X2_fails l D cI cB o bo po th f g ak su gt lf rf kn (v_X2_isNoPlain p1) 0) mi_X2_fails rfl ml_RX2_43 (RMok.mk) hl.1 rfl (Nat.le_of_ble_eq_true rfl) dX2_getPlain_6 (by decide) hK hP hD hS hA [0, 1, 2] rfl [] rfl rfl (by decide) [0, 1, 2] rfl rfl rfl rfl rfl (fun H locs hP hD hS => ?_)
  refine lv_if_eq (tgt := 16) FX.1 FX.2.1 dX2_getPlain_9 (by decide) (fun c_1 => ?_) (fun c_1 => ?_)
  · refine lv_aload_n FX.1 FX.2.1 dX2_getPlain_16 rfl (lv_at hl 0 rfl) ?_
    refine va_get (D := D) (ci := 4) (v := .ref po) (C := RX2) (T := TX2) (N := 9) FX.1 FX.2.1 FX.2.2.2.2 inX2 FX.2.2.2.1 hK hP 0 rfl rfl 2 (by decide) (FX.2.2.2.2 _ fl_RX2_14) (fun _ h9 => h9) rfl dX2_getPlain_17 ?_
    refine lv_iload_n FX.1 FX.2.1 dX2_getPlain_20 rfl (lv_at hl 1 rfl) ?_
    refine p_iald (v := g p1.toNatClampNeg) FX hK hP 2 rfl (in_v_X2_isNoPlain (fails_1 c_1)) dX2_getPlain_21 rfl ?_
    refine lv_ldc (v := (-100000)) FX.1 FX.2.1 FX.2.2.2.1 (FX.2.2.2.2 _ co_RX2_9) dX2_getPlain_22 ?_
    refine lv_icmp_ne (tgt := 34) FX.1 FX.2.1 dX2_getPlain_24 (by decide) (fun c_2 => ?_) (fun c_2 => ?_)
    · refine lv_aload_n FX.1 FX.2.1 dX2_getPlain_34 rfl (lv_at hl 0 rfl) ?_
      refine va_get (D := D) (ci := 4) (v := .ref po) (C := RX2) (T := TX2) (N := 9) FX.1 FX.2.1 FX.2.2.2.2 inX2 FX.2.2.2.1 hK hP 0 rfl rfl 2 (by decide) (FX.2.2.2.2 _ fl_RX2_14) (fun _ h9 => h9) rfl dX2_getPlain_35 ?_
      refine lv_iload_n FX.1 FX.2.1 dX2_getPlain_38 rfl (lv_at hl 1 rfl) ?_
      refine p_iald (v := g p1.toNatClampNeg) FX hK hP 2 rfl (in_v_X2_isNoPlain (fails_1 c_1)) dX2_getPlain_39 rfl ?_
      exact retWR FX hr hlk dX2_getPlain_40 rfl hP hK hD hS (by decide) (by decide) (by rw [v_X2_getPlain, if_pos c_1, if_neg c_2]) (by rw [wth_X2_getPlain, wrf_X2_getPlain, if_pos c_1, if_neg c_2])
    · refine lv_aload_n FX.1 FX.2.1 dX2_getPlain_27 rfl (lv_at hl 0 rfl) ?_
      refine c_WRV (wr := []) (wsN := (wM cI o bo po (wth_X2_fails (v_X2_isNoPlain p1) 0) f g ak su gt lf (wrf_X2_refuse rf) kn)) (i0 := 0) (ci := 4) FX (k_X2_refuse l D cI cB o bo po (wth_X2_fails (v_X2_isNoPlain p1) 0) f g ak su gt lf rf kn) mi_X2_refuse rfl ml_RX2_84 (RMok.mk) hl.1 rfl (Nat.le_of_ble_eq_true rfl) dX2_getPlain_28 (by decide) hK hP hD hS hA [0, 1, 2] rfl [] rfl rfl (by decide) [0, 1, 2] rfl rfl rfl rfl rfl (fun H locs hP hD hS => ?_)
      refine lv_goto (tgt := 40) FX.1 FX.2.1 dX2_getPlain_31 (by decide) ?_
      exact retWR FX hr hlk dX2_getPlain_40 rfl hP hK hD hS (by decide) (by decide) (by rw [v_X2_getPlain, if_pos c_1, if_pos c_2]) (by rw [wth_X2_getPlain, wrf_X2_getPlain, if_pos c_1, if_pos c_2])
  · refine lv_iconst (v := 0) FX.1 FX.2.1 dX2_getPlain_12 (by decide) ?_
    refine lv_goto (tgt := 40) FX.1 FX.2.1 dX2_getPlain_13 (by decide) ?_
    exact retWR FX hr hlk dX2_getPlain_40 rfl hP hK hD hS (by decide) (by decide) (by rw [v_X2_getPlain, if_neg c_1]) (by rw [wth_X2_getPlain, wrf_X2_getPlain, if_neg c_1])
def v_X2_orElsePlain (p1 : Int32) (n1 : Int32) (g : Nat → Int32) : Int32 := if (v_X2_fails (v_X2_isNoPlain p1) (v_X2_isNoNumber n1)) = 0 then (if (g p1.toNatClampNeg) = (-100000) then n1 else g p1.toNatClampNeg) else 0
def wth_X2_orElsePlain (p1 : Int32) (n1 : Int32) : Int32 := wth_X2_fails (v_X2_isNoPlain p1) (v_X2_isNoNumber n1)
set_option maxRecDepth 100000 in
set_option maxHeartbeats 4000000 in
theorem k_X2_orElsePlain (l : Launch) (D : va_G) (cI cB : ClassId) (o bo po : Nat) (th : Int32) (f g : Nat → Int32) (ak su gt lf rf kn : Int32) (p1 : Int32) (n1 : Int32) : WR l yX2_orElsePlain cX2_orElsePlain 3 (some .int) ({ frames := 2, cells := 0, slots := 0, locals := 42 } : Room) D cI cB [.ref o, .int p1, .int n1] (wM cI o bo po th f g ak su gt lf rf kn) (v_X2_orElsePlain p1 n1 g) (wM cI o bo po (wth_X2_orElsePlain p1 n1) f g ak su gt lf rf kn) 0 0 := by
  refine bodyWR (by decide +kernel) (Nat.le_of_ble_eq_true rfl) (fun p e s m args below meth c ls A Z => ?_)
  obtain ⟨FX, hr, hlk, hK, hP, hD, hS, hA, hl⟩ := Z
  have hl : lv_has ls 3 [(0, .ref o), (1, .int p1), (2, .int n1)] := hl
  refine lv_aload_n FX.1 FX.2.1 dX2_orElsePlain_0 rfl (lv_at hl 0 rfl) ?_
  refine lv_iload_n FX.1 FX.2.1 dX2_orElsePlain_1 rfl (lv_at hl 1 rfl) ?_
  refine c_RDs FX (r_X2_isNoPlain l D cI cB p1) mi_X2_isNoPlain rfl ml_RX2_91 (RMok.mk) hl.1 rfl (Nat.le_of_ble_eq_true rfl) dX2_orElsePlain_2 (by decide) hK hP [] rfl ?_
  refine lv_iload_n FX.1 FX.2.1 dX2_orElsePlain_5 rfl (lv_at hl 2 rfl) ?_
  refine c_RDs FX (r_X2_isNoNumber l D cI cB n1) mi_X2_isNoNumber rfl ml_RX2_25 (RMok.mk) hl.1 rfl (Nat.le_of_ble_eq_true rfl) dX2_orElsePlain_6 (by decide) hK hP [] rfl ?_
  refine c_WRV (wr := []) (wsN := (wM cI o bo po (wth_X2_fails (v_X2_isNoPlain p1) (v_X2_isNoNumber n1)) f g ak su gt lf rf kn)) (i0 := 0) (ci := 4) FX (k_X2_fails l D cI cB o bo po th f g ak su gt lf rf kn (v_X2_isNoPlain p1) (v_X2_isNoNumber n1)) mi_X2_fails rfl ml_RX2_43 (RMok.mk) hl.1 rfl (Nat.le_of_ble_eq_true rfl) dX2_orElsePlain_9 (by decide) hK hP hD hS hA [0, 1, 2] rfl [] rfl rfl (by decide) [0, 1, 2] rfl rfl rfl rfl rfl (fun H locs hP hD hS => ?_)
  refine lv_if_eq (tgt := 19) FX.1 FX.2.1 dX2_orElsePlain_12 (by decide) (fun c_1 => ?_) (fun c_1 => ?_)
  · refine lv_aload_n FX.1 FX.2.1 dX2_orElsePlain_19 rfl (lv_at hl 0 rfl) ?_
    refine va_get (D := D) (ci := 4) (v := .ref po) (C := RX2) (T := TX2) (N := 9) FX.1 FX.2.1 FX.2.2.2.2 inX2 FX.2.2.2.1 hK hP 0 rfl rfl 2 (by decide) (FX.2.2.2.2 _ fl_RX2_14) (fun _ h9 => h9) rfl dX2_orElsePlain_20 ?_
    refine lv_iload_n FX.1 FX.2.1 dX2_orElsePlain_23 rfl (lv_at hl 1 rfl) ?_
    refine p_iald (v := g p1.toNatClampNeg) FX hK hP 2 rfl (in_v_X2_isNoPlain (fails_1 c_1)) dX2_orElsePlain_24 rfl ?_
    refine lv_ldc (v := (-100000)) FX.1 FX.2.1 FX.2.2.2.1 (FX.2.2.2.2 _ co_RX2_9) dX2_orElsePlain_25 ?_
    refine lv_icmp_ne (tgt := 34) FX.1 FX.2.1 dX2_orElsePlain_27 (by decide) (fun c_2 => ?_) (fun c_2 => ?_)
    · refine lv_aload_n FX.1 FX.2.1 dX2_orElsePlain_34 rfl (lv_at hl 0 rfl) ?_
      refine va_get (D := D) (ci := 4) (v := .ref po) (C := RX2) (T := TX2) (N := 9) FX.1 FX.2.1 FX.2.2.2.2 inX2 FX.2.2.2.1 hK hP 0 rfl rfl 2 (by decide) (FX.2.2.2.2 _ fl_RX2_14) (fun _ h9 => h9) rfl dX2_orElsePlain_35 ?_
      refine lv_iload_n FX.1 FX.2.1 dX2_orElsePlain_38 rfl (lv_at hl 1 rfl) ?_
      refine p_iald (v := g p1.toNatClampNeg) FX hK hP 2 rfl (in_v_X2_isNoPlain (fails_1 c_1)) dX2_orElsePlain_39 rfl ?_
      exact retWR FX hr hlk dX2_orElsePlain_40 rfl hP hK hD hS (by decide) (by decide) (by rw [v_X2_orElsePlain, if_pos c_1, if_neg c_2]) (by rw [wth_X2_orElsePlain])
    · refine lv_iload_n FX.1 FX.2.1 dX2_orElsePlain_30 rfl (lv_at hl 2 rfl) ?_
      refine lv_goto (tgt := 40) FX.1 FX.2.1 dX2_orElsePlain_31 (by decide) ?_
      exact retWR FX hr hlk dX2_orElsePlain_40 rfl hP hK hD hS (by decide) (by decide) (by rw [v_X2_orElsePlain, if_pos c_1, if_pos c_2]) (by rw [wth_X2_orElsePlain])
  · refine lv_iconst (v := 0) FX.1 FX.2.1 dX2_orElsePlain_15 (by decide) ?_
    refine lv_goto (tgt := 40) FX.1 FX.2.1 dX2_orElsePlain_16 (by decide) ?_
    exact retWR FX hr hlk dX2_orElsePlain_40 rfl hP hK hD hS (by decide) (by decide) (by rw [v_X2_orElsePlain, if_neg c_1]) (by rw [wth_X2_orElsePlain])
def v_X2_isFullPlain (p1 : Int32) (g : Nat → Int32) : Int32 := if (v_X2_fails (v_X2_isNoPlain p1) 0) = 0 then (if (g p1.toNatClampNeg) = (-100000) then 0 else 1) else 0
def wth_X2_isFullPlain (p1 : Int32) : Int32 := wth_X2_fails (v_X2_isNoPlain p1) 0
set_option maxRecDepth 100000 in
set_option maxHeartbeats 4000000 in
theorem k_X2_isFullPlain (l : Launch) (D : va_G) (cI cB : ClassId) (o bo po : Nat) (th : Int32) (f g : Nat → Int32) (ak su gt lf rf kn : Int32) (p1 : Int32) : WR l yX2_isFullPlain cX2_isFullPlain 2 (some .boolean) ({ frames := 2, cells := 0, slots := 0, locals := 42 } : Room) D cI cB [.ref o, .int p1] (wM cI o bo po th f g ak su gt lf rf kn) (v_X2_isFullPlain p1 g) (wM cI o bo po (wth_X2_isFullPlain p1) f g ak su gt lf rf kn) 0 0 := by
  refine bodyWR (by decide +kernel) (Nat.le_of_ble_eq_true rfl) (fun p e s m args below meth c ls A Z => ?_)
  obtain ⟨FX, hr, hlk, hK, hP, hD, hS, hA, hl⟩ := Z
  have hl : lv_has ls 2 [(0, .ref o), (1, .int p1)] := hl
  refine lv_aload_n FX.1 FX.2.1 dX2_isFullPlain_0 rfl (lv_at hl 0 rfl) ?_
  refine lv_iload_n FX.1 FX.2.1 dX2_isFullPlain_1 rfl (lv_at hl 1 rfl) ?_
  refine c_RDs FX (r_X2_isNoPlain l D cI cB p1) mi_X2_isNoPlain rfl ml_RX2_91 (RMok.mk) hl.1 rfl (Nat.le_of_ble_eq_true rfl) dX2_isFullPlain_2 (by decide) hK hP [] rfl ?_
  refine lv_iconst (v := 0) FX.1 FX.2.1 dX2_isFullPlain_5 (by decide) ?_
  refine c_WRV (wr := []) (wsN := (wM cI o bo po (wth_X2_fails (v_X2_isNoPlain p1) 0) f g ak su gt lf rf kn)) (i0 := 0) (ci := 4) FX (k_X2_fails l D cI cB o bo po th f g ak su gt lf rf kn (v_X2_isNoPlain p1) 0) mi_X2_fails rfl ml_RX2_43 (RMok.mk) hl.1 rfl (Nat.le_of_ble_eq_true rfl) dX2_isFullPlain_6 (by decide) hK hP hD hS hA [0, 1, 2] rfl [] rfl rfl (by decide) [0, 1, 2] rfl rfl rfl rfl rfl (fun H locs hP hD hS => ?_)
  refine lv_if_ne (tgt := 27) FX.1 FX.2.1 dX2_isFullPlain_9 (by decide) (fun c_1 => ?_) (fun c_1 => ?_)
  · refine lv_iconst (v := 0) FX.1 FX.2.1 dX2_isFullPlain_27 (by decide) ?_
    exact retWR FX hr hlk dX2_isFullPlain_28 rfl hP hK hD hS (by decide) (by decide) (by rw [v_X2_isFullPlain, if_neg c_1]) (by rw [wth_X2_isFullPlain])
  · refine lv_aload_n FX.1 FX.2.1 dX2_isFullPlain_12 rfl (lv_at hl 0 rfl) ?_
    refine va_get (D := D) (ci := 4) (v := .ref po) (C := RX2) (T := TX2) (N := 9) FX.1 FX.2.1 FX.2.2.2.2 inX2 FX.2.2.2.1 hK hP 0 rfl rfl 2 (by decide) (FX.2.2.2.2 _ fl_RX2_14) (fun _ h9 => h9) rfl dX2_isFullPlain_13 ?_
    refine lv_iload_n FX.1 FX.2.1 dX2_isFullPlain_16 rfl (lv_at hl 1 rfl) ?_
    refine p_iald (v := g p1.toNatClampNeg) FX hK hP 2 rfl (in_v_X2_isNoPlain (fails_1 c_1)) dX2_isFullPlain_17 rfl ?_
    refine lv_ldc (v := (-100000)) FX.1 FX.2.1 FX.2.2.2.1 (FX.2.2.2.2 _ co_RX2_9) dX2_isFullPlain_18 ?_
    refine lv_icmp_eq (tgt := 27) FX.1 FX.2.1 dX2_isFullPlain_20 (by decide) (fun c_2 => ?_) (fun c_2 => ?_)
    · refine lv_iconst (v := 0) FX.1 FX.2.1 dX2_isFullPlain_27 (by decide) ?_
      exact retWR FX hr hlk dX2_isFullPlain_28 rfl hP hK hD hS (by decide) (by decide) (by rw [v_X2_isFullPlain, if_pos c_1, if_pos c_2]) (by rw [wth_X2_isFullPlain])
    · refine lv_iconst (v := 1) FX.1 FX.2.1 dX2_isFullPlain_23 (by decide) ?_
      refine lv_goto (tgt := 28) FX.1 FX.2.1 dX2_isFullPlain_24 (by decide) ?_
      exact retWR FX hr hlk dX2_isFullPlain_28 rfl hP hK hD hS (by decide) (by decide) (by rw [v_X2_isFullPlain, if_pos c_1, if_neg c_2]) (by rw [wth_X2_isFullPlain])
theorem b01_v_X2_isFullPlain (p1 : Int32) (g : Nat → Int32) : is01 (v_X2_isFullPlain p1 g) := by
  unfold v_X2_isFullPlain
  repeat' split
  all_goals first | exact Or.inl rfl | exact Or.inr rfl
def v_X2_takePlain (p1 : Int32) (g : Nat → Int32) (su : Int32) : Int32 := if (v_X2_fails (v_X2_isNoPlain p1) 0) = 0 then (if (g p1.toNatClampNeg) = (-100000) then su else wsu_X2_give (g p1.toNatClampNeg) su) else 0
def wth_X2_takePlain (p1 : Int32) : Int32 := wth_X2_fails (v_X2_isNoPlain p1) 0
def wak_X2_takePlain (p1 : Int32) (g : Nat → Int32) (ak : Int32) : Int32 := if (v_X2_fails (v_X2_isNoPlain p1) 0) = 0 then (if (g p1.toNatClampNeg) = (-100000) then ak else wak_X2_give ak) else ak
def wsu_X2_takePlain (p1 : Int32) (g : Nat → Int32) (su : Int32) : Int32 := if (v_X2_fails (v_X2_isNoPlain p1) 0) = 0 then (if (g p1.toNatClampNeg) = (-100000) then su else wsu_X2_give (g p1.toNatClampNeg) su) else su
def wgt_X2_takePlain (p1 : Int32) (g : Nat → Int32) (gt : Int32) : Int32 := if (v_X2_fails (v_X2_isNoPlain p1) 0) = 0 then (if (g p1.toNatClampNeg) = (-100000) then gt else wgt_X2_give gt) else gt
set_option maxRecDepth 100000 in
set_option maxHeartbeats 4000000 in
theorem k_X2_takePlain (l : Launch) (D : va_G) (cI cB : ClassId) (o bo po : Nat) (th : Int32) (f g : Nat → Int32) (ak su gt lf rf kn : Int32) (p1 : Int32) : WR l yX2_takePlain cX2_takePlain 2 (some .int) ({ frames := 2, cells := 0, slots := 0, locals := 42 } : Room) D cI cB [.ref o, .int p1] (wM cI o bo po th f g ak su gt lf rf kn) (v_X2_takePlain p1 g su) (wM cI o bo po (wth_X2_takePlain p1) f g (wak_X2_takePlain p1 g ak) (wsu_X2_takePlain p1 g su) (wgt_X2_takePlain p1 g gt) lf rf kn) 0 0 := by
  refine bodyWR (by decide +kernel) (Nat.le_of_ble_eq_true rfl) (fun p e s m args below meth c ls A Z => ?_)
  obtain ⟨FX, hr, hlk, hK, hP, hD, hS, hA, hl⟩ := Z
  have hl : lv_has ls 2 [(0, .ref o), (1, .int p1)] := hl
  refine lv_aload_n FX.1 FX.2.1 dX2_takePlain_0 rfl (lv_at hl 0 rfl) ?_
  refine lv_iload_n FX.1 FX.2.1 dX2_takePlain_1 rfl (lv_at hl 1 rfl) ?_
  refine c_RDs FX (r_X2_isNoPlain l D cI cB p1) mi_X2_isNoPlain rfl ml_RX2_91 (RMok.mk) hl.1 rfl (Nat.le_of_ble_eq_true rfl) dX2_takePlain_2 (by decide) hK hP [] rfl ?_
  refine lv_iconst (v := 0) FX.1 FX.2.1 dX2_takePlain_5 (by decide) ?_
  refine c_WRV (wr := []) (wsN := (wM cI o bo po (wth_X2_fails (v_X2_isNoPlain p1) 0) f g ak su gt lf rf kn)) (i0 := 0) (ci := 4) FX (k_X2_fails l D cI cB o bo po th f g ak su gt lf rf kn (v_X2_isNoPlain p1) 0) mi_X2_fails rfl ml_RX2_43 (RMok.mk) hl.1 rfl (Nat.le_of_ble_eq_true rfl) dX2_takePlain_6 (by decide) hK hP hD hS hA [0, 1, 2] rfl [] rfl rfl (by decide) [0, 1, 2] rfl rfl rfl rfl rfl (fun H locs hP hD hS => ?_)
  refine lv_if_eq (tgt := 14) FX.1 FX.2.1 dX2_takePlain_9 (by decide) (fun c_1 => ?_) (fun c_1 => ?_)
  · refine lv_aload_n FX.1 FX.2.1 dX2_takePlain_14 rfl (lv_at hl 0 rfl) ?_
    refine va_get (D := D) (ci := 4) (v := .ref po) (C := RX2) (T := TX2) (N := 9) FX.1 FX.2.1 FX.2.2.2.2 inX2 FX.2.2.2.1 hK hP 0 rfl rfl 2 (by decide) (FX.2.2.2.2 _ fl_RX2_14) (fun _ h9 => h9) rfl dX2_takePlain_15 ?_
    refine lv_iload_n FX.1 FX.2.1 dX2_takePlain_18 rfl (lv_at hl 1 rfl) ?_
    refine p_iald (v := g p1.toNatClampNeg) FX hK hP 2 rfl (in_v_X2_isNoPlain (fails_1 c_1)) dX2_takePlain_19 rfl ?_
    refine lv_ldc (v := (-100000)) FX.1 FX.2.1 FX.2.2.2.1 (FX.2.2.2.2 _ co_RX2_9) dX2_takePlain_20 ?_
    refine lv_icmp_eq (tgt := 35) FX.1 FX.2.1 dX2_takePlain_22 (by decide) (fun c_2 => ?_) (fun c_2 => ?_)
    · refine lv_aload_n FX.1 FX.2.1 dX2_takePlain_35 rfl (lv_at hl 0 rfl) ?_
      refine va_get (D := D) (ci := 4) (v := .int su) (C := RX2) (T := TX2) (N := 9) FX.1 FX.2.1 FX.2.2.2.2 inX2 FX.2.2.2.1 hK hP 0 rfl rfl 4 (by decide) (FX.2.2.2.2 _ fl_RX2_74) (fun _ h9 => h9) rfl dX2_takePlain_36 ?_
      exact retWR FX hr hlk dX2_takePlain_39 rfl hP hK hD hS (by decide) (by decide) (by rw [v_X2_takePlain, if_pos c_1, if_pos c_2]) (by rw [wth_X2_takePlain, wak_X2_takePlain, if_pos c_1, if_pos c_2, wsu_X2_takePlain, if_pos c_1, if_pos c_2, wgt_X2_takePlain, if_pos c_1, if_pos c_2])
    · refine lv_aload_n FX.1 FX.2.1 dX2_takePlain_25 rfl (lv_at hl 0 rfl) ?_
      refine lv_aload_n FX.1 FX.2.1 dX2_takePlain_26 rfl (lv_at hl 0 rfl) ?_
      refine va_get (D := D) (ci := 4) (v := .ref po) (C := RX2) (T := TX2) (N := 9) FX.1 FX.2.1 FX.2.2.2.2 inX2 FX.2.2.2.1 hK hP 0 rfl rfl 2 (by decide) (FX.2.2.2.2 _ fl_RX2_14) (fun _ h9 => h9) rfl dX2_takePlain_27 ?_
      refine lv_iload_n FX.1 FX.2.1 dX2_takePlain_30 rfl (lv_at hl 1 rfl) ?_
      refine p_iald (v := g p1.toNatClampNeg) FX hK hP 2 rfl (in_v_X2_isNoPlain (fails_1 c_1)) dX2_takePlain_31 rfl ?_
      refine c_WRvV (wr := []) (wsN := (wM cI o bo po (wth_X2_fails (v_X2_isNoPlain p1) 0) f g (wak_X2_give ak) (wsu_X2_give (g p1.toNatClampNeg) su) (wgt_X2_give gt) lf rf kn)) (i0 := 0) (ci := 4) FX (k_X2_give l D cI cB o bo po (wth_X2_fails (v_X2_isNoPlain p1) 0) f g ak su gt lf rf kn (g p1.toNatClampNeg)) mi_X2_give rfl ml_RX2_77 (RMok.mk) hl.1 rfl (Nat.le_of_ble_eq_true rfl) dX2_takePlain_32 (by decide) hK hP hD hS hA [0, 1, 2] rfl [] rfl rfl (by decide) [0, 1, 2] rfl rfl rfl rfl rfl (fun H locs hP hD hS => ?_)
      refine lv_aload_n FX.1 FX.2.1 dX2_takePlain_35 rfl (lv_at hl 0 rfl) ?_
      refine va_get (D := D) (ci := 4) (v := .int (wsu_X2_give (g p1.toNatClampNeg) su)) (C := RX2) (T := TX2) (N := 9) FX.1 FX.2.1 FX.2.2.2.2 inX2 FX.2.2.2.1 hK hP 0 rfl rfl 4 (by decide) (FX.2.2.2.2 _ fl_RX2_74) (fun _ h9 => h9) rfl dX2_takePlain_36 ?_
      exact retWR FX hr hlk dX2_takePlain_39 rfl hP hK hD hS (by decide) (by decide) (by rw [v_X2_takePlain, if_pos c_1, if_neg c_2]) (by rw [wth_X2_takePlain, wak_X2_takePlain, if_pos c_1, if_neg c_2, wsu_X2_takePlain, if_pos c_1, if_neg c_2, wgt_X2_takePlain, if_pos c_1, if_neg c_2])
  · refine lv_iconst (v := 0) FX.1 FX.2.1 dX2_takePlain_12 (by decide) ?_
    exact retWR FX hr hlk dX2_takePlain_13 rfl hP hK hD hS (by decide) (by decide) (by rw [v_X2_takePlain, if_neg c_1]) (by rw [wth_X2_takePlain, wak_X2_takePlain, if_neg c_1, wsu_X2_takePlain, if_neg c_1, wgt_X2_takePlain, if_neg c_1])
def v_X2_arePlainLike (g : Nat → Int32) : Int32 := if (g 0) = (g 1) then 1 else 0
def wth_X2_arePlainLike  : Int32 := 0
set_option maxRecDepth 100000 in
set_option maxHeartbeats 4000000 in
theorem k_X2_arePlainLike (l : Launch) (D : va_G) (cI cB : ClassId) (o bo po : Nat) (th : Int32) (f g : Nat → Int32) (ak su gt lf rf kn : Int32) : WR l yX2_arePlainLike cX2_arePlainLike 1 (some .boolean) ({ frames := 0, cells := 0, slots := 0, locals := 0 } : Room) D cI cB [.ref o] (wM cI o bo po th f g ak su gt lf rf kn) (v_X2_arePlainLike g) (wM cI o bo po wth_X2_arePlainLike f g ak su gt lf rf kn) 0 0 := by
  refine bodyWR (by decide +kernel) (Nat.le_of_ble_eq_true rfl) (fun p e s m args below meth c ls A Z => ?_)
  obtain ⟨FX, hr, hlk, hK, hP, hD, hS, hA, hl⟩ := Z
  have hl : lv_has ls 1 [(0, .ref o)] := hl
  refine lv_aload_n FX.1 FX.2.1 dX2_arePlainLike_0 rfl (lv_at hl 0 rfl) ?_
  refine lv_iconst (v := 0) FX.1 FX.2.1 dX2_arePlainLike_1 (by decide) ?_
  refine p_put (wsN := (wM cI o bo po 0 f g ak su gt lf rf kn)) (ci := 4) (v := .int 0) (ty := .int) FX inX2 tyX2_ok nmX2 hK hP hD hS 0 rfl rfl 0 (by decide) (FX.2.2.2.2 _ fl_RX2_17) rfl (by decide +kernel) rfl rfl (Nat.le_of_ble_eq_true rfl) dX2_arePlainLike_2 rfl (fun H locs hP hD hS => ?_)
  refine lv_aload_n FX.1 FX.2.1 dX2_arePlainLike_5 rfl (lv_at hl 0 rfl) ?_
  refine va_get (D := D) (ci := 4) (v := .ref po) (C := RX2) (T := TX2) (N := 9) FX.1 FX.2.1 FX.2.2.2.2 inX2 FX.2.2.2.1 hK hP 0 rfl rfl 2 (by decide) (FX.2.2.2.2 _ fl_RX2_14) (fun _ h9 => h9) rfl dX2_arePlainLike_6 ?_
  refine lv_iconst (v := 0) FX.1 FX.2.1 dX2_arePlainLike_9 (by decide) ?_
  refine p_iald (v := g 0) FX hK hP 2 rfl (vp_in_iff.mpr ⟨by decide, by decide⟩) dX2_arePlainLike_10 rfl ?_
  refine lv_aload_n FX.1 FX.2.1 dX2_arePlainLike_11 rfl (lv_at hl 0 rfl) ?_
  refine va_get (D := D) (ci := 4) (v := .ref po) (C := RX2) (T := TX2) (N := 9) FX.1 FX.2.1 FX.2.2.2.2 inX2 FX.2.2.2.1 hK hP 0 rfl rfl 2 (by decide) (FX.2.2.2.2 _ fl_RX2_14) (fun _ h9 => h9) rfl dX2_arePlainLike_12 ?_
  refine lv_iconst (v := 1) FX.1 FX.2.1 dX2_arePlainLike_15 (by decide) ?_
  refine p_iald (v := g 1) FX hK hP 2 rfl (vp_in_iff.mpr ⟨by decide, by decide⟩) dX2_arePlainLike_16 rfl ?_
  refine lv_icmp_ne (tgt := 24) FX.1 FX.2.1 dX2_arePlainLike_17 (by decide) (fun c_1 => ?_) (fun c_1 => ?_)
  · refine lv_iconst (v := 0) FX.1 FX.2.1 dX2_arePlainLike_24 (by decide) ?_
    exact retWR FX hr hlk dX2_arePlainLike_25 rfl hP hK hD hS (by decide) (by decide) (by rw [v_X2_arePlainLike, if_neg c_1]) (by rw [wth_X2_arePlainLike])
  · refine lv_iconst (v := 1) FX.1 FX.2.1 dX2_arePlainLike_20 (by decide) ?_
    refine lv_goto (tgt := 25) FX.1 FX.2.1 dX2_arePlainLike_21 (by decide) ?_
    exact retWR FX hr hlk dX2_arePlainLike_25 rfl hP hK hD hS (by decide) (by decide) (by rw [v_X2_arePlainLike, if_pos c_1]) (by rw [wth_X2_arePlainLike])
theorem b01_v_X2_arePlainLike (g : Nat → Int32) : is01 (v_X2_arePlainLike g) := by
  unfold v_X2_arePlainLike
  repeat' split
  all_goals first | exact Or.inl rfl | exact Or.inr rfl
def v_X2_toPlain (p1 : Int32) (b1 : Int32) (f : Nat → Int32) : Int32 := if (v_X2_isNoPlain p1) = 0 then (if (v_X2_isNone b1) = 0 then (if (f b1.toNatClampNeg) = (-100000) then v_X2_one 0 else v_X2_one 1) else 0) else 0
def wth_X2_toPlain (p1 : Int32) (b1 : Int32) : Int32 := if (v_X2_isNoPlain p1) = 0 then (if (v_X2_isNone b1) = 0 then wth_X2_fails 0 0 else wth_X2_fails 1 0) else wth_X2_fails 1 0
def wg_X2_toPlain (p1 : Int32) (b1 : Int32) (f : Nat → Int32) (g : Nat → Int32) : Nat → Int32 := if (v_X2_isNoPlain p1) = 0 then (if (v_X2_isNone b1) = 0 then upd g p1.toNatClampNeg (f b1.toNatClampNeg) else g) else g
set_option maxRecDepth 100000 in
set_option maxHeartbeats 4000000 in
theorem k_X2_toPlain (l : Launch) (D : va_G) (cI cB : ClassId) (o bo po : Nat) (th : Int32) (f g : Nat → Int32) (ak su gt lf rf kn : Int32) (p1 : Int32) (b1 : Int32) : WR l yX2_toPlain cX2_toPlain 3 (some .int) ({ frames := 2, cells := 0, slots := 0, locals := 42 } : Room) D cI cB [.ref o, .int p1, .int b1] (wM cI o bo po th f g ak su gt lf rf kn) (v_X2_toPlain p1 b1 f) (wM cI o bo po (wth_X2_toPlain p1 b1) f (wg_X2_toPlain p1 b1 f g) ak su gt lf rf kn) 0 0 := by
  refine bodyWR (by decide +kernel) (Nat.le_of_ble_eq_true rfl) (fun p e s m args below meth c ls A Z => ?_)
  obtain ⟨FX, hr, hlk, hK, hP, hD, hS, hA, hl⟩ := Z
  have hl : lv_has ls 3 [(0, .ref o), (1, .int p1), (2, .int b1)] := hl
  refine lv_aload_n FX.1 FX.2.1 dX2_toPlain_0 rfl (lv_at hl 0 rfl) ?_
  refine lv_iload_n FX.1 FX.2.1 dX2_toPlain_1 rfl (lv_at hl 1 rfl) ?_
  refine c_RDs FX (r_X2_isNoPlain l D cI cB p1) mi_X2_isNoPlain rfl ml_RX2_91 (RMok.mk) hl.1 rfl (Nat.le_of_ble_eq_true rfl) dX2_toPlain_2 (by decide) hK hP [] rfl ?_
  refine lv_if_ne (tgt := 15) FX.1 FX.2.1 dX2_toPlain_5 (by decide) (fun c_1 => ?_) (fun c_1 => ?_)
  · refine lv_iconst (v := 1) FX.1 FX.2.1 dX2_toPlain_15 (by decide) ?_
    refine lv_goto (tgt := 20) FX.1 FX.2.1 dX2_toPlain_16 (by decide) ?_
    refine lv_iconst (v := 0) FX.1 FX.2.1 dX2_toPlain_20 (by decide) ?_
    refine c_WRV (wr := []) (wsN := (wM cI o bo po (wth_X2_fails 1 0) f g ak su gt lf rf kn)) (i0 := 0) (ci := 4) FX (k_X2_fails l D cI cB o bo po th f g ak su gt lf rf kn 1 0) mi_X2_fails rfl ml_RX2_43 (RMok.mk) hl.1 rfl (Nat.le_of_ble_eq_true rfl) dX2_toPlain_21 (by decide) hK hP hD hS hA [0, 1, 2] rfl [] rfl rfl (by decide) [0, 1, 2] rfl rfl rfl rfl rfl (fun H locs hP hD hS => ?_)
    refine lv_if_eq (tgt := 29) FX.1 FX.2.1 dX2_toPlain_24 (by decide) (fun c_2 => ?_) (fun c_2 => ?_)
    · exact absurd c_2 (by decide)
    · refine lv_iconst (v := 0) FX.1 FX.2.1 dX2_toPlain_27 (by decide) ?_
      exact retWR FX hr hlk dX2_toPlain_28 rfl hP hK hD hS (by decide) (by decide) (by rw [v_X2_toPlain, if_neg c_1]) (by rw [wth_X2_toPlain, if_neg c_1, wg_X2_toPlain, if_neg c_1])
  · refine lv_iload_n FX.1 FX.2.1 dX2_toPlain_8 rfl (lv_at hl 2 rfl) ?_
    refine c_RDs FX (r_X2_isNone l D cI cB b1) mi_X2_isNone rfl ml_RX2_40 (RMok.mk) hl.1 rfl (Nat.le_of_ble_eq_true rfl) dX2_toPlain_9 (by decide) hK hP [] rfl ?_
    refine lv_if_eq (tgt := 19) FX.1 FX.2.1 dX2_toPlain_12 (by decide) (fun c_3 => ?_) (fun c_3 => ?_)
    · refine lv_iconst (v := 0) FX.1 FX.2.1 dX2_toPlain_19 (by decide) ?_
      refine lv_iconst (v := 0) FX.1 FX.2.1 dX2_toPlain_20 (by decide) ?_
      refine c_WRV (wr := []) (wsN := (wM cI o bo po (wth_X2_fails 0 0) f g ak su gt lf rf kn)) (i0 := 0) (ci := 4) FX (k_X2_fails l D cI cB o bo po th f g ak su gt lf rf kn 0 0) mi_X2_fails rfl ml_RX2_43 (RMok.mk) hl.1 rfl (Nat.le_of_ble_eq_true rfl) dX2_toPlain_21 (by decide) hK hP hD hS hA [0, 1, 2] rfl [] rfl rfl (by decide) [0, 1, 2] rfl rfl rfl rfl rfl (fun H locs hP hD hS => ?_)
      refine lv_if_eq (tgt := 29) FX.1 FX.2.1 dX2_toPlain_24 (by decide) (fun c_4 => ?_) (fun c_4 => ?_)
      · refine lv_aload_n FX.1 FX.2.1 dX2_toPlain_29 rfl (lv_at hl 0 rfl) ?_
        refine va_get (D := D) (ci := 4) (v := .ref po) (C := RX2) (T := TX2) (N := 9) FX.1 FX.2.1 FX.2.2.2.2 inX2 FX.2.2.2.1 hK hP 0 rfl rfl 2 (by decide) (FX.2.2.2.2 _ fl_RX2_14) (fun _ h9 => h9) rfl dX2_toPlain_30 ?_
        refine lv_iload_n FX.1 FX.2.1 dX2_toPlain_33 rfl (lv_at hl 1 rfl) ?_
        refine lv_aload_n FX.1 FX.2.1 dX2_toPlain_34 rfl (lv_at hl 0 rfl) ?_
        refine va_get (D := D) (ci := 4) (v := .ref bo) (C := RX2) (T := TX2) (N := 9) FX.1 FX.2.1 FX.2.2.2.2 inX2 FX.2.2.2.1 hK hP 0 rfl rfl 1 (by decide) (FX.2.2.2.2 _ fl_RX2_10) (fun _ h9 => h9) rfl dX2_toPlain_35 ?_
        refine lv_iload_n FX.1 FX.2.1 dX2_toPlain_38 rfl (lv_at hl 2 rfl) ?_
        refine p_iald (v := f b1.toNatClampNeg) FX hK hP 1 rfl (in_v_X2_isNone c_3) dX2_toPlain_39 rfl ?_
        refine p_iast (wsN := (wM cI o bo po (wth_X2_fails 0 0) f (upd g p1.toNatClampNeg (f b1.toNatClampNeg)) ak su gt lf rf kn)) FX hK hP hD hS 2 rfl (in_v_X2_isNoPlain c_1) dX2_toPlain_40 rfl (fun H locs hP hD hS => ?_)
        refine lv_aload_n FX.1 FX.2.1 dX2_toPlain_41 rfl (lv_at hl 0 rfl) ?_
        refine va_get (D := D) (ci := 4) (v := .ref bo) (C := RX2) (T := TX2) (N := 9) FX.1 FX.2.1 FX.2.2.2.2 inX2 FX.2.2.2.1 hK hP 0 rfl rfl 1 (by decide) (FX.2.2.2.2 _ fl_RX2_10) (fun _ h9 => h9) rfl dX2_toPlain_42 ?_
        refine lv_iload_n FX.1 FX.2.1 dX2_toPlain_45 rfl (lv_at hl 2 rfl) ?_
        refine p_iald (v := f b1.toNatClampNeg) FX hK hP 1 rfl (in_v_X2_isNone c_3) dX2_toPlain_46 rfl ?_
        refine lv_ldc (v := (-100000)) FX.1 FX.2.1 FX.2.2.2.1 (FX.2.2.2.2 _ co_RX2_9) dX2_toPlain_47 ?_
        refine lv_icmp_eq (tgt := 56) FX.1 FX.2.1 dX2_toPlain_49 (by decide) (fun c_5 => ?_) (fun c_5 => ?_)
        · refine lv_iconst (v := 0) FX.1 FX.2.1 dX2_toPlain_56 (by decide) ?_
          refine c_RDs FX (r_X2_one l D cI cB 0) mi_X2_one rfl ml_RX2_32 (RMok.mk) hl.1 rfl (Nat.le_of_ble_eq_true rfl) dX2_toPlain_57 (by decide) hK hP [] rfl ?_
          exact retWR FX hr hlk dX2_toPlain_60 rfl hP hK hD hS (by decide) (by decide) (by rw [v_X2_toPlain, if_pos c_1, if_pos c_3, if_pos c_5]) (by rw [wth_X2_toPlain, if_pos c_1, if_pos c_3, wg_X2_toPlain, if_pos c_1, if_pos c_3])
        · refine lv_iconst (v := 1) FX.1 FX.2.1 dX2_toPlain_52 (by decide) ?_
          refine lv_goto (tgt := 57) FX.1 FX.2.1 dX2_toPlain_53 (by decide) ?_
          refine c_RDs FX (r_X2_one l D cI cB 1) mi_X2_one rfl ml_RX2_32 (RMok.mk) hl.1 rfl (Nat.le_of_ble_eq_true rfl) dX2_toPlain_57 (by decide) hK hP [] rfl ?_
          exact retWR FX hr hlk dX2_toPlain_60 rfl hP hK hD hS (by decide) (by decide) (by rw [v_X2_toPlain, if_pos c_1, if_pos c_3, if_neg c_5]) (by rw [wth_X2_toPlain, if_pos c_1, if_pos c_3, wg_X2_toPlain, if_pos c_1, if_pos c_3])
      · exact absurd c_4 (by decide)
    · refine lv_iconst (v := 1) FX.1 FX.2.1 dX2_toPlain_15 (by decide) ?_
      refine lv_goto (tgt := 20) FX.1 FX.2.1 dX2_toPlain_16 (by decide) ?_
      refine lv_iconst (v := 0) FX.1 FX.2.1 dX2_toPlain_20 (by decide) ?_
      refine c_WRV (wr := []) (wsN := (wM cI o bo po (wth_X2_fails 1 0) f g ak su gt lf rf kn)) (i0 := 0) (ci := 4) FX (k_X2_fails l D cI cB o bo po th f g ak su gt lf rf kn 1 0) mi_X2_fails rfl ml_RX2_43 (RMok.mk) hl.1 rfl (Nat.le_of_ble_eq_true rfl) dX2_toPlain_21 (by decide) hK hP hD hS hA [0, 1, 2] rfl [] rfl rfl (by decide) [0, 1, 2] rfl rfl rfl rfl rfl (fun H locs hP hD hS => ?_)
      refine lv_if_eq (tgt := 29) FX.1 FX.2.1 dX2_toPlain_24 (by decide) (fun c_6 => ?_) (fun c_6 => ?_)
      · exact absurd c_6 (by decide)
      · refine lv_iconst (v := 0) FX.1 FX.2.1 dX2_toPlain_27 (by decide) ?_
        exact retWR FX hr hlk dX2_toPlain_28 rfl hP hK hD hS (by decide) (by decide) (by rw [v_X2_toPlain, if_pos c_1, if_neg c_3]) (by rw [wth_X2_toPlain, if_pos c_1, if_neg c_3, wg_X2_toPlain, if_pos c_1, if_neg c_3])
def v_X2_fromPlain (b1 : Int32) (p1 : Int32) (g : Nat → Int32) : Int32 := if (v_X2_isNone b1) = 0 then (if (v_X2_isNoPlain p1) = 0 then v_X2_become (g p1.toNatClampNeg) else 0) else 0
def wth_X2_fromPlain (b1 : Int32) (p1 : Int32) : Int32 := if (v_X2_isNone b1) = 0 then (if (v_X2_isNoPlain p1) = 0 then wth_X2_fails 0 0 else wth_X2_fails 1 0) else wth_X2_fails 1 0
def wf_X2_fromPlain (b1 : Int32) (p1 : Int32) (f : Nat → Int32) (g : Nat → Int32) : Nat → Int32 := if (v_X2_isNone b1) = 0 then (if (v_X2_isNoPlain p1) = 0 then wf_X2_become b1 (g p1.toNatClampNeg) f else f) else f
set_option maxRecDepth 100000 in
set_option maxHeartbeats 4000000 in
theorem k_X2_fromPlain (l : Launch) (D : va_G) (cI cB : ClassId) (o bo po : Nat) (th : Int32) (f g : Nat → Int32) (ak su gt lf rf kn : Int32) (b1 : Int32) (p1 : Int32) : WR l yX2_fromPlain cX2_fromPlain 3 (some .int) ({ frames := 2, cells := 0, slots := 0, locals := 42 } : Room) D cI cB [.ref o, .int b1, .int p1] (wM cI o bo po th f g ak su gt lf rf kn) (v_X2_fromPlain b1 p1 g) (wM cI o bo po (wth_X2_fromPlain b1 p1) (wf_X2_fromPlain b1 p1 f g) g ak su gt lf rf kn) 0 0 := by
  refine bodyWR (by decide +kernel) (Nat.le_of_ble_eq_true rfl) (fun p e s m args below meth c ls A Z => ?_)
  obtain ⟨FX, hr, hlk, hK, hP, hD, hS, hA, hl⟩ := Z
  have hl : lv_has ls 3 [(0, .ref o), (1, .int b1), (2, .int p1)] := hl
  refine lv_aload_n FX.1 FX.2.1 dX2_fromPlain_0 rfl (lv_at hl 0 rfl) ?_
  refine lv_iload_n FX.1 FX.2.1 dX2_fromPlain_1 rfl (lv_at hl 1 rfl) ?_
  refine c_RDs FX (r_X2_isNone l D cI cB b1) mi_X2_isNone rfl ml_RX2_40 (RMok.mk) hl.1 rfl (Nat.le_of_ble_eq_true rfl) dX2_fromPlain_2 (by decide) hK hP [] rfl ?_
  refine lv_if_ne (tgt := 15) FX.1 FX.2.1 dX2_fromPlain_5 (by decide) (fun c_1 => ?_) (fun c_1 => ?_)
  · refine lv_iconst (v := 1) FX.1 FX.2.1 dX2_fromPlain_15 (by decide) ?_
    refine lv_goto (tgt := 20) FX.1 FX.2.1 dX2_fromPlain_16 (by decide) ?_
    refine lv_iconst (v := 0) FX.1 FX.2.1 dX2_fromPlain_20 (by decide) ?_
    refine c_WRV (wr := []) (wsN := (wM cI o bo po (wth_X2_fails 1 0) f g ak su gt lf rf kn)) (i0 := 0) (ci := 4) FX (k_X2_fails l D cI cB o bo po th f g ak su gt lf rf kn 1 0) mi_X2_fails rfl ml_RX2_43 (RMok.mk) hl.1 rfl (Nat.le_of_ble_eq_true rfl) dX2_fromPlain_21 (by decide) hK hP hD hS hA [0, 1, 2] rfl [] rfl rfl (by decide) [0, 1, 2] rfl rfl rfl rfl rfl (fun H locs hP hD hS => ?_)
    refine lv_if_eq (tgt := 31) FX.1 FX.2.1 dX2_fromPlain_24 (by decide) (fun c_2 => ?_) (fun c_2 => ?_)
    · exact absurd c_2 (by decide)
    · refine lv_iconst (v := 0) FX.1 FX.2.1 dX2_fromPlain_27 (by decide) ?_
      refine lv_goto (tgt := 42) FX.1 FX.2.1 dX2_fromPlain_28 (by decide) ?_
      exact retWR FX hr hlk dX2_fromPlain_42 rfl hP hK hD hS (by decide) (by decide) (by rw [v_X2_fromPlain, if_neg c_1]) (by rw [wth_X2_fromPlain, if_neg c_1, wf_X2_fromPlain, if_neg c_1])
  · refine lv_iload_n FX.1 FX.2.1 dX2_fromPlain_8 rfl (lv_at hl 2 rfl) ?_
    refine c_RDs FX (r_X2_isNoPlain l D cI cB p1) mi_X2_isNoPlain rfl ml_RX2_91 (RMok.mk) hl.1 rfl (Nat.le_of_ble_eq_true rfl) dX2_fromPlain_9 (by decide) hK hP [] rfl ?_
    refine lv_if_eq (tgt := 19) FX.1 FX.2.1 dX2_fromPlain_12 (by decide) (fun c_3 => ?_) (fun c_3 => ?_)
    · refine lv_iconst (v := 0) FX.1 FX.2.1 dX2_fromPlain_19 (by decide) ?_
      refine lv_iconst (v := 0) FX.1 FX.2.1 dX2_fromPlain_20 (by decide) ?_
      refine c_WRV (wr := []) (wsN := (wM cI o bo po (wth_X2_fails 0 0) f g ak su gt lf rf kn)) (i0 := 0) (ci := 4) FX (k_X2_fails l D cI cB o bo po th f g ak su gt lf rf kn 0 0) mi_X2_fails rfl ml_RX2_43 (RMok.mk) hl.1 rfl (Nat.le_of_ble_eq_true rfl) dX2_fromPlain_21 (by decide) hK hP hD hS hA [0, 1, 2] rfl [] rfl rfl (by decide) [0, 1, 2] rfl rfl rfl rfl rfl (fun H locs hP hD hS => ?_)
      refine lv_if_eq (tgt := 31) FX.1 FX.2.1 dX2_fromPlain_24 (by decide) (fun c_4 => ?_) (fun c_4 => ?_)
      · refine lv_aload_n FX.1 FX.2.1 dX2_fromPlain_31 rfl (lv_at hl 0 rfl) ?_
        refine lv_iload_n FX.1 FX.2.1 dX2_fromPlain_32 rfl (lv_at hl 1 rfl) ?_
        refine lv_aload_n FX.1 FX.2.1 dX2_fromPlain_33 rfl (lv_at hl 0 rfl) ?_
        refine va_get (D := D) (ci := 4) (v := .ref po) (C := RX2) (T := TX2) (N := 9) FX.1 FX.2.1 FX.2.2.2.2 inX2 FX.2.2.2.1 hK hP 0 rfl rfl 2 (by decide) (FX.2.2.2.2 _ fl_RX2_14) (fun _ h9 => h9) rfl dX2_fromPlain_34 ?_
        refine lv_iload_n FX.1 FX.2.1 dX2_fromPlain_37 rfl (lv_at hl 2 rfl) ?_
        refine p_iald (v := g p1.toNatClampNeg) FX hK hP 2 rfl (in_v_X2_isNoPlain c_3) dX2_fromPlain_38 rfl ?_
        refine c_WRV (wr := []) (wsN := (wM cI o bo po (wth_X2_fails 0 0) (wf_X2_become b1 (g p1.toNatClampNeg) f) g ak su gt lf rf kn)) (i0 := 0) (ci := 4) FX (k_X2_become l D cI cB o bo po (wth_X2_fails 0 0) f g ak su gt lf rf kn b1 (g p1.toNatClampNeg) (in_v_X2_isNone c_1)) mi_X2_become rfl ml_RX2_47 (RMok.mk) hl.1 rfl (Nat.le_of_ble_eq_true rfl) dX2_fromPlain_39 (by decide) hK hP hD hS hA [0, 1, 2] rfl [] rfl rfl (by decide) [0, 1, 2] rfl rfl rfl rfl rfl (fun H locs hP hD hS => ?_)
        exact retWR FX hr hlk dX2_fromPlain_42 rfl hP hK hD hS (by decide) (by decide) (by rw [v_X2_fromPlain, if_pos c_1, if_pos c_3]) (by rw [wth_X2_fromPlain, if_pos c_1, if_pos c_3, wf_X2_fromPlain, if_pos c_1, if_pos c_3])
      · exact absurd c_4 (by decide)
    · refine lv_iconst (v := 1) FX.1 FX.2.1 dX2_fromPlain_15 (by decide) ?_
      refine lv_goto (tgt := 20) FX.1 FX.2.1 dX2_fromPlain_16 (by decide) ?_
      refine lv_iconst (v := 0) FX.1 FX.2.1 dX2_fromPlain_20 (by decide) ?_
      refine c_WRV (wr := []) (wsN := (wM cI o bo po (wth_X2_fails 1 0) f g ak su gt lf rf kn)) (i0 := 0) (ci := 4) FX (k_X2_fails l D cI cB o bo po th f g ak su gt lf rf kn 1 0) mi_X2_fails rfl ml_RX2_43 (RMok.mk) hl.1 rfl (Nat.le_of_ble_eq_true rfl) dX2_fromPlain_21 (by decide) hK hP hD hS hA [0, 1, 2] rfl [] rfl rfl (by decide) [0, 1, 2] rfl rfl rfl rfl rfl (fun H locs hP hD hS => ?_)
      refine lv_if_eq (tgt := 31) FX.1 FX.2.1 dX2_fromPlain_24 (by decide) (fun c_5 => ?_) (fun c_5 => ?_)
      · exact absurd c_5 (by decide)
      · refine lv_iconst (v := 0) FX.1 FX.2.1 dX2_fromPlain_27 (by decide) ?_
        refine lv_goto (tgt := 42) FX.1 FX.2.1 dX2_fromPlain_28 (by decide) ?_
        exact retWR FX hr hlk dX2_fromPlain_42 rfl hP hK hD hS (by decide) (by decide) (by rw [v_X2_fromPlain, if_pos c_1, if_neg c_3]) (by rw [wth_X2_fromPlain, if_pos c_1, if_neg c_3, wf_X2_fromPlain, if_pos c_1, if_neg c_3])
def v_X2_areLike (b1 : Int32) (b2 : Int32) (f : Nat → Int32) : Int32 := v_X2_isLike b1 b2 f
def wth_X2_areLike (b1 : Int32) (b2 : Int32) : Int32 := wth_X2_isLike b1 b2
set_option maxRecDepth 100000 in
set_option maxHeartbeats 4000000 in
theorem k_X2_areLike (l : Launch) (D : va_G) (cI cB : ClassId) (o bo po : Nat) (th : Int32) (f g : Nat → Int32) (ak su gt lf rf kn : Int32) (b1 : Int32) (b2 : Int32) : WR l yX2_areLike cX2_areLike 3 (some .boolean) ({ frames := 3, cells := 0, slots := 0, locals := 64 } : Room) D cI cB [.ref o, .int b1, .int b2] (wM cI o bo po th f g ak su gt lf rf kn) (v_X2_areLike b1 b2 f) (wM cI o bo po (wth_X2_areLike b1 b2) f g ak su gt lf rf kn) 0 0 := by
  refine bodyWR (by decide +kernel) (Nat.le_of_ble_eq_true rfl) (fun p e s m args below meth c ls A Z => ?_)
  obtain ⟨FX, hr, hlk, hK, hP, hD, hS, hA, hl⟩ := Z
  have hl : lv_has ls 3 [(0, .ref o), (1, .int b1), (2, .int b2)] := hl
  refine lv_aload_n FX.1 FX.2.1 dX2_areLike_0 rfl (lv_at hl 0 rfl) ?_
  refine lv_iload_n FX.1 FX.2.1 dX2_areLike_1 rfl (lv_at hl 1 rfl) ?_
  refine lv_iload_n FX.1 FX.2.1 dX2_areLike_2 rfl (lv_at hl 2 rfl) ?_
  refine c_WRV (wr := []) (wsN := (wM cI o bo po (wth_X2_isLike b1 b2) f g ak su gt lf rf kn)) (i0 := 0) (ci := 4) FX (k_X2_isLike l D cI cB o bo po th f g ak su gt lf rf kn b1 b2) mi_X2_isLike rfl ml_RX2_94 (RMok.mk) hl.1 rfl (Nat.le_of_ble_eq_true rfl) dX2_areLike_3 (by decide) hK hP hD hS hA [0, 1, 2] rfl [] rfl rfl (by decide) [0, 1, 2] rfl rfl rfl rfl rfl (fun H locs hP hD hS => ?_)
  exact retWR FX hr hlk dX2_areLike_6 (nz (b01_v_X2_isLike _ _ _)) hP hK hD hS (by decide) (by decide) (by rw [v_X2_areLike]) (by rw [wth_X2_areLike])
theorem b01_v_X2_areLike (b1 : Int32) (b2 : Int32) (f : Nat → Int32) : is01 (v_X2_areLike b1 b2 f) := by
  unfold v_X2_areLike
  repeat' split
  all_goals first | with_reducible exact b01_v_X2_isLike _ _ _ | exact Or.inl rfl | exact Or.inr rfl
def v_X2_compare (b1 : Int32) (b2 : Int32) (k1 : Int32) (f : Nat → Int32) : Int32 := if (v_X2_isNone b1) = 0 then (if (v_X2_isNone b2) = 0 then (if (v_X2_isIn k1 0 2) = 0 then 0 else v_X2_compared (f b1.toNatClampNeg) (f b2.toNatClampNeg) k1) else 0) else 0
def wth_X2_compare (b1 : Int32) (b2 : Int32) (k1 : Int32) : Int32 := if (v_X2_isNone b1) = 0 then (if (v_X2_isNone b2) = 0 then (if (v_X2_isIn k1 0 2) = 0 then wth_X2_fails 0 1 else wth_X2_fails 0 0) else (if (v_X2_isIn k1 0 2) = 0 then wth_X2_fails 1 1 else wth_X2_fails 1 0)) else (if (v_X2_isIn k1 0 2) = 0 then wth_X2_fails 1 1 else wth_X2_fails 1 0)
set_option maxRecDepth 100000 in
set_option maxHeartbeats 4000000 in
theorem k_X2_compare (l : Launch) (D : va_G) (cI cB : ClassId) (o bo po : Nat) (th : Int32) (f g : Nat → Int32) (ak su gt lf rf kn : Int32) (b1 : Int32) (b2 : Int32) (k1 : Int32) : WR l yX2_compare cX2_compare 4 (some .int) ({ frames := 2, cells := 0, slots := 0, locals := 49 } : Room) D cI cB [.ref o, .int b1, .int b2, .int k1] (wM cI o bo po th f g ak su gt lf rf kn) (v_X2_compare b1 b2 k1 f) (wM cI o bo po (wth_X2_compare b1 b2 k1) f g ak su gt lf rf kn) 0 0 := by
  refine bodyWR (by decide +kernel) (Nat.le_of_ble_eq_true rfl) (fun p e s m args below meth c ls A Z => ?_)
  obtain ⟨FX, hr, hlk, hK, hP, hD, hS, hA, hl⟩ := Z
  have hl : lv_has ls 4 [(0, .ref o), (1, .int b1), (2, .int b2), (3, .int k1)] := hl
  refine lv_aload_n FX.1 FX.2.1 dX2_compare_0 rfl (lv_at hl 0 rfl) ?_
  refine lv_iload_n FX.1 FX.2.1 dX2_compare_1 rfl (lv_at hl 1 rfl) ?_
  refine c_RDs FX (r_X2_isNone l D cI cB b1) mi_X2_isNone rfl ml_RX2_40 (RMok.mk) hl.1 rfl (Nat.le_of_ble_eq_true rfl) dX2_compare_2 (by decide) hK hP [] rfl ?_
  refine lv_if_ne (tgt := 15) FX.1 FX.2.1 dX2_compare_5 (by decide) (fun c_1 => ?_) (fun c_1 => ?_)
  · refine lv_iconst (v := 1) FX.1 FX.2.1 dX2_compare_15 (by decide) ?_
    refine lv_goto (tgt := 20) FX.1 FX.2.1 dX2_compare_16 (by decide) ?_
    refine lv_iload_n FX.1 FX.2.1 dX2_compare_20 rfl (lv_at hl 3 rfl) ?_
    refine lv_iconst (v := 0) FX.1 FX.2.1 dX2_compare_21 (by decide) ?_
    refine lv_iconst (v := 2) FX.1 FX.2.1 dX2_compare_22 (by decide) ?_
    refine c_RDs FX (r_X2_isIn l D cI cB k1 0 2) mi_X2_isIn rfl ml_RX2_21 (RMok.mk) hl.1 rfl (Nat.le_of_ble_eq_true rfl) dX2_compare_23 (by decide) hK hP [] rfl ?_
    refine lv_if_ne (tgt := 33) FX.1 FX.2.1 dX2_compare_26 (by decide) (fun c_2 => ?_) (fun c_2 => ?_)
    · refine lv_iconst (v := 0) FX.1 FX.2.1 dX2_compare_33 (by decide) ?_
      refine c_WRV (wr := []) (wsN := (wM cI o bo po (wth_X2_fails 1 0) f g ak su gt lf rf kn)) (i0 := 0) (ci := 4) FX (k_X2_fails l D cI cB o bo po th f g ak su gt lf rf kn 1 0) mi_X2_fails rfl ml_RX2_43 (RMok.mk) hl.1 rfl (Nat.le_of_ble_eq_true rfl) dX2_compare_34 (by decide) hK hP hD hS hA [0, 1, 2] rfl [] rfl rfl (by decide) [0, 1, 2] rfl rfl rfl rfl rfl (fun H locs hP hD hS => ?_)
      refine lv_if_eq (tgt := 44) FX.1 FX.2.1 dX2_compare_37 (by decide) (fun c_3 => ?_) (fun c_3 => ?_)
      · exact absurd c_3 (by decide)
      · refine lv_iconst (v := 0) FX.1 FX.2.1 dX2_compare_40 (by decide) ?_
        refine lv_goto (tgt := 60) FX.1 FX.2.1 dX2_compare_41 (by decide) ?_
        exact retWR FX hr hlk dX2_compare_60 rfl hP hK hD hS (by decide) (by decide) (by rw [v_X2_compare, if_neg c_1]) (by rw [wth_X2_compare, if_neg c_1, if_neg c_2])
    · refine lv_iconst (v := 1) FX.1 FX.2.1 dX2_compare_29 (by decide) ?_
      refine lv_goto (tgt := 34) FX.1 FX.2.1 dX2_compare_30 (by decide) ?_
      refine c_WRV (wr := []) (wsN := (wM cI o bo po (wth_X2_fails 1 1) f g ak su gt lf rf kn)) (i0 := 0) (ci := 4) FX (k_X2_fails l D cI cB o bo po th f g ak su gt lf rf kn 1 1) mi_X2_fails rfl ml_RX2_43 (RMok.mk) hl.1 rfl (Nat.le_of_ble_eq_true rfl) dX2_compare_34 (by decide) hK hP hD hS hA [0, 1, 2] rfl [] rfl rfl (by decide) [0, 1, 2] rfl rfl rfl rfl rfl (fun H locs hP hD hS => ?_)
      refine lv_if_eq (tgt := 44) FX.1 FX.2.1 dX2_compare_37 (by decide) (fun c_4 => ?_) (fun c_4 => ?_)
      · exact absurd c_4 (by decide)
      · refine lv_iconst (v := 0) FX.1 FX.2.1 dX2_compare_40 (by decide) ?_
        refine lv_goto (tgt := 60) FX.1 FX.2.1 dX2_compare_41 (by decide) ?_
        exact retWR FX hr hlk dX2_compare_60 rfl hP hK hD hS (by decide) (by decide) (by rw [v_X2_compare, if_neg c_1]) (by rw [wth_X2_compare, if_neg c_1, if_pos c_2])
  · refine lv_iload_n FX.1 FX.2.1 dX2_compare_8 rfl (lv_at hl 2 rfl) ?_
    refine c_RDs FX (r_X2_isNone l D cI cB b2) mi_X2_isNone rfl ml_RX2_40 (RMok.mk) hl.1 rfl (Nat.le_of_ble_eq_true rfl) dX2_compare_9 (by decide) hK hP [] rfl ?_
    refine lv_if_eq (tgt := 19) FX.1 FX.2.1 dX2_compare_12 (by decide) (fun c_5 => ?_) (fun c_5 => ?_)
    · refine lv_iconst (v := 0) FX.1 FX.2.1 dX2_compare_19 (by decide) ?_
      refine lv_iload_n FX.1 FX.2.1 dX2_compare_20 rfl (lv_at hl 3 rfl) ?_
      refine lv_iconst (v := 0) FX.1 FX.2.1 dX2_compare_21 (by decide) ?_
      refine lv_iconst (v := 2) FX.1 FX.2.1 dX2_compare_22 (by decide) ?_
      refine c_RDs FX (r_X2_isIn l D cI cB k1 0 2) mi_X2_isIn rfl ml_RX2_21 (RMok.mk) hl.1 rfl (Nat.le_of_ble_eq_true rfl) dX2_compare_23 (by decide) hK hP [] rfl ?_
      refine lv_if_ne (tgt := 33) FX.1 FX.2.1 dX2_compare_26 (by decide) (fun c_6 => ?_) (fun c_6 => ?_)
      · refine lv_iconst (v := 0) FX.1 FX.2.1 dX2_compare_33 (by decide) ?_
        refine c_WRV (wr := []) (wsN := (wM cI o bo po (wth_X2_fails 0 0) f g ak su gt lf rf kn)) (i0 := 0) (ci := 4) FX (k_X2_fails l D cI cB o bo po th f g ak su gt lf rf kn 0 0) mi_X2_fails rfl ml_RX2_43 (RMok.mk) hl.1 rfl (Nat.le_of_ble_eq_true rfl) dX2_compare_34 (by decide) hK hP hD hS hA [0, 1, 2] rfl [] rfl rfl (by decide) [0, 1, 2] rfl rfl rfl rfl rfl (fun H locs hP hD hS => ?_)
        refine lv_if_eq (tgt := 44) FX.1 FX.2.1 dX2_compare_37 (by decide) (fun c_7 => ?_) (fun c_7 => ?_)
        · refine lv_aload_n FX.1 FX.2.1 dX2_compare_44 rfl (lv_at hl 0 rfl) ?_
          refine va_get (D := D) (ci := 4) (v := .ref bo) (C := RX2) (T := TX2) (N := 9) FX.1 FX.2.1 FX.2.2.2.2 inX2 FX.2.2.2.1 hK hP 0 rfl rfl 1 (by decide) (FX.2.2.2.2 _ fl_RX2_10) (fun _ h9 => h9) rfl dX2_compare_45 ?_
          refine lv_iload_n FX.1 FX.2.1 dX2_compare_48 rfl (lv_at hl 1 rfl) ?_
          refine p_iald (v := f b1.toNatClampNeg) FX hK hP 1 rfl (in_v_X2_isNone c_1) dX2_compare_49 rfl ?_
          refine lv_aload_n FX.1 FX.2.1 dX2_compare_50 rfl (lv_at hl 0 rfl) ?_
          refine va_get (D := D) (ci := 4) (v := .ref bo) (C := RX2) (T := TX2) (N := 9) FX.1 FX.2.1 FX.2.2.2.2 inX2 FX.2.2.2.1 hK hP 0 rfl rfl 1 (by decide) (FX.2.2.2.2 _ fl_RX2_10) (fun _ h9 => h9) rfl dX2_compare_51 ?_
          refine lv_iload_n FX.1 FX.2.1 dX2_compare_54 rfl (lv_at hl 2 rfl) ?_
          refine p_iald (v := f b2.toNatClampNeg) FX hK hP 1 rfl (in_v_X2_isNone c_5) dX2_compare_55 rfl ?_
          refine lv_iload_n FX.1 FX.2.1 dX2_compare_56 rfl (lv_at hl 3 rfl) ?_
          refine c_RDs FX (r_X2_compared l D cI cB (f b1.toNatClampNeg) (f b2.toNatClampNeg) k1) mi_X2_compared rfl ml_RX2_103 (RMok.mk) hl.1 rfl (Nat.le_of_ble_eq_true rfl) dX2_compare_57 (by decide) hK hP [] rfl ?_
          exact retWR FX hr hlk dX2_compare_60 rfl hP hK hD hS (by decide) (by decide) (by rw [v_X2_compare, if_pos c_1, if_pos c_5, if_neg c_6]) (by rw [wth_X2_compare, if_pos c_1, if_pos c_5, if_neg c_6])
        · exact absurd c_7 (by decide)
      · refine lv_iconst (v := 1) FX.1 FX.2.1 dX2_compare_29 (by decide) ?_
        refine lv_goto (tgt := 34) FX.1 FX.2.1 dX2_compare_30 (by decide) ?_
        refine c_WRV (wr := []) (wsN := (wM cI o bo po (wth_X2_fails 0 1) f g ak su gt lf rf kn)) (i0 := 0) (ci := 4) FX (k_X2_fails l D cI cB o bo po th f g ak su gt lf rf kn 0 1) mi_X2_fails rfl ml_RX2_43 (RMok.mk) hl.1 rfl (Nat.le_of_ble_eq_true rfl) dX2_compare_34 (by decide) hK hP hD hS hA [0, 1, 2] rfl [] rfl rfl (by decide) [0, 1, 2] rfl rfl rfl rfl rfl (fun H locs hP hD hS => ?_)
        refine lv_if_eq (tgt := 44) FX.1 FX.2.1 dX2_compare_37 (by decide) (fun c_8 => ?_) (fun c_8 => ?_)
        · exact absurd c_8 (by decide)
        · refine lv_iconst (v := 0) FX.1 FX.2.1 dX2_compare_40 (by decide) ?_
          refine lv_goto (tgt := 60) FX.1 FX.2.1 dX2_compare_41 (by decide) ?_
          exact retWR FX hr hlk dX2_compare_60 rfl hP hK hD hS (by decide) (by decide) (by rw [v_X2_compare, if_pos c_1, if_pos c_5, if_pos c_6]) (by rw [wth_X2_compare, if_pos c_1, if_pos c_5, if_pos c_6])
    · refine lv_iconst (v := 1) FX.1 FX.2.1 dX2_compare_15 (by decide) ?_
      refine lv_goto (tgt := 20) FX.1 FX.2.1 dX2_compare_16 (by decide) ?_
      refine lv_iload_n FX.1 FX.2.1 dX2_compare_20 rfl (lv_at hl 3 rfl) ?_
      refine lv_iconst (v := 0) FX.1 FX.2.1 dX2_compare_21 (by decide) ?_
      refine lv_iconst (v := 2) FX.1 FX.2.1 dX2_compare_22 (by decide) ?_
      refine c_RDs FX (r_X2_isIn l D cI cB k1 0 2) mi_X2_isIn rfl ml_RX2_21 (RMok.mk) hl.1 rfl (Nat.le_of_ble_eq_true rfl) dX2_compare_23 (by decide) hK hP [] rfl ?_
      refine lv_if_ne (tgt := 33) FX.1 FX.2.1 dX2_compare_26 (by decide) (fun c_9 => ?_) (fun c_9 => ?_)
      · refine lv_iconst (v := 0) FX.1 FX.2.1 dX2_compare_33 (by decide) ?_
        refine c_WRV (wr := []) (wsN := (wM cI o bo po (wth_X2_fails 1 0) f g ak su gt lf rf kn)) (i0 := 0) (ci := 4) FX (k_X2_fails l D cI cB o bo po th f g ak su gt lf rf kn 1 0) mi_X2_fails rfl ml_RX2_43 (RMok.mk) hl.1 rfl (Nat.le_of_ble_eq_true rfl) dX2_compare_34 (by decide) hK hP hD hS hA [0, 1, 2] rfl [] rfl rfl (by decide) [0, 1, 2] rfl rfl rfl rfl rfl (fun H locs hP hD hS => ?_)
        refine lv_if_eq (tgt := 44) FX.1 FX.2.1 dX2_compare_37 (by decide) (fun c_10 => ?_) (fun c_10 => ?_)
        · exact absurd c_10 (by decide)
        · refine lv_iconst (v := 0) FX.1 FX.2.1 dX2_compare_40 (by decide) ?_
          refine lv_goto (tgt := 60) FX.1 FX.2.1 dX2_compare_41 (by decide) ?_
          exact retWR FX hr hlk dX2_compare_60 rfl hP hK hD hS (by decide) (by decide) (by rw [v_X2_compare, if_pos c_1, if_neg c_5]) (by rw [wth_X2_compare, if_pos c_1, if_neg c_5, if_neg c_9])
      · refine lv_iconst (v := 1) FX.1 FX.2.1 dX2_compare_29 (by decide) ?_
        refine lv_goto (tgt := 34) FX.1 FX.2.1 dX2_compare_30 (by decide) ?_
        refine c_WRV (wr := []) (wsN := (wM cI o bo po (wth_X2_fails 1 1) f g ak su gt lf rf kn)) (i0 := 0) (ci := 4) FX (k_X2_fails l D cI cB o bo po th f g ak su gt lf rf kn 1 1) mi_X2_fails rfl ml_RX2_43 (RMok.mk) hl.1 rfl (Nat.le_of_ble_eq_true rfl) dX2_compare_34 (by decide) hK hP hD hS hA [0, 1, 2] rfl [] rfl rfl (by decide) [0, 1, 2] rfl rfl rfl rfl rfl (fun H locs hP hD hS => ?_)
        refine lv_if_eq (tgt := 44) FX.1 FX.2.1 dX2_compare_37 (by decide) (fun c_11 => ?_) (fun c_11 => ?_)
        · exact absurd c_11 (by decide)
        · refine lv_iconst (v := 0) FX.1 FX.2.1 dX2_compare_40 (by decide) ?_
          refine lv_goto (tgt := 60) FX.1 FX.2.1 dX2_compare_41 (by decide) ?_
          exact retWR FX hr hlk dX2_compare_60 rfl hP hK hD hS (by decide) (by decide) (by rw [v_X2_compare, if_pos c_1, if_neg c_5]) (by rw [wth_X2_compare, if_pos c_1, if_neg c_5, if_pos c_9])
def v_X2_codes (b1 : Int32) (b2 : Int32) (b3 : Int32) (f : Nat → Int32) : Int32 := if (v_X2_isNone b1) = 0 then (if (v_X2_isNone b2) = 0 then (if (v_X2_isNone b3) = 0 then v_X2_codesTold b1 b2 b3 f else 0) else 0) else 0
def wth_X2_codes (b1 : Int32) (b2 : Int32) (b3 : Int32) : Int32 := if (v_X2_isNone b1) = 0 then (if (v_X2_isNone b2) = 0 then (if (v_X2_isNone b3) = 0 then wth_X2_fails 0 0 else wth_X2_fails 1 0) else wth_X2_fails 1 0) else wth_X2_fails 1 0
set_option maxRecDepth 100000 in
set_option maxHeartbeats 4000000 in
theorem k_X2_codes (l : Launch) (D : va_G) (cI cB : ClassId) (o bo po : Nat) (th : Int32) (f g : Nat → Int32) (ak su gt lf rf kn : Int32) (b1 : Int32) (b2 : Int32) (b3 : Int32) : WR l yX2_codes cX2_codes 4 (some .int) ({ frames := 2, cells := 0, slots := 0, locals := 43 } : Room) D cI cB [.ref o, .int b1, .int b2, .int b3] (wM cI o bo po th f g ak su gt lf rf kn) (v_X2_codes b1 b2 b3 f) (wM cI o bo po (wth_X2_codes b1 b2 b3) f g ak su gt lf rf kn) 0 0 := by
  refine bodyWR (by decide +kernel) (Nat.le_of_ble_eq_true rfl) (fun p e s m args below meth c ls A Z => ?_)
  obtain ⟨FX, hr, hlk, hK, hP, hD, hS, hA, hl⟩ := Z
  have hl : lv_has ls 4 [(0, .ref o), (1, .int b1), (2, .int b2), (3, .int b3)] := hl
  refine lv_aload_n FX.1 FX.2.1 dX2_codes_0 rfl (lv_at hl 0 rfl) ?_
  refine lv_iload_n FX.1 FX.2.1 dX2_codes_1 rfl (lv_at hl 1 rfl) ?_
  refine c_RDs FX (r_X2_isNone l D cI cB b1) mi_X2_isNone rfl ml_RX2_40 (RMok.mk) hl.1 rfl (Nat.le_of_ble_eq_true rfl) dX2_codes_2 (by decide) hK hP [] rfl ?_
  refine lv_if_ne (tgt := 22) FX.1 FX.2.1 dX2_codes_5 (by decide) (fun c_1 => ?_) (fun c_1 => ?_)
  · refine lv_iconst (v := 1) FX.1 FX.2.1 dX2_codes_22 (by decide) ?_
    refine lv_goto (tgt := 27) FX.1 FX.2.1 dX2_codes_23 (by decide) ?_
    refine lv_iconst (v := 0) FX.1 FX.2.1 dX2_codes_27 (by decide) ?_
    refine c_WRV (wr := []) (wsN := (wM cI o bo po (wth_X2_fails 1 0) f g ak su gt lf rf kn)) (i0 := 0) (ci := 4) FX (k_X2_fails l D cI cB o bo po th f g ak su gt lf rf kn 1 0) mi_X2_fails rfl ml_RX2_43 (RMok.mk) hl.1 rfl (Nat.le_of_ble_eq_true rfl) dX2_codes_28 (by decide) hK hP hD hS hA [0, 1, 2] rfl [] rfl rfl (by decide) [0, 1, 2] rfl rfl rfl rfl rfl (fun H locs hP hD hS => ?_)
    refine lv_if_eq (tgt := 38) FX.1 FX.2.1 dX2_codes_31 (by decide) (fun c_2 => ?_) (fun c_2 => ?_)
    · exact absurd c_2 (by decide)
    · refine lv_iconst (v := 0) FX.1 FX.2.1 dX2_codes_34 (by decide) ?_
      refine lv_goto (tgt := 45) FX.1 FX.2.1 dX2_codes_35 (by decide) ?_
      exact retWR FX hr hlk dX2_codes_45 rfl hP hK hD hS (by decide) (by decide) (by rw [v_X2_codes, if_neg c_1]) (by rw [wth_X2_codes, if_neg c_1])
  · refine lv_iload_n FX.1 FX.2.1 dX2_codes_8 rfl (lv_at hl 2 rfl) ?_
    refine c_RDs FX (r_X2_isNone l D cI cB b2) mi_X2_isNone rfl ml_RX2_40 (RMok.mk) hl.1 rfl (Nat.le_of_ble_eq_true rfl) dX2_codes_9 (by decide) hK hP [] rfl ?_
    refine lv_if_ne (tgt := 22) FX.1 FX.2.1 dX2_codes_12 (by decide) (fun c_3 => ?_) (fun c_3 => ?_)
    · refine lv_iconst (v := 1) FX.1 FX.2.1 dX2_codes_22 (by decide) ?_
      refine lv_goto (tgt := 27) FX.1 FX.2.1 dX2_codes_23 (by decide) ?_
      refine lv_iconst (v := 0) FX.1 FX.2.1 dX2_codes_27 (by decide) ?_
      refine c_WRV (wr := []) (wsN := (wM cI o bo po (wth_X2_fails 1 0) f g ak su gt lf rf kn)) (i0 := 0) (ci := 4) FX (k_X2_fails l D cI cB o bo po th f g ak su gt lf rf kn 1 0) mi_X2_fails rfl ml_RX2_43 (RMok.mk) hl.1 rfl (Nat.le_of_ble_eq_true rfl) dX2_codes_28 (by decide) hK hP hD hS hA [0, 1, 2] rfl [] rfl rfl (by decide) [0, 1, 2] rfl rfl rfl rfl rfl (fun H locs hP hD hS => ?_)
      refine lv_if_eq (tgt := 38) FX.1 FX.2.1 dX2_codes_31 (by decide) (fun c_4 => ?_) (fun c_4 => ?_)
      · exact absurd c_4 (by decide)
      · refine lv_iconst (v := 0) FX.1 FX.2.1 dX2_codes_34 (by decide) ?_
        refine lv_goto (tgt := 45) FX.1 FX.2.1 dX2_codes_35 (by decide) ?_
        exact retWR FX hr hlk dX2_codes_45 rfl hP hK hD hS (by decide) (by decide) (by rw [v_X2_codes, if_pos c_1, if_neg c_3]) (by rw [wth_X2_codes, if_pos c_1, if_neg c_3])
    · refine lv_iload_n FX.1 FX.2.1 dX2_codes_15 rfl (lv_at hl 3 rfl) ?_
      refine c_RDs FX (r_X2_isNone l D cI cB b3) mi_X2_isNone rfl ml_RX2_40 (RMok.mk) hl.1 rfl (Nat.le_of_ble_eq_true rfl) dX2_codes_16 (by decide) hK hP [] rfl ?_
      refine lv_if_eq (tgt := 26) FX.1 FX.2.1 dX2_codes_19 (by decide) (fun c_5 => ?_) (fun c_5 => ?_)
      · refine lv_iconst (v := 0) FX.1 FX.2.1 dX2_codes_26 (by decide) ?_
        refine lv_iconst (v := 0) FX.1 FX.2.1 dX2_codes_27 (by decide) ?_
        refine c_WRV (wr := []) (wsN := (wM cI o bo po (wth_X2_fails 0 0) f g ak su gt lf rf kn)) (i0 := 0) (ci := 4) FX (k_X2_fails l D cI cB o bo po th f g ak su gt lf rf kn 0 0) mi_X2_fails rfl ml_RX2_43 (RMok.mk) hl.1 rfl (Nat.le_of_ble_eq_true rfl) dX2_codes_28 (by decide) hK hP hD hS hA [0, 1, 2] rfl [] rfl rfl (by decide) [0, 1, 2] rfl rfl rfl rfl rfl (fun H locs hP hD hS => ?_)
        refine lv_if_eq (tgt := 38) FX.1 FX.2.1 dX2_codes_31 (by decide) (fun c_6 => ?_) (fun c_6 => ?_)
        · refine lv_aload_n FX.1 FX.2.1 dX2_codes_38 rfl (lv_at hl 0 rfl) ?_
          refine lv_iload_n FX.1 FX.2.1 dX2_codes_39 rfl (lv_at hl 1 rfl) ?_
          refine lv_iload_n FX.1 FX.2.1 dX2_codes_40 rfl (lv_at hl 2 rfl) ?_
          refine lv_iload_n FX.1 FX.2.1 dX2_codes_41 rfl (lv_at hl 3 rfl) ?_
          refine c_RDV (i0 := 0) (ci := 4) FX (r_X2_codesTold l D cI cB o bo po (wth_X2_fails 0 0) f g ak su gt lf rf kn b1 b2 b3 (in_v_X2_isNone c_1) (in_v_X2_isNone c_3) (in_v_X2_isNone c_5)) mi_X2_codesTold rfl ml_RX2_106 (RMok.mk) hl.1 rfl (Nat.le_of_ble_eq_true rfl) dX2_codes_42 (by decide) hK hP [0, 1, 2] rfl rfl rfl rfl ?_
          exact retWR FX hr hlk dX2_codes_45 rfl hP hK hD hS (by decide) (by decide) (by rw [v_X2_codes, if_pos c_1, if_pos c_3, if_pos c_5]) (by rw [wth_X2_codes, if_pos c_1, if_pos c_3, if_pos c_5])
        · exact absurd c_6 (by decide)
      · refine lv_iconst (v := 1) FX.1 FX.2.1 dX2_codes_22 (by decide) ?_
        refine lv_goto (tgt := 27) FX.1 FX.2.1 dX2_codes_23 (by decide) ?_
        refine lv_iconst (v := 0) FX.1 FX.2.1 dX2_codes_27 (by decide) ?_
        refine c_WRV (wr := []) (wsN := (wM cI o bo po (wth_X2_fails 1 0) f g ak su gt lf rf kn)) (i0 := 0) (ci := 4) FX (k_X2_fails l D cI cB o bo po th f g ak su gt lf rf kn 1 0) mi_X2_fails rfl ml_RX2_43 (RMok.mk) hl.1 rfl (Nat.le_of_ble_eq_true rfl) dX2_codes_28 (by decide) hK hP hD hS hA [0, 1, 2] rfl [] rfl rfl (by decide) [0, 1, 2] rfl rfl rfl rfl rfl (fun H locs hP hD hS => ?_)
        refine lv_if_eq (tgt := 38) FX.1 FX.2.1 dX2_codes_31 (by decide) (fun c_7 => ?_) (fun c_7 => ?_)
        · exact absurd c_7 (by decide)
        · refine lv_iconst (v := 0) FX.1 FX.2.1 dX2_codes_34 (by decide) ?_
          refine lv_goto (tgt := 45) FX.1 FX.2.1 dX2_codes_35 (by decide) ?_
          exact retWR FX hr hlk dX2_codes_45 rfl hP hK hD hS (by decide) (by decide) (by rw [v_X2_codes, if_pos c_1, if_pos c_3, if_neg c_5]) (by rw [wth_X2_codes, if_pos c_1, if_pos c_3, if_neg c_5])
def v_X2_codeOf (b1 : Int32) (f : Nat → Int32) : Int32 := v_X2_code b1 f
def wth_X2_codeOf (b1 : Int32) : Int32 := wth_X2_code b1
set_option maxRecDepth 100000 in
set_option maxHeartbeats 4000000 in
theorem k_X2_codeOf (l : Launch) (D : va_G) (cI cB : ClassId) (o bo po : Nat) (th : Int32) (f g : Nat → Int32) (ak su gt lf rf kn : Int32) (b1 : Int32) : WR l yX2_codeOf cX2_codeOf 2 (some .int) ({ frames := 3, cells := 0, slots := 0, locals := 63 } : Room) D cI cB [.ref o, .int b1] (wM cI o bo po th f g ak su gt lf rf kn) (v_X2_codeOf b1 f) (wM cI o bo po (wth_X2_codeOf b1) f g ak su gt lf rf kn) 0 0 := by
  refine bodyWR (by decide +kernel) (Nat.le_of_ble_eq_true rfl) (fun p e s m args below meth c ls A Z => ?_)
  obtain ⟨FX, hr, hlk, hK, hP, hD, hS, hA, hl⟩ := Z
  have hl : lv_has ls 2 [(0, .ref o), (1, .int b1)] := hl
  refine lv_aload_n FX.1 FX.2.1 dX2_codeOf_0 rfl (lv_at hl 0 rfl) ?_
  refine lv_iload_n FX.1 FX.2.1 dX2_codeOf_1 rfl (lv_at hl 1 rfl) ?_
  refine c_WRV (wr := []) (wsN := (wM cI o bo po (wth_X2_code b1) f g ak su gt lf rf kn)) (i0 := 0) (ci := 4) FX (k_X2_code l D cI cB o bo po th f g ak su gt lf rf kn b1) mi_X2_code rfl ml_RX2_109 (RMok.mk) hl.1 rfl (Nat.le_of_ble_eq_true rfl) dX2_codeOf_2 (by decide) hK hP hD hS hA [0, 1, 2] rfl [] rfl rfl (by decide) [0, 1, 2] rfl rfl rfl rfl rfl (fun H locs hP hD hS => ?_)
  exact retWR FX hr hlk dX2_codeOf_5 rfl hP hK hD hS (by decide) (by decide) (by rw [v_X2_codeOf]) (by rw [wth_X2_codeOf])
def v_X2_must (b1 : Int32) (f : Nat → Int32) : Int32 := v_X2_get b1 f
def wth_X2_must (b1 : Int32) : Int32 := wth_X2_get b1
def wrf_X2_must (b1 : Int32) (f : Nat → Int32) (rf : Int32) : Int32 := wrf_X2_get b1 f rf
set_option maxRecDepth 100000 in
set_option maxHeartbeats 4000000 in
theorem k_X2_must (l : Launch) (D : va_G) (cI cB : ClassId) (o bo po : Nat) (th : Int32) (f g : Nat → Int32) (ak su gt lf rf kn : Int32) (b1 : Int32) : WR l yX2_must cX2_must 2 (some .int) ({ frames := 3, cells := 0, slots := 0, locals := 63 } : Room) D cI cB [.ref o, .int b1] (wM cI o bo po th f g ak su gt lf rf kn) (v_X2_must b1 f) (wM cI o bo po (wth_X2_must b1) f g ak su gt lf (wrf_X2_must b1 f rf) kn) 0 0 := by
  refine bodyWR (by decide +kernel) (Nat.le_of_ble_eq_true rfl) (fun p e s m args below meth c ls A Z => ?_)
  obtain ⟨FX, hr, hlk, hK, hP, hD, hS, hA, hl⟩ := Z
  have hl : lv_has ls 2 [(0, .ref o), (1, .int b1)] := hl
  refine lv_aload_n FX.1 FX.2.1 dX2_must_0 rfl (lv_at hl 0 rfl) ?_
  refine lv_iload_n FX.1 FX.2.1 dX2_must_1 rfl (lv_at hl 1 rfl) ?_
  refine c_WRV (wr := []) (wsN := (wM cI o bo po (wth_X2_get b1) f g ak su gt lf (wrf_X2_get b1 f rf) kn)) (i0 := 0) (ci := 4) FX (k_X2_get l D cI cB o bo po th f g ak su gt lf rf kn b1) mi_X2_get rfl ml_RX2_112 (RMok.mk) hl.1 rfl (Nat.le_of_ble_eq_true rfl) dX2_must_2 (by decide) hK hP hD hS hA [0, 1, 2] rfl [] rfl rfl (by decide) [0, 1, 2] rfl rfl rfl rfl rfl (fun H locs hP hD hS => ?_)
  exact retWR FX hr hlk dX2_must_5 rfl hP hK hD hS (by decide) (by decide) (by rw [v_X2_must]) (by rw [wth_X2_must, wrf_X2_must])
def v_X2_mustElse (b1 : Int32) (n1 : Int32) (f : Nat → Int32) : Int32 := v_X2_orElse b1 n1 f
def wth_X2_mustElse (b1 : Int32) (n1 : Int32) : Int32 := wth_X2_orElse b1 n1
set_option maxRecDepth 100000 in
set_option maxHeartbeats 4000000 in
theorem k_X2_mustElse (l : Launch) (D : va_G) (cI cB : ClassId) (o bo po : Nat) (th : Int32) (f g : Nat → Int32) (ak su gt lf rf kn : Int32) (b1 : Int32) (n1 : Int32) : WR l yX2_mustElse cX2_mustElse 3 (some .int) ({ frames := 3, cells := 0, slots := 0, locals := 64 } : Room) D cI cB [.ref o, .int b1, .int n1] (wM cI o bo po th f g ak su gt lf rf kn) (v_X2_mustElse b1 n1 f) (wM cI o bo po (wth_X2_mustElse b1 n1) f g ak su gt lf rf kn) 0 0 := by
  refine bodyWR (by decide +kernel) (Nat.le_of_ble_eq_true rfl) (fun p e s m args below meth c ls A Z => ?_)
  obtain ⟨FX, hr, hlk, hK, hP, hD, hS, hA, hl⟩ := Z
  have hl : lv_has ls 3 [(0, .ref o), (1, .int b1), (2, .int n1)] := hl
  refine lv_aload_n FX.1 FX.2.1 dX2_mustElse_0 rfl (lv_at hl 0 rfl) ?_
  refine lv_iload_n FX.1 FX.2.1 dX2_mustElse_1 rfl (lv_at hl 1 rfl) ?_
  refine lv_iload_n FX.1 FX.2.1 dX2_mustElse_2 rfl (lv_at hl 2 rfl) ?_
  refine c_WRV (wr := []) (wsN := (wM cI o bo po (wth_X2_orElse b1 n1) f g ak su gt lf rf kn)) (i0 := 0) (ci := 4) FX (k_X2_orElse l D cI cB o bo po th f g ak su gt lf rf kn b1 n1) mi_X2_orElse rfl ml_RX2_115 (RMok.mk) hl.1 rfl (Nat.le_of_ble_eq_true rfl) dX2_mustElse_3 (by decide) hK hP hD hS hA [0, 1, 2] rfl [] rfl rfl (by decide) [0, 1, 2] rfl rfl rfl rfl rfl (fun H locs hP hD hS => ?_)
  exact retWR FX hr hlk dX2_mustElse_6 rfl hP hK hD hS (by decide) (by decide) (by rw [v_X2_mustElse]) (by rw [wth_X2_mustElse])
def v_X2_isNothing (b1 : Int32) (f : Nat → Int32) : Int32 := v_X2_isEmpty b1 f
def wth_X2_isNothing (b1 : Int32) : Int32 := wth_X2_isEmpty b1
set_option maxRecDepth 100000 in
set_option maxHeartbeats 4000000 in
theorem k_X2_isNothing (l : Launch) (D : va_G) (cI cB : ClassId) (o bo po : Nat) (th : Int32) (f g : Nat → Int32) (ak su gt lf rf kn : Int32) (b1 : Int32) : WR l yX2_isNothing cX2_isNothing 2 (some .boolean) ({ frames := 3, cells := 0, slots := 0, locals := 63 } : Room) D cI cB [.ref o, .int b1] (wM cI o bo po th f g ak su gt lf rf kn) (v_X2_isNothing b1 f) (wM cI o bo po (wth_X2_isNothing b1) f g ak su gt lf rf kn) 0 0 := by
  refine bodyWR (by decide +kernel) (Nat.le_of_ble_eq_true rfl) (fun p e s m args below meth c ls A Z => ?_)
  obtain ⟨FX, hr, hlk, hK, hP, hD, hS, hA, hl⟩ := Z
  have hl : lv_has ls 2 [(0, .ref o), (1, .int b1)] := hl
  refine lv_aload_n FX.1 FX.2.1 dX2_isNothing_0 rfl (lv_at hl 0 rfl) ?_
  refine lv_iload_n FX.1 FX.2.1 dX2_isNothing_1 rfl (lv_at hl 1 rfl) ?_
  refine c_WRV (wr := []) (wsN := (wM cI o bo po (wth_X2_isEmpty b1) f g ak su gt lf rf kn)) (i0 := 0) (ci := 4) FX (k_X2_isEmpty l D cI cB o bo po th f g ak su gt lf rf kn b1) mi_X2_isEmpty rfl ml_RX2_118 (RMok.mk) hl.1 rfl (Nat.le_of_ble_eq_true rfl) dX2_isNothing_2 (by decide) hK hP hD hS hA [0, 1, 2] rfl [] rfl rfl (by decide) [0, 1, 2] rfl rfl rfl rfl rfl (fun H locs hP hD hS => ?_)
  exact retWR FX hr hlk dX2_isNothing_5 (nz (b01_v_X2_isEmpty _ _)) hP hK hD hS (by decide) (by decide) (by rw [v_X2_isNothing]) (by rw [wth_X2_isNothing])
theorem b01_v_X2_isNothing (b1 : Int32) (f : Nat → Int32) : is01 (v_X2_isNothing b1 f) := by
  unfold v_X2_isNothing
  repeat' split
  all_goals first | with_reducible exact b01_v_X2_isEmpty _ _ | exact Or.inl rfl | exact Or.inr rfl
def v_X2_isSomething (b1 : Int32) (f : Nat → Int32) : Int32 := v_X2_isFull b1 f
def wth_X2_isSomething (b1 : Int32) : Int32 := wth_X2_isFull b1
set_option maxRecDepth 100000 in
set_option maxHeartbeats 4000000 in
theorem k_X2_isSomething (l : Launch) (D : va_G) (cI cB : ClassId) (o bo po : Nat) (th : Int32) (f g : Nat → Int32) (ak su gt lf rf kn : Int32) (b1 : Int32) : WR l yX2_isSomething cX2_isSomething 2 (some .boolean) ({ frames := 3, cells := 0, slots := 0, locals := 63 } : Room) D cI cB [.ref o, .int b1] (wM cI o bo po th f g ak su gt lf rf kn) (v_X2_isSomething b1 f) (wM cI o bo po (wth_X2_isSomething b1) f g ak su gt lf rf kn) 0 0 := by
  refine bodyWR (by decide +kernel) (Nat.le_of_ble_eq_true rfl) (fun p e s m args below meth c ls A Z => ?_)
  obtain ⟨FX, hr, hlk, hK, hP, hD, hS, hA, hl⟩ := Z
  have hl : lv_has ls 2 [(0, .ref o), (1, .int b1)] := hl
  refine lv_aload_n FX.1 FX.2.1 dX2_isSomething_0 rfl (lv_at hl 0 rfl) ?_
  refine lv_iload_n FX.1 FX.2.1 dX2_isSomething_1 rfl (lv_at hl 1 rfl) ?_
  refine c_WRV (wr := []) (wsN := (wM cI o bo po (wth_X2_isFull b1) f g ak su gt lf rf kn)) (i0 := 0) (ci := 4) FX (k_X2_isFull l D cI cB o bo po th f g ak su gt lf rf kn b1) mi_X2_isFull rfl ml_RX2_121 (RMok.mk) hl.1 rfl (Nat.le_of_ble_eq_true rfl) dX2_isSomething_2 (by decide) hK hP hD hS hA [0, 1, 2] rfl [] rfl rfl (by decide) [0, 1, 2] rfl rfl rfl rfl rfl (fun H locs hP hD hS => ?_)
  exact retWR FX hr hlk dX2_isSomething_5 (nz (b01_v_X2_isFull _ _)) hP hK hD hS (by decide) (by decide) (by rw [v_X2_isSomething]) (by rw [wth_X2_isSomething])
theorem b01_v_X2_isSomething (b1 : Int32) (f : Nat → Int32) : is01 (v_X2_isSomething b1 f) := by
  unfold v_X2_isSomething
  repeat' split
  all_goals first | with_reducible exact b01_v_X2_isFull _ _ | exact Or.inl rfl | exact Or.inr rfl
def v_X2_place (n1 : Int32) (n2 : Int32) : Int32 := if (v_X2_isIn n2 0 999) = 0 then 0 else (if (v_X2_isIn n1 0 (n2 - 1)) = 0 then 0 else n1)
def wth_X2_place (n1 : Int32) (n2 : Int32) : Int32 := if (v_X2_isIn n2 0 999) = 0 then (if (v_X2_isIn n1 0 (n2 - 1)) = 0 then wth_X2_fails 1 1 else wth_X2_fails 1 0) else (if (v_X2_isIn n1 0 (n2 - 1)) = 0 then wth_X2_fails 0 1 else wth_X2_fails 0 0)
set_option maxRecDepth 100000 in
set_option maxHeartbeats 4000000 in
theorem k_X2_place (l : Launch) (D : va_G) (cI cB : ClassId) (o bo po : Nat) (th : Int32) (f g : Nat → Int32) (ak su gt lf rf kn : Int32) (n1 : Int32) (n2 : Int32) : WR l yX2_place cX2_place 3 (some .int) ({ frames := 1, cells := 0, slots := 0, locals := 22 } : Room) D cI cB [.ref o, .int n1, .int n2] (wM cI o bo po th f g ak su gt lf rf kn) (v_X2_place n1 n2) (wM cI o bo po (wth_X2_place n1 n2) f g ak su gt lf rf kn) 0 0 := by
  refine bodyWR (by decide +kernel) (Nat.le_of_ble_eq_true rfl) (fun p e s m args below meth c ls A Z => ?_)
  obtain ⟨FX, hr, hlk, hK, hP, hD, hS, hA, hl⟩ := Z
  have hl : lv_has ls 3 [(0, .ref o), (1, .int n1), (2, .int n2)] := hl
  refine lv_aload_n FX.1 FX.2.1 dX2_place_0 rfl (lv_at hl 0 rfl) ?_
  refine lv_iload_n FX.1 FX.2.1 dX2_place_1 rfl (lv_at hl 2 rfl) ?_
  refine lv_iconst (v := 0) FX.1 FX.2.1 dX2_place_2 (by decide) ?_
  refine lv_sipush (v := 999) FX.1 FX.2.1 dX2_place_3 (by decide) ?_
  refine c_RDs FX (r_X2_isIn l D cI cB n2 0 999) mi_X2_isIn rfl ml_RX2_21 (RMok.mk) hl.1 rfl (Nat.le_of_ble_eq_true rfl) dX2_place_6 (by decide) hK hP [] rfl ?_
  refine lv_if_ne (tgt := 16) FX.1 FX.2.1 dX2_place_9 (by decide) (fun c_1 => ?_) (fun c_1 => ?_)
  · refine lv_iconst (v := 0) FX.1 FX.2.1 dX2_place_16 (by decide) ?_
    refine lv_iload_n FX.1 FX.2.1 dX2_place_17 rfl (lv_at hl 1 rfl) ?_
    refine lv_iconst (v := 0) FX.1 FX.2.1 dX2_place_18 (by decide) ?_
    refine lv_iload_n FX.1 FX.2.1 dX2_place_19 rfl (lv_at hl 2 rfl) ?_
    refine lv_iconst (v := 1) FX.1 FX.2.1 dX2_place_20 (by decide) ?_
    refine lv_isub FX.1 FX.2.1 dX2_place_21 ?_
    refine c_RDs FX (r_X2_isIn l D cI cB n1 0 (n2 - 1)) mi_X2_isIn rfl ml_RX2_21 (RMok.mk) hl.1 rfl (Nat.le_of_ble_eq_true rfl) dX2_place_22 (by decide) hK hP [] rfl ?_
    refine lv_if_ne (tgt := 32) FX.1 FX.2.1 dX2_place_25 (by decide) (fun c_2 => ?_) (fun c_2 => ?_)
    · refine lv_iconst (v := 0) FX.1 FX.2.1 dX2_place_32 (by decide) ?_
      refine c_WRV (wr := []) (wsN := (wM cI o bo po (wth_X2_fails 0 0) f g ak su gt lf rf kn)) (i0 := 0) (ci := 4) FX (k_X2_fails l D cI cB o bo po th f g ak su gt lf rf kn 0 0) mi_X2_fails rfl ml_RX2_43 (RMok.mk) hl.1 rfl (Nat.le_of_ble_eq_true rfl) dX2_place_33 (by decide) hK hP hD hS hA [0, 1, 2] rfl [] rfl rfl (by decide) [0, 1, 2] rfl rfl rfl rfl rfl (fun H locs hP hD hS => ?_)
      refine lv_if_eq (tgt := 43) FX.1 FX.2.1 dX2_place_36 (by decide) (fun c_3 => ?_) (fun c_3 => ?_)
      · refine lv_iload_n FX.1 FX.2.1 dX2_place_43 rfl (lv_at hl 1 rfl) ?_
        exact retWR FX hr hlk dX2_place_44 rfl hP hK hD hS (by decide) (by decide) (by rw [v_X2_place, if_neg c_1, if_neg c_2]) (by rw [wth_X2_place, if_neg c_1, if_neg c_2])
      · exact absurd c_3 (by decide)
    · refine lv_iconst (v := 1) FX.1 FX.2.1 dX2_place_28 (by decide) ?_
      refine lv_goto (tgt := 33) FX.1 FX.2.1 dX2_place_29 (by decide) ?_
      refine c_WRV (wr := []) (wsN := (wM cI o bo po (wth_X2_fails 0 1) f g ak su gt lf rf kn)) (i0 := 0) (ci := 4) FX (k_X2_fails l D cI cB o bo po th f g ak su gt lf rf kn 0 1) mi_X2_fails rfl ml_RX2_43 (RMok.mk) hl.1 rfl (Nat.le_of_ble_eq_true rfl) dX2_place_33 (by decide) hK hP hD hS hA [0, 1, 2] rfl [] rfl rfl (by decide) [0, 1, 2] rfl rfl rfl rfl rfl (fun H locs hP hD hS => ?_)
      refine lv_if_eq (tgt := 43) FX.1 FX.2.1 dX2_place_36 (by decide) (fun c_4 => ?_) (fun c_4 => ?_)
      · exact absurd c_4 (by decide)
      · refine lv_iconst (v := 0) FX.1 FX.2.1 dX2_place_39 (by decide) ?_
        refine lv_goto (tgt := 44) FX.1 FX.2.1 dX2_place_40 (by decide) ?_
        exact retWR FX hr hlk dX2_place_44 rfl hP hK hD hS (by decide) (by decide) (by rw [v_X2_place, if_neg c_1, if_pos c_2]) (by rw [wth_X2_place, if_neg c_1, if_pos c_2])
  · refine lv_iconst (v := 1) FX.1 FX.2.1 dX2_place_12 (by decide) ?_
    refine lv_goto (tgt := 17) FX.1 FX.2.1 dX2_place_13 (by decide) ?_
    refine lv_iload_n FX.1 FX.2.1 dX2_place_17 rfl (lv_at hl 1 rfl) ?_
    refine lv_iconst (v := 0) FX.1 FX.2.1 dX2_place_18 (by decide) ?_
    refine lv_iload_n FX.1 FX.2.1 dX2_place_19 rfl (lv_at hl 2 rfl) ?_
    refine lv_iconst (v := 1) FX.1 FX.2.1 dX2_place_20 (by decide) ?_
    refine lv_isub FX.1 FX.2.1 dX2_place_21 ?_
    refine c_RDs FX (r_X2_isIn l D cI cB n1 0 (n2 - 1)) mi_X2_isIn rfl ml_RX2_21 (RMok.mk) hl.1 rfl (Nat.le_of_ble_eq_true rfl) dX2_place_22 (by decide) hK hP [] rfl ?_
    refine lv_if_ne (tgt := 32) FX.1 FX.2.1 dX2_place_25 (by decide) (fun c_5 => ?_) (fun c_5 => ?_)
    · refine lv_iconst (v := 0) FX.1 FX.2.1 dX2_place_32 (by decide) ?_
      refine c_WRV (wr := []) (wsN := (wM cI o bo po (wth_X2_fails 1 0) f g ak su gt lf rf kn)) (i0 := 0) (ci := 4) FX (k_X2_fails l D cI cB o bo po th f g ak su gt lf rf kn 1 0) mi_X2_fails rfl ml_RX2_43 (RMok.mk) hl.1 rfl (Nat.le_of_ble_eq_true rfl) dX2_place_33 (by decide) hK hP hD hS hA [0, 1, 2] rfl [] rfl rfl (by decide) [0, 1, 2] rfl rfl rfl rfl rfl (fun H locs hP hD hS => ?_)
      refine lv_if_eq (tgt := 43) FX.1 FX.2.1 dX2_place_36 (by decide) (fun c_6 => ?_) (fun c_6 => ?_)
      · exact absurd c_6 (by decide)
      · refine lv_iconst (v := 0) FX.1 FX.2.1 dX2_place_39 (by decide) ?_
        refine lv_goto (tgt := 44) FX.1 FX.2.1 dX2_place_40 (by decide) ?_
        exact retWR FX hr hlk dX2_place_44 rfl hP hK hD hS (by decide) (by decide) (by rw [v_X2_place, if_pos c_1]) (by rw [wth_X2_place, if_pos c_1, if_neg c_5])
    · refine lv_iconst (v := 1) FX.1 FX.2.1 dX2_place_28 (by decide) ?_
      refine lv_goto (tgt := 33) FX.1 FX.2.1 dX2_place_29 (by decide) ?_
      refine c_WRV (wr := []) (wsN := (wM cI o bo po (wth_X2_fails 1 1) f g ak su gt lf rf kn)) (i0 := 0) (ci := 4) FX (k_X2_fails l D cI cB o bo po th f g ak su gt lf rf kn 1 1) mi_X2_fails rfl ml_RX2_43 (RMok.mk) hl.1 rfl (Nat.le_of_ble_eq_true rfl) dX2_place_33 (by decide) hK hP hD hS hA [0, 1, 2] rfl [] rfl rfl (by decide) [0, 1, 2] rfl rfl rfl rfl rfl (fun H locs hP hD hS => ?_)
      refine lv_if_eq (tgt := 43) FX.1 FX.2.1 dX2_place_36 (by decide) (fun c_7 => ?_) (fun c_7 => ?_)
      · exact absurd c_7 (by decide)
      · refine lv_iconst (v := 0) FX.1 FX.2.1 dX2_place_39 (by decide) ?_
        refine lv_goto (tgt := 44) FX.1 FX.2.1 dX2_place_40 (by decide) ?_
        exact retWR FX hr hlk dX2_place_44 rfl hP hK hD hS (by decide) (by decide) (by rw [v_X2_place, if_pos c_1]) (by rw [wth_X2_place, if_pos c_1, if_pos c_5])
def v_X2_knock (kn : Int32) : Int32 := kn + 1
def wth_X2_knock  : Int32 := 0
def wkn_X2_knock (kn : Int32) : Int32 := kn + 1
set_option maxRecDepth 100000 in
set_option maxHeartbeats 4000000 in
theorem k_X2_knock (l : Launch) (D : va_G) (cI cB : ClassId) (o bo po : Nat) (th : Int32) (f g : Nat → Int32) (ak su gt lf rf kn : Int32) : WR l yX2_knock cX2_knock 1 (some .int) ({ frames := 0, cells := 0, slots := 0, locals := 0 } : Room) D cI cB [.ref o] (wM cI o bo po th f g ak su gt lf rf kn) (v_X2_knock kn) (wM cI o bo po wth_X2_knock f g ak su gt lf rf (wkn_X2_knock kn)) 0 0 := by
  refine bodyWR (by decide +kernel) (Nat.le_of_ble_eq_true rfl) (fun p e s m args below meth c ls A Z => ?_)
  obtain ⟨FX, hr, hlk, hK, hP, hD, hS, hA, hl⟩ := Z
  have hl : lv_has ls 1 [(0, .ref o)] := hl
  refine lv_aload_n FX.1 FX.2.1 dX2_knock_0 rfl (lv_at hl 0 rfl) ?_
  refine lv_iconst (v := 0) FX.1 FX.2.1 dX2_knock_1 (by decide) ?_
  refine p_put (wsN := (wM cI o bo po 0 f g ak su gt lf rf kn)) (ci := 4) (v := .int 0) (ty := .int) FX inX2 tyX2_ok nmX2 hK hP hD hS 0 rfl rfl 0 (by decide) (FX.2.2.2.2 _ fl_RX2_17) rfl (by decide +kernel) rfl rfl (Nat.le_of_ble_eq_true rfl) dX2_knock_2 rfl (fun H locs hP hD hS => ?_)
  refine lv_aload_n FX.1 FX.2.1 dX2_knock_5 rfl (lv_at hl 0 rfl) ?_
  refine lv_dup FX.1 FX.2.1 dX2_knock_6 rfl ?_
  refine va_get (D := D) (ci := 4) (v := .int kn) (C := RX2) (T := TX2) (N := 9) FX.1 FX.2.1 FX.2.2.2.2 inX2 FX.2.2.2.1 hK hP 0 rfl rfl 8 (by decide) (FX.2.2.2.2 _ fl_RX2_146) (fun _ h9 => h9) rfl dX2_knock_7 ?_
  refine lv_iconst (v := 1) FX.1 FX.2.1 dX2_knock_10 (by decide) ?_
  refine lv_iadd FX.1 FX.2.1 dX2_knock_11 ?_
  refine lv_dup_x1 FX.1 FX.2.1 dX2_knock_12 rfl rfl ?_
  refine p_put (wsN := (wM cI o bo po 0 f g ak su gt lf rf (kn + 1))) (ci := 4) (v := .int (kn + 1)) (ty := .int) FX inX2 tyX2_ok nmX2 hK hP hD hS 0 rfl rfl 8 (by decide) (FX.2.2.2.2 _ fl_RX2_146) rfl (by decide +kernel) rfl rfl (Nat.le_of_ble_eq_true rfl) dX2_knock_13 rfl (fun H locs hP hD hS => ?_)
  exact retWR FX hr hlk dX2_knock_16 rfl hP hK hD hS (by decide) (by decide) (by rw [v_X2_knock]) (by rw [wth_X2_knock, wkn_X2_knock])

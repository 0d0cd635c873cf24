set_option maxRecDepth 20000 in
theorem ml_RX0_210 : Cond.methodLink RX0 210 yX0_turnedByBoth ∈ bigW := bt1 133 rfl rfl
set_option maxRecDepth 20000 in
theorem mi_X0_turnedByBoth : MIv RX0 yX0_turnedByBoth cX0_turnedByBoth 4 (some .int) 3 := ⟨⟨bt1 136 rfl rfl, bt1 1 rfl rfl, by decide, by decide, by decide +kernel⟩, bt1 135 rfl rfl, bt0 4 rfl rfl⟩
set_option maxRecDepth 20000 in
theorem ml_RX0_213 : Cond.methodLink RX0 213 yX0_turnedByRule ∈ bigW := bt1 152 rfl rfl
set_option maxRecDepth 20000 in
theorem mi_X0_turnedByRule : MIs yX0_turnedByRule cX0_turnedByRule 2 (some .int) 2 := ⟨⟨bt1 154 rfl rfl, bt1 1 rfl rfl, by decide, by decide, by decide +kernel⟩, bt1 153 rfl rfl⟩
set_option maxRecDepth 20000 in
theorem ml_RX0_216 : Cond.methodLink RX0 216 yX0_areLike ∈ bigW := bt1 177 rfl rfl
set_option maxRecDepth 20000 in
theorem mi_X0_areLike : MIv RX0 yX0_areLike cX0_areLike 3 (some .boolean) 2 := ⟨⟨bt1 180 rfl rfl, bt1 1 rfl rfl, by decide, by decide, by decide +kernel⟩, bt1 178 rfl rfl, bt1 179 rfl rfl⟩
set_option maxRecDepth 20000 in
theorem ml_RX0_219 : Cond.methodLink RX0 219 yX0_isLike ∈ bigW := bt2 13 rfl rfl
set_option maxRecDepth 20000 in
theorem mi_X0_isLike : MIv RX0 yX0_isLike cX0_isLike 3 (some .boolean) 2 := ⟨⟨bt2 16 rfl rfl, bt1 1 rfl rfl, by decide, by decide, by decide +kernel⟩, bt2 14 rfl rfl, bt2 15 rfl rfl⟩
set_option maxRecDepth 20000 in
theorem ml_RX0_222 : Cond.methodLink RX0 222 yX0_compare ∈ bigW := bt2 17 rfl rfl
set_option maxRecDepth 20000 in
theorem mi_X0_compare : MIv RX0 yX0_compare cX0_compare 6 (some .int) 3 := ⟨⟨bt2 20 rfl rfl, bt1 1 rfl rfl, by decide, by decide, by decide +kernel⟩, bt2 18 rfl rfl, bt2 19 rfl rfl⟩
theorem dX0_areChainsSound_0 : decode cX0_areChainsSound 0 = .ok (.iconst 0, 1) := by decide +kernel
theorem dX0_areChainsSound_1 : decode cX0_areChainsSound 1 = .ok (.istore_n 2, 1) := by decide +kernel
theorem dX0_areChainsSound_2 : decode cX0_areChainsSound 2 = .ok (.iload_n 2, 1) := by decide +kernel
theorem dX0_areChainsSound_3 : decode cX0_areChainsSound 3 = .ok (.iconst 5, 1) := by decide +kernel
theorem dX0_areChainsSound_4 : decode cX0_areChainsSound 4 = .ok (.if_icmp .ge 56, 3) := by decide +kernel
theorem dX0_areChainsSound_7 : decode cX0_areChainsSound 7 = .ok (.aload_n 0, 1) := by decide +kernel
theorem dX0_areChainsSound_8 : decode cX0_areChainsSound 8 = .ok (.iload_n 1, 1) := by decide +kernel
theorem dX0_areChainsSound_9 : decode cX0_areChainsSound 9 = .ok (.iload_n 2, 1) := by decide +kernel
theorem dX0_areChainsSound_10 : decode cX0_areChainsSound 10 = .ok (.iconst 3, 1) := by decide +kernel
theorem dX0_areChainsSound_11 : decode cX0_areChainsSound 11 = .ok (.invokevirtual 46, 3) := by decide +kernel
theorem dX0_areChainsSound_14 : decode cX0_areChainsSound 14 = .ok (.istore_n 3, 1) := by decide +kernel
theorem dX0_areChainsSound_15 : decode cX0_areChainsSound 15 = .ok (.iconst 0, 1) := by decide +kernel
theorem dX0_areChainsSound_16 : decode cX0_areChainsSound 16 = .ok (.istore 4, 2) := by decide +kernel
theorem dX0_areChainsSound_18 : decode cX0_areChainsSound 18 = .ok (.iload 4, 2) := by decide +kernel
theorem dX0_areChainsSound_20 : decode cX0_areChainsSound 20 = .ok (.iconst 5, 1) := by decide +kernel
theorem dX0_areChainsSound_21 : decode cX0_areChainsSound 21 = .ok (.if_icmp .ge 33, 3) := by decide +kernel
theorem dX0_areChainsSound_24 : decode cX0_areChainsSound 24 = .ok (.aload_n 0, 1) := by decide +kernel
theorem dX0_areChainsSound_25 : decode cX0_areChainsSound 25 = .ok (.iload_n 3, 1) := by decide +kernel
theorem dX0_areChainsSound_26 : decode cX0_areChainsSound 26 = .ok (.iload 4, 2) := by decide +kernel
theorem dX0_areChainsSound_28 : decode cX0_areChainsSound 28 = .ok (.iconst 3, 1) := by decide +kernel
theorem dX0_areChainsSound_29 : decode cX0_areChainsSound 29 = .ok (.invokevirtual 46, 3) := by decide +kernel
theorem dX0_areChainsSound_32 : decode cX0_areChainsSound 32 = .ok (.aload_n 0, 1) := by decide +kernel
theorem dX0_areChainsSound_33 : decode cX0_areChainsSound 33 = .ok (.iload_n 1, 1) := by decide +kernel
theorem dX0_areChainsSound_34 : decode cX0_areChainsSound 34 = .ok (.iload_n 2, 1) := by decide +kernel
theorem dX0_areChainsSound_35 : decode cX0_areChainsSound 35 = .ok (.iload 4, 2) := by decide +kernel
theorem dX0_areChainsSound_37 : decode cX0_areChainsSound 37 = .ok (.invokevirtual 210, 3) := by decide +kernel
theorem dX0_areChainsSound_40 : decode cX0_areChainsSound 40 = .ok (.invokestatic 78, 3) := by decide +kernel
theorem dX0_areChainsSound_43 : decode cX0_areChainsSound 43 = .ok (.ifCond .ne 5, 3) := by decide +kernel
theorem dX0_areChainsSound_48 : decode cX0_areChainsSound 48 = .ok (.iinc 4 1, 3) := by decide +kernel
theorem dX0_areChainsSound_51 : decode cX0_areChainsSound 51 = .ok (.goto (-33), 3) := by decide +kernel
theorem dX0_areChainsSound_54 : decode cX0_areChainsSound 54 = .ok (.iinc 2 1, 3) := by decide +kernel
theorem dX0_areChainsSound_57 : decode cX0_areChainsSound 57 = .ok (.goto (-55), 3) := by decide +kernel
theorem dX0_areChainsSound_60 : decode cX0_areChainsSound 60 = .ok (.iconst 1, 1) := by decide +kernel
theorem dX0_areChainsSound_61 : decode cX0_areChainsSound 61 = .ok (.ireturn, 1) := by decide +kernel
theorem dX0_arePairsSound_0 : decode cX0_arePairsSound 0 = .ok (.iconst 0, 1) := by decide +kernel
theorem dX0_arePairsSound_1 : decode cX0_arePairsSound 1 = .ok (.istore_n 2, 1) := by decide +kernel
theorem dX0_arePairsSound_2 : decode cX0_arePairsSound 2 = .ok (.iload_n 2, 1) := by decide +kernel
theorem dX0_arePairsSound_3 : decode cX0_arePairsSound 3 = .ok (.bipush 6, 2) := by decide +kernel
theorem dX0_arePairsSound_5 : decode cX0_arePairsSound 5 = .ok (.if_icmp .ge 47, 3) := by decide +kernel
theorem dX0_arePairsSound_8 : decode cX0_arePairsSound 8 = .ok (.aload_n 0, 1) := by decide +kernel
theorem dX0_arePairsSound_9 : decode cX0_arePairsSound 9 = .ok (.iload_n 1, 1) := by decide +kernel
theorem dX0_arePairsSound_10 : decode cX0_arePairsSound 10 = .ok (.iload_n 2, 1) := by decide +kernel
theorem dX0_arePairsSound_11 : decode cX0_arePairsSound 11 = .ok (.invokevirtual 216, 3) := by decide +kernel
theorem dX0_arePairsSound_14 : decode cX0_arePairsSound 14 = .ok (.istore_n 3, 1) := by decide +kernel
theorem dX0_arePairsSound_15 : decode cX0_arePairsSound 15 = .ok (.aload_n 0, 1) := by decide +kernel
theorem dX0_arePairsSound_16 : decode cX0_arePairsSound 16 = .ok (.iload_n 1, 1) := by decide +kernel
theorem dX0_arePairsSound_17 : decode cX0_arePairsSound 17 = .ok (.iload_n 2, 1) := by decide +kernel
theorem dX0_arePairsSound_18 : decode cX0_arePairsSound 18 = .ok (.invokevirtual 219, 3) := by decide +kernel
theorem dX0_arePairsSound_21 : decode cX0_arePairsSound 21 = .ok (.iload_n 3, 1) := by decide +kernel
theorem dX0_arePairsSound_22 : decode cX0_arePairsSound 22 = .ok (.if_icmp .ne 22, 3) := by decide +kernel
theorem dX0_arePairsSound_25 : decode cX0_arePairsSound 25 = .ok (.aload_n 0, 1) := by decide +kernel
theorem dX0_arePairsSound_26 : decode cX0_arePairsSound 26 = .ok (.iload_n 1, 1) := by decide +kernel
theorem dX0_arePairsSound_27 : decode cX0_arePairsSound 27 = .ok (.iload_n 2, 1) := by decide +kernel
theorem dX0_arePairsSound_28 : decode cX0_arePairsSound 28 = .ok (.iconst 0, 1) := by decide +kernel
theorem dX0_arePairsSound_29 : decode cX0_arePairsSound 29 = .ok (.invokevirtual 222, 3) := by decide +kernel
theorem dX0_arePairsSound_32 : decode cX0_arePairsSound 32 = .ok (.ifCond .ne 7, 3) := by decide +kernel
theorem dX0_arePairsSound_35 : decode cX0_arePairsSound 35 = .ok (.iconst 1, 1) := by decide +kernel
theorem dX0_arePairsSound_36 : decode cX0_arePairsSound 36 = .ok (.goto 4, 3) := by decide +kernel
theorem dX0_arePairsSound_39 : decode cX0_arePairsSound 39 = .ok (.iconst 0, 1) := by decide +kernel
theorem dX0_arePairsSound_40 : decode cX0_arePairsSound 40 = .ok (.iload_n 3, 1) := by decide +kernel
theorem dX0_arePairsSound_41 : decode cX0_arePairsSound 41 = .ok (.if_icmp .eq 5, 3) := by decide +kernel
theorem dX0_arePairsSound_46 : decode cX0_arePairsSound 46 = .ok (.iinc 2 1, 3) := by decide +kernel
theorem dX0_arePairsSound_49 : decode cX0_arePairsSound 49 = .ok (.goto (-47), 3) := by decide +kernel
theorem dX0_arePairsSound_52 : decode cX0_arePairsSound 52 = .ok (.iconst 1, 1) := by decide +kernel
theorem dX0_arePairsSound_53 : decode cX0_arePairsSound 53 = .ok (.ireturn, 1) := by decide +kernel
theorem dX0_areRulesSound_0 : decode cX0_areRulesSound 0 = .ok (.iconst 0, 1) := by decide +kernel
theorem dX0_areRulesSound_1 : decode cX0_areRulesSound 1 = .ok (.istore_n 1, 1) := by decide +kernel
theorem dX0_areRulesSound_2 : decode cX0_areRulesSound 2 = .ok (.iload_n 1, 1) := by decide +kernel
theorem dX0_areRulesSound_3 : decode cX0_areRulesSound 3 = .ok (.bipush 6, 2) := by decide +kernel
theorem dX0_areRulesSound_5 : decode cX0_areRulesSound 5 = .ok (.if_icmp .ge 28, 3) := by decide +kernel
theorem dX0_areRulesSound_8 : decode cX0_areRulesSound 8 = .ok (.iload_n 0, 1) := by decide +kernel
theorem dX0_areRulesSound_9 : decode cX0_areRulesSound 9 = .ok (.iload_n 1, 1) := by decide +kernel
theorem dX0_areRulesSound_10 : decode cX0_areRulesSound 10 = .ok (.iconst 3, 1) := by decide +kernel
theorem dX0_areRulesSound_11 : decode cX0_areRulesSound 11 = .ok (.invokestatic 42, 3) := by decide +kernel
theorem dX0_areRulesSound_14 : decode cX0_areRulesSound 14 = .ok (.iload_n 0, 1) := by decide +kernel
theorem dX0_areRulesSound_15 : decode cX0_areRulesSound 15 = .ok (.iload_n 1, 1) := by decide +kernel
theorem dX0_areRulesSound_16 : decode cX0_areRulesSound 16 = .ok (.invokestatic 213, 3) := by decide +kernel
theorem dX0_areRulesSound_19 : decode cX0_areRulesSound 19 = .ok (.invokestatic 78, 3) := by decide +kernel
theorem dX0_areRulesSound_22 : decode cX0_areRulesSound 22 = .ok (.ifCond .ne 5, 3) := by decide +kernel
theorem dX0_areRulesSound_27 : decode cX0_areRulesSound 27 = .ok (.iinc 1 1, 3) := by decide +kernel
theorem dX0_areRulesSound_30 : decode cX0_areRulesSound 30 = .ok (.goto (-28), 3) := by decide +kernel
theorem dX0_areRulesSound_33 : decode cX0_areRulesSound 33 = .ok (.iconst 1, 1) := by decide +kernel
theorem dX0_areRulesSound_34 : decode cX0_areRulesSound 34 = .ok (.ireturn, 1) := by decide +kernel
theorem dX0_areTestsSound_0 : decode cX0_areTestsSound 0 = .ok (.iconst 0, 1) := by decide +kernel
theorem dX0_areTestsSound_1 : decode cX0_areTestsSound 1 = .ok (.istore_n 1, 1) := by decide +kernel
theorem dX0_areTestsSound_2 : decode cX0_areTestsSound 2 = .ok (.iload_n 1, 1) := by decide +kernel
theorem dX0_areTestsSound_3 : decode cX0_areTestsSound 3 = .ok (.iconst 5, 1) := by decide +kernel
theorem dX0_areTestsSound_4 : decode cX0_areTestsSound 4 = .ok (.if_icmp .ge 58, 3) := by decide +kernel
theorem dX0_areTestsSound_7 : decode cX0_areTestsSound 7 = .ok (.iconst 0, 1) := by decide +kernel
theorem dX0_areTestsSound_8 : decode cX0_areTestsSound 8 = .ok (.istore_n 2, 1) := by decide +kernel
theorem dX0_areTestsSound_9 : decode cX0_areTestsSound 9 = .ok (.iload_n 2, 1) := by decide +kernel
theorem dX0_areTestsSound_10 : decode cX0_areTestsSound 10 = .ok (.iconst 5, 1) := by decide +kernel
theorem dX0_areTestsSound_11 : decode cX0_areTestsSound 11 = .ok (.if_icmp .ge 45, 3) := by decide +kernel
theorem dX0_areTestsSound_14 : decode cX0_areTestsSound 14 = .ok (.iload_n 0, 1) := by decide +kernel
theorem dX0_areTestsSound_15 : decode cX0_areTestsSound 15 = .ok (.iload_n 1, 1) := by decide +kernel
theorem dX0_areTestsSound_16 : decode cX0_areTestsSound 16 = .ok (.iconst 3, 1) := by decide +kernel
theorem dX0_areTestsSound_17 : decode cX0_areTestsSound 17 = .ok (.invokestatic 49, 3) := by decide +kernel
theorem dX0_areTestsSound_20 : decode cX0_areTestsSound 20 = .ok (.iload_n 2, 1) := by decide +kernel
theorem dX0_areTestsSound_21 : decode cX0_areTestsSound 21 = .ok (.iconst 3, 1) := by decide +kernel
theorem dX0_areTestsSound_22 : decode cX0_areTestsSound 22 = .ok (.invokestatic 49, 3) := by decide +kernel
theorem dX0_areTestsSound_25 : decode cX0_areTestsSound 25 = .ok (.istore_n 3, 1) := by decide +kernel
theorem dX0_areTestsSound_26 : decode cX0_areTestsSound 26 = .ok (.iload_n 0, 1) := by decide +kernel
theorem dX0_areTestsSound_27 : decode cX0_areTestsSound 27 = .ok (.iload_n 2, 1) := by decide +kernel
theorem dX0_areTestsSound_28 : decode cX0_areTestsSound 28 = .ok (.iconst 3, 1) := by decide +kernel
theorem dX0_areTestsSound_29 : decode cX0_areTestsSound 29 = .ok (.invokestatic 49, 3) := by decide +kernel
theorem dX0_areTestsSound_32 : decode cX0_areTestsSound 32 = .ok (.iload_n 1, 1) := by decide +kernel
theorem dX0_areTestsSound_33 : decode cX0_areTestsSound 33 = .ok (.iconst 3, 1) := by decide +kernel
theorem dX0_areTestsSound_34 : decode cX0_areTestsSound 34 = .ok (.invokestatic 49, 3) := by decide +kernel
theorem dX0_areTestsSound_37 : decode cX0_areTestsSound 37 = .ok (.istore 4, 2) := by decide +kernel
theorem dX0_areTestsSound_39 : decode cX0_areTestsSound 39 = .ok (.iload_n 3, 1) := by decide +kernel
theorem dX0_areTestsSound_40 : decode cX0_areTestsSound 40 = .ok (.iload 4, 2) := by decide +kernel
theorem dX0_areTestsSound_42 : decode cX0_areTestsSound 42 = .ok (.invokestatic 78, 3) := by decide +kernel
theorem dX0_areTestsSound_45 : decode cX0_areTestsSound 45 = .ok (.ifCond .ne 5, 3) := by decide +kernel
theorem dX0_areTestsSound_50 : decode cX0_areTestsSound 50 = .ok (.iinc 2 1, 3) := by decide +kernel
theorem dX0_areTestsSound_53 : decode cX0_areTestsSound 53 = .ok (.goto (-44), 3) := by decide +kernel
theorem dX0_areTestsSound_56 : decode cX0_areTestsSound 56 = .ok (.iinc 1 1, 3) := by decide +kernel
theorem dX0_areTestsSound_59 : decode cX0_areTestsSound 59 = .ok (.goto (-57), 3) := by decide +kernel
theorem dX0_areTestsSound_62 : decode cX0_areTestsSound 62 = .ok (.iconst 1, 1) := by decide +kernel
theorem dX0_areTestsSound_63 : decode cX0_areTestsSound 63 = .ok (.ireturn, 1) := by decide +kernel
theorem dX0_areTurnsSound_0 : decode cX0_areTurnsSound 0 = .ok (.iload_n 1, 1) := by decide +kernel
theorem dX0_areTurnsSound_1 : decode cX0_areTurnsSound 1 = .ok (.invokestatic 82, 3) := by decide +kernel
theorem dX0_areTurnsSound_4 : decode cX0_areTurnsSound 4 = .ok (.istore_n 2, 1) := by decide +kernel
theorem dX0_areTurnsSound_5 : decode cX0_areTurnsSound 5 = .ok (.iconst 0, 1) := by decide +kernel
theorem dX0_areTurnsSound_6 : decode cX0_areTurnsSound 6 = .ok (.istore_n 3, 1) := by decide +kernel
theorem dX0_areTurnsSound_7 : decode cX0_areTurnsSound 7 = .ok (.iload_n 3, 1) := by decide +kernel
theorem dX0_areTurnsSound_8 : decode cX0_areTurnsSound 8 = .ok (.iconst 5, 1) := by decide +kernel
theorem dX0_areTurnsSound_9 : decode cX0_areTurnsSound 9 = .ok (.if_icmp .ge 31, 3) := by decide +kernel
theorem dX0_areTurnsSound_12 : decode cX0_areTurnsSound 12 = .ok (.aload_n 0, 1) := by decide +kernel
theorem dX0_areTurnsSound_13 : decode cX0_areTurnsSound 13 = .ok (.iload_n 2, 1) := by decide +kernel
theorem dX0_areTurnsSound_14 : decode cX0_areTurnsSound 14 = .ok (.iload_n 3, 1) := by decide +kernel
theorem dX0_areTurnsSound_15 : decode cX0_areTurnsSound 15 = .ok (.iconst 3, 1) := by decide +kernel
theorem dX0_areTurnsSound_16 : decode cX0_areTurnsSound 16 = .ok (.invokevirtual 46, 3) := by decide +kernel
theorem dX0_areTurnsSound_19 : decode cX0_areTurnsSound 19 = .ok (.aload_n 0, 1) := by decide +kernel
theorem dX0_areTurnsSound_20 : decode cX0_areTurnsSound 20 = .ok (.iload_n 3, 1) := by decide +kernel
theorem dX0_areTurnsSound_21 : decode cX0_areTurnsSound 21 = .ok (.iload_n 2, 1) := by decide +kernel
theorem dX0_areTurnsSound_22 : decode cX0_areTurnsSound 22 = .ok (.iconst 3, 1) := by decide +kernel
theorem dX0_areTurnsSound_23 : decode cX0_areTurnsSound 23 = .ok (.invokevirtual 191, 3) := by decide +kernel
theorem dX0_areTurnsSound_26 : decode cX0_areTurnsSound 26 = .ok (.invokestatic 78, 3) := by decide +kernel
theorem dX0_areTurnsSound_29 : decode cX0_areTurnsSound 29 = .ok (.ifCond .ne 5, 3) := by decide +kernel
theorem dX0_areTurnsSound_34 : decode cX0_areTurnsSound 34 = .ok (.iinc 3 1, 3) := by decide +kernel
theorem dX0_areTurnsSound_37 : decode cX0_areTurnsSound 37 = .ok (.goto (-30), 3) := by decide +kernel
theorem dX0_areTurnsSound_40 : decode cX0_areTurnsSound 40 = .ok (.aload_n 0, 1) := by decide +kernel
theorem dX0_areTurnsSound_41 : decode cX0_areTurnsSound 41 = .ok (.iload_n 1, 1) := by decide +kernel
theorem dX0_areTurnsSound_42 : decode cX0_areTurnsSound 42 = .ok (.iconst 4, 1) := by decide +kernel
theorem dX0_areTurnsSound_43 : decode cX0_areTurnsSound 43 = .ok (.iconst 3, 1) := by decide +kernel
theorem dX0_areTurnsSound_44 : decode cX0_areTurnsSound 44 = .ok (.invokevirtual 46, 3) := by decide +kernel
theorem dX0_areTurnsSound_47 : decode cX0_areTurnsSound 47 = .ok (.iload_n 1, 1) := by decide +kernel
theorem dX0_areTurnsSound_48 : decode cX0_areTurnsSound 48 = .ok (.invokestatic 78, 3) := by decide +kernel
theorem dX0_areTurnsSound_51 : decode cX0_areTurnsSound 51 = .ok (.ireturn, 1) := by decide +kernel
theorem dX0_howManyFull_0 : decode cX0_howManyFull 0 = .ok (.iconst 0, 1) := by decide +kernel
theorem dX0_howManyFull_1 : decode cX0_howManyFull 1 = .ok (.istore_n 1, 1) := by decide +kernel
theorem dX0_howManyFull_2 : decode cX0_howManyFull 2 = .ok (.aload_n 0, 1) := by decide +kernel
theorem dX0_howManyFull_3 : decode cX0_howManyFull 3 = .ok (.astore_n 2, 1) := by decide +kernel
theorem dX0_howManyFull_4 : decode cX0_howManyFull 4 = .ok (.aload_n 2, 1) := by decide +kernel
theorem dX0_howManyFull_5 : decode cX0_howManyFull 5 = .ok (.arraylength, 1) := by decide +kernel
theorem dX0_howManyFull_6 : decode cX0_howManyFull 6 = .ok (.istore_n 3, 1) := by decide +kernel
theorem dX0_howManyFull_7 : decode cX0_howManyFull 7 = .ok (.iconst 0, 1) := by decide +kernel
theorem dX0_howManyFull_8 : decode cX0_howManyFull 8 = .ok (.istore 4, 2) := by decide +kernel
theorem dX0_howManyFull_10 : decode cX0_howManyFull 10 = .ok (.iload 4, 2) := by decide +kernel
theorem dX0_howManyFull_12 : decode cX0_howManyFull 12 = .ok (.iload_n 3, 1) := by decide +kernel
theorem dX0_howManyFull_13 : decode cX0_howManyFull 13 = .ok (.if_icmp .ge 23, 3) := by decide +kernel
theorem dX0_howManyFull_16 : decode cX0_howManyFull 16 = .ok (.aload_n 2, 1) := by decide +kernel
theorem dX0_howManyFull_17 : decode cX0_howManyFull 17 = .ok (.iload 4, 2) := by decide +kernel
theorem dX0_howManyFull_19 : decode cX0_howManyFull 19 = .ok (.iaload, 1) := by decide +kernel
theorem dX0_howManyFull_20 : decode cX0_howManyFull 20 = .ok (.istore 5, 2) := by decide +kernel
theorem dX0_howManyFull_22 : decode cX0_howManyFull 22 = .ok (.iload_n 1, 1) := by decide +kernel
theorem dX0_howManyFull_23 : decode cX0_howManyFull 23 = .ok (.iload 5, 2) := by decide +kernel
theorem dX0_howManyFull_25 : decode cX0_howManyFull 25 = .ok (.invokestatic 30, 3) := by decide +kernel
theorem dX0_howManyFull_28 : decode cX0_howManyFull 28 = .ok (.iadd, 1) := by decide +kernel
theorem dX0_howManyFull_29 : decode cX0_howManyFull 29 = .ok (.istore_n 1, 1) := by decide +kernel
theorem dX0_howManyFull_30 : decode cX0_howManyFull 30 = .ok (.iinc 4 1, 3) := by decide +kernel
theorem dX0_howManyFull_33 : decode cX0_howManyFull 33 = .ok (.goto (-23), 3) := by decide +kernel
theorem dX0_howManyFull_36 : decode cX0_howManyFull 36 = .ok (.iload_n 1, 1) := by decide +kernel
theorem dX0_howManyFull_37 : decode cX0_howManyFull 37 = .ok (.ireturn, 1) := by decide +kernel
theorem dX0_sumOfNumbers_0 : decode cX0_sumOfNumbers 0 = .ok (.iconst 0, 1) := by decide +kernel
theorem dX0_sumOfNumbers_1 : decode cX0_sumOfNumbers 1 = .ok (.istore_n 1, 1) := by decide +kernel
theorem dX0_sumOfNumbers_2 : decode cX0_sumOfNumbers 2 = .ok (.aload_n 0, 1) := by decide +kernel
theorem dX0_sumOfNumbers_3 : decode cX0_sumOfNumbers 3 = .ok (.astore_n 2, 1) := by decide +kernel
theorem dX0_sumOfNumbers_4 : decode cX0_sumOfNumbers 4 = .ok (.aload_n 2, 1) := by decide +kernel
theorem dX0_sumOfNumbers_5 : decode cX0_sumOfNumbers 5 = .ok (.arraylength, 1) := by decide +kernel
theorem dX0_sumOfNumbers_6 : decode cX0_sumOfNumbers 6 = .ok (.istore_n 3, 1) := by decide +kernel
theorem dX0_sumOfNumbers_7 : decode cX0_sumOfNumbers 7 = .ok (.iconst 0, 1) := by decide +kernel
theorem dX0_sumOfNumbers_8 : decode cX0_sumOfNumbers 8 = .ok (.istore 4, 2) := by decide +kernel
theorem dX0_sumOfNumbers_10 : decode cX0_sumOfNumbers 10 = .ok (.iload 4, 2) := by decide +kernel
theorem dX0_sumOfNumbers_12 : decode cX0_sumOfNumbers 12 = .ok (.iload_n 3, 1) := by decide +kernel
theorem dX0_sumOfNumbers_13 : decode cX0_sumOfNumbers 13 = .ok (.if_icmp .ge 23, 3) := by decide +kernel
theorem dX0_sumOfNumbers_16 : decode cX0_sumOfNumbers 16 = .ok (.aload_n 2, 1) := by decide +kernel
theorem dX0_sumOfNumbers_17 : decode cX0_sumOfNumbers 17 = .ok (.iload 4, 2) := by decide +kernel
theorem dX0_sumOfNumbers_19 : decode cX0_sumOfNumbers 19 = .ok (.iaload, 1) := by decide +kernel
theorem dX0_sumOfNumbers_20 : decode cX0_sumOfNumbers 20 = .ok (.istore 5, 2) := by decide +kernel
theorem dX0_sumOfNumbers_22 : decode cX0_sumOfNumbers 22 = .ok (.iload_n 1, 1) := by decide +kernel
theorem dX0_sumOfNumbers_23 : decode cX0_sumOfNumbers 23 = .ok (.iload 5, 2) := by decide +kernel
theorem dX0_sumOfNumbers_25 : decode cX0_sumOfNumbers 25 = .ok (.invokestatic 82, 3) := by decide +kernel
theorem dX0_sumOfNumbers_28 : decode cX0_sumOfNumbers 28 = .ok (.iadd, 1) := by decide +kernel
theorem dX0_sumOfNumbers_29 : decode cX0_sumOfNumbers 29 = .ok (.istore_n 1, 1) := by decide +kernel
theorem dX0_sumOfNumbers_30 : decode cX0_sumOfNumbers 30 = .ok (.iinc 4 1, 3) := by decide +kernel
theorem dX0_sumOfNumbers_33 : decode cX0_sumOfNumbers 33 = .ok (.goto (-23), 3) := by decide +kernel
theorem dX0_sumOfNumbers_36 : decode cX0_sumOfNumbers 36 = .ok (.iload_n 1, 1) := by decide +kernel
theorem dX0_sumOfNumbers_37 : decode cX0_sumOfNumbers 37 = .ok (.ireturn, 1) := by decide +kernel
def y_howManyFull (f : Nat → Int32) : Nat → Int32
  | 0 => 0
  | n + 1 => y_howManyFull f n + v_X0_fullness (f n)
set_option maxRecDepth 100000 in
set_option maxHeartbeats 4000000 in
theorem L_X0_howManyFull_6 {p : Program} {l : Launch} {e : Env} {R : Room} {s : State} {m : MethodId} {args : Array Value} {below : List Frame} {meth : Method} {c : Code} {H : Heap} {locs : List Loc} {cells slots : Nat} {Q : State → Prop} (D : va_G) (cI cB : ClassId) (r0 : Nat) (f : Nat → Int32) (hRf : 1 ≤ R.frames) (hRl : 20 ≤ R.locals) (hf : cells ≤ R.cells ∧ slots ≤ R.slots) (FX : CallFix p m c cX0_howManyFull 6 s args bigW RX0) (hK : va_K D KL (TY cI cB) s) (hP : va_P D KL [(r0, .inl (cI, 6, .inl f))] H)
    (kk : ∀ ls : Array Slot, lv_has ls 6 [(4, .int 6), (1, .int (y_howManyFull f (6))), (2, .ref r0), (3, .int 6)] → W p l e R s m args below meth c H locs cells slots Q (F0 m 36 ls [])) : ∀ (j i : Nat), i + j = 6 → ∀ ls : Array Slot, lv_has ls 6 [(4, .int (nI i)), (1, .int (y_howManyFull f (i))), (2, .ref r0), (3, .int 6)] → W p l e R s m args below meth c H locs cells slots Q (F0 m 10 ls []) := by
  intro j
  induction j with
  | zero =>
    intro i hij ls hl
    obtain rfl : i = 6 := by omega
    have hl : lv_has ls 6 [(4, .int 6), (1, .int (y_howManyFull f (6))), (2, .ref r0), (3, .int 6)] := hl
    refine lv_iload FX.1 FX.2.1 dX0_howManyFull_10 (lv_at hl 0 rfl) ?_
    refine lv_iload_n FX.1 FX.2.1 dX0_howManyFull_12 rfl (lv_at hl 3 rfl) ?_
    refine lv_icmp_ge (tgt := 36) FX.1 FX.2.1 dX0_howManyFull_13 (by decide) (fun c_101 => ?_) (fun c_101 => ?_)
    · exact kk ls (lv_sub hl [0, 1, 2, 3] rfl)
    · exact absurd c_101 (by decide)
  | succ j ih =>
    intro i hij ls hl
    have hlt : i < 6 := by omega
    refine lv_iload FX.1 FX.2.1 dX0_howManyFull_10 (lv_at hl 0 rfl) ?_
    refine lv_iload_n FX.1 FX.2.1 dX0_howManyFull_12 rfl (lv_at hl 3 rfl) ?_
    refine lv_icmp_ge (tgt := 36) FX.1 FX.2.1 dX0_howManyFull_13 (by decide) (fun c_1 => ?_) (fun c_1 => ?_)
    · exact absurd c_1 (nI_ge (b := 6) hlt (by decide))
    · refine lv_aload_n FX.1 FX.2.1 dX0_howManyFull_16 rfl (lv_at hl 2 rfl) ?_
      refine lv_iload FX.1 FX.2.1 dX0_howManyFull_17 (lv_at hl 0 rfl) ?_
      refine p_iald (v := f i) FX hK hP 0 rfl (vp_in_nI hlt (by decide)) dX0_howManyFull_19 (congrArg f (nI_clamp (by omega))) ?_
      refine lv_istore (lv' := [(5, .int (f i)), (4, .int (nI i)), (1, .int (y_howManyFull f (i))), (2, .ref r0), (3, .int 6)]) FX.1 FX.2.1 dX0_howManyFull_20 hl (by decide) rfl (fun ls hl => ?_)
      refine lv_iload_n FX.1 FX.2.1 dX0_howManyFull_22 rfl (lv_at hl 2 rfl) ?_
      refine lv_iload FX.1 FX.2.1 dX0_howManyFull_23 (lv_at hl 0 rfl) ?_
      refine c_RDs FX (r_X0_fullness l D cI cB (f i)) mi_X0_fullness rfl ml_RX0_30 (RMk.mk hRf hRl) hl.1 rfl (Nat.le_of_ble_eq_true rfl) dX0_howManyFull_25 hf hK hP [] rfl ?_
      refine lv_iadd FX.1 FX.2.1 dX0_howManyFull_28 ?_
      refine lv_istore_n (lv' := [(1, .int ((y_howManyFull f (i)) + (v_X0_fullness (f i)))), (5, .int (f i)), (4, .int (nI i)), (2, .ref r0), (3, .int 6)]) FX.1 FX.2.1 dX0_howManyFull_29 rfl hl (by decide) rfl (fun ls hl => ?_)
      refine lv_iinc (v := nI (i + 1)) (lv' := [(4, .int (nI (i + 1))), (1, .int ((y_howManyFull f (i)) + (v_X0_fullness (f i)))), (5, .int (f i)), (2, .ref r0), (3, .int 6)]) FX.1 FX.2.1 dX0_howManyFull_30 hl (k := 2) rfl (by exact nI_1 _) (by decide) rfl (fun ls hl => ?_)
      refine lv_goto (tgt := 10) FX.1 FX.2.1 dX0_howManyFull_33 (by decide) ?_
      exact ih (i + 1) (by omega) ls (lv_sub hl [0, 1, 3, 4] rfl)
def v_X0_howManyFull_6 (f : Nat → Int32) : Int32 := y_howManyFull f (6)
set_option maxRecDepth 100000 in
set_option maxHeartbeats 4000000 in
theorem r_X0_howManyFull_6 (l : Launch) (D : va_G) (cI cB : ClassId) (r0 : Nat) (f : Nat → Int32) : RD l yX0_howManyFull cX0_howManyFull 6 (some .int) ({ frames := 1, cells := 0, slots := 0, locals := 20 } : Room) D cI cB [.ref r0] [(r0, .inl (cI, 6, .inl f))] (v_X0_howManyFull_6 f) := by
  refine bodyRD (by decide +kernel) (Nat.le_of_ble_eq_true rfl) (fun p e s m args below meth c ls FX hr hlk hK hP hl => ?_)
  have hl : lv_has ls 6 [(0, .ref r0)] := hl
  refine lv_iconst (v := 0) FX.1 FX.2.1 dX0_howManyFull_0 (by decide) ?_
  refine lv_istore_n (lv' := [(1, .int 0), (0, .ref r0)]) FX.1 FX.2.1 dX0_howManyFull_1 rfl hl (by decide) rfl (fun ls hl => ?_)
  refine lv_aload_n FX.1 FX.2.1 dX0_howManyFull_2 rfl (lv_at hl 1 rfl) ?_
  refine lv_astore_n (lv' := [(2, .ref r0), (1, .int 0), (0, .ref r0)]) FX.1 FX.2.1 dX0_howManyFull_3 rfl hl (by decide) rfl (fun ls hl => ?_)
  refine lv_aload_n FX.1 FX.2.1 dX0_howManyFull_4 rfl (lv_at hl 0 rfl) ?_
  refine va_alen FX.1 FX.2.1 hK hP 0 0 rfl rfl (v := 6) (by rfl) dX0_howManyFull_5 ?_
  refine lv_istore_n (lv' := [(3, .int 6), (2, .ref r0), (1, .int 0), (0, .ref r0)]) FX.1 FX.2.1 dX0_howManyFull_6 rfl hl (by decide) rfl (fun ls hl => ?_)
  refine lv_iconst (v := 0) FX.1 FX.2.1 dX0_howManyFull_7 (by decide) ?_
  refine lv_istore (lv' := [(4, .int 0), (3, .int 6), (2, .ref r0), (1, .int 0), (0, .ref r0)]) FX.1 FX.2.1 dX0_howManyFull_8 hl (by decide) rfl (fun ls hl => ?_)
  refine L_X0_howManyFull_6 D cI cB r0 f  (Nat.le_of_ble_eq_true rfl) (Nat.le_of_ble_eq_true rfl) (by decide) FX hK hP (fun ls hl => ?_) 6 0 (by omega) ls (lv_sub hl [0, 3, 2, 1] rfl)
  refine lv_iload_n FX.1 FX.2.1 dX0_howManyFull_36 rfl (lv_at hl 1 rfl) ?_
  exact retRD FX hr hlk dX0_howManyFull_37 rfl (by rw [v_X0_howManyFull_6])
set_option maxRecDepth 100000 in
set_option maxHeartbeats 4000000 in
theorem L_X0_howManyFull_2 {p : Program} {l : Launch} {e : Env} {R : Room} {s : State} {m : MethodId} {args : Array Value} {below : List Frame} {meth : Method} {c : Code} {H : Heap} {locs : List Loc} {cells slots : Nat} {Q : State → Prop} (D : va_G) (cI cB : ClassId) (r0 : Nat) (f : Nat → Int32) (hRf : 1 ≤ R.frames) (hRl : 20 ≤ R.locals) (hf : cells ≤ R.cells ∧ slots ≤ R.slots) (FX : CallFix p m c cX0_howManyFull 6 s args bigW RX0) (hK : va_K D KL (TY cI cB) s) (hP : va_P D KL [(r0, .inl (cI, 2, .inl f))] H)
    (kk : ∀ ls : Array Slot, lv_has ls 6 [(4, .int 2), (1, .int (y_howManyFull f (2))), (2, .ref r0), (3, .int 2)] → W p l e R s m args below meth c H locs cells slots Q (F0 m 36 ls [])) : ∀ (j i : Nat), i + j = 2 → ∀ ls : Array Slot, lv_has ls 6 [(4, .int (nI i)), (1, .int (y_howManyFull f (i))), (2, .ref r0), (3, .int 2)] → W p l e R s m args below meth c H locs cells slots Q (F0 m 10 ls []) := by
  intro j
  induction j with
  | zero =>
    intro i hij ls hl
    obtain rfl : i = 2 := by omega
    have hl : lv_has ls 6 [(4, .int 2), (1, .int (y_howManyFull f (2))), (2, .ref r0), (3, .int 2)] := hl
    refine lv_iload FX.1 FX.2.1 dX0_howManyFull_10 (lv_at hl 0 rfl) ?_
    refine lv_iload_n FX.1 FX.2.1 dX0_howManyFull_12 rfl (lv_at hl 3 rfl) ?_
    refine lv_icmp_ge (tgt := 36) FX.1 FX.2.1 dX0_howManyFull_13 (by decide) (fun c_101 => ?_) (fun c_101 => ?_)
    · exact kk ls (lv_sub hl [0, 1, 2, 3] rfl)
    · exact absurd c_101 (by decide)
  | succ j ih =>
    intro i hij ls hl
    have hlt : i < 2 := by omega
    refine lv_iload FX.1 FX.2.1 dX0_howManyFull_10 (lv_at hl 0 rfl) ?_
    refine lv_iload_n FX.1 FX.2.1 dX0_howManyFull_12 rfl (lv_at hl 3 rfl) ?_
    refine lv_icmp_ge (tgt := 36) FX.1 FX.2.1 dX0_howManyFull_13 (by decide) (fun c_1 => ?_) (fun c_1 => ?_)
    · exact absurd c_1 (nI_ge (b := 2) hlt (by decide))
    · refine lv_aload_n FX.1 FX.2.1 dX0_howManyFull_16 rfl (lv_at hl 2 rfl) ?_
      refine lv_iload FX.1 FX.2.1 dX0_howManyFull_17 (lv_at hl 0 rfl) ?_
      refine p_iald (v := f i) FX hK hP 0 rfl (vp_in_nI hlt (by decide)) dX0_howManyFull_19 (congrArg f (nI_clamp (by omega))) ?_
      refine lv_istore (lv' := [(5, .int (f i)), (4, .int (nI i)), (1, .int (y_howManyFull f (i))), (2, .ref r0), (3, .int 2)]) FX.1 FX.2.1 dX0_howManyFull_20 hl (by decide) rfl (fun ls hl => ?_)
      refine lv_iload_n FX.1 FX.2.1 dX0_howManyFull_22 rfl (lv_at hl 2 rfl) ?_
      refine lv_iload FX.1 FX.2.1 dX0_howManyFull_23 (lv_at hl 0 rfl) ?_
      refine c_RDs FX (r_X0_fullness l D cI cB (f i)) mi_X0_fullness rfl ml_RX0_30 (RMk.mk hRf hRl) hl.1 rfl (Nat.le_of_ble_eq_true rfl) dX0_howManyFull_25 hf hK hP [] rfl ?_
      refine lv_iadd FX.1 FX.2.1 dX0_howManyFull_28 ?_
      refine lv_istore_n (lv' := [(1, .int ((y_howManyFull f (i)) + (v_X0_fullness (f i)))), (5, .int (f i)), (4, .int (nI i)), (2, .ref r0), (3, .int 2)]) FX.1 FX.2.1 dX0_howManyFull_29 rfl hl (by decide) rfl (fun ls hl => ?_)
      refine lv_iinc (v := nI (i + 1)) (lv' := [(4, .int (nI (i + 1))), (1, .int ((y_howManyFull f (i)) + (v_X0_fullness (f i)))), (5, .int (f i)), (2, .ref r0), (3, .int 2)]) FX.1 FX.2.1 dX0_howManyFull_30 hl (k := 2) rfl (by exact nI_1 _) (by decide) rfl (fun ls hl => ?_)
      refine lv_goto (tgt := 10) FX.1 FX.2.1 dX0_howManyFull_33 (by decide) ?_
      exact ih (i + 1) (by omega) ls (lv_sub hl [0, 1, 3, 4] rfl)
def v_X0_howManyFull_2 (f : Nat → Int32) : Int32 := y_howManyFull f (2)
set_option maxRecDepth 100000 in
set_option maxHeartbeats 4000000 in
theorem r_X0_howManyFull_2 (l : Launch) (D : va_G) (cI cB : ClassId) (r0 : Nat) (f : Nat → Int32) : RD l yX0_howManyFull cX0_howManyFull 6 (some .int) ({ frames := 1, cells := 0, slots := 0, locals := 20 } : Room) D cI cB [.ref r0] [(r0, .inl (cI, 2, .inl f))] (v_X0_howManyFull_2 f) := by
  refine bodyRD (by decide +kernel) (Nat.le_of_ble_eq_true rfl) (fun p e s m args below meth c ls FX hr hlk hK hP hl => ?_)
  have hl : lv_has ls 6 [(0, .ref r0)] := hl
  refine lv_iconst (v := 0) FX.1 FX.2.1 dX0_howManyFull_0 (by decide) ?_
  refine lv_istore_n (lv' := [(1, .int 0), (0, .ref r0)]) FX.1 FX.2.1 dX0_howManyFull_1 rfl hl (by decide) rfl (fun ls hl => ?_)
  refine lv_aload_n FX.1 FX.2.1 dX0_howManyFull_2 rfl (lv_at hl 1 rfl) ?_
  refine lv_astore_n (lv' := [(2, .ref r0), (1, .int 0), (0, .ref r0)]) FX.1 FX.2.1 dX0_howManyFull_3 rfl hl (by decide) rfl (fun ls hl => ?_)
  refine lv_aload_n FX.1 FX.2.1 dX0_howManyFull_4 rfl (lv_at hl 0 rfl) ?_
  refine va_alen FX.1 FX.2.1 hK hP 0 0 rfl rfl (v := 2) (by rfl) dX0_howManyFull_5 ?_
  refine lv_istore_n (lv' := [(3, .int 2), (2, .ref r0), (1, .int 0), (0, .ref r0)]) FX.1 FX.2.1 dX0_howManyFull_6 rfl hl (by decide) rfl (fun ls hl => ?_)
  refine lv_iconst (v := 0) FX.1 FX.2.1 dX0_howManyFull_7 (by decide) ?_
  refine lv_istore (lv' := [(4, .int 0), (3, .int 2), (2, .ref r0), (1, .int 0), (0, .ref r0)]) FX.1 FX.2.1 dX0_howManyFull_8 hl (by decide) rfl (fun ls hl => ?_)
  refine L_X0_howManyFull_2 D cI cB r0 f  (Nat.le_of_ble_eq_true rfl) (Nat.le_of_ble_eq_true rfl) (by decide) FX hK hP (fun ls hl => ?_) 2 0 (by omega) ls (lv_sub hl [0, 3, 2, 1] rfl)
  refine lv_iload_n FX.1 FX.2.1 dX0_howManyFull_36 rfl (lv_at hl 1 rfl) ?_
  exact retRD FX hr hlk dX0_howManyFull_37 rfl (by rw [v_X0_howManyFull_2])
def y_sumOfNumbers (f : Nat → Int32) : Nat → Int32
  | 0 => 0
  | n + 1 => y_sumOfNumbers f n + v_X0_numberOrZero (f n)
set_option maxRecDepth 100000 in
set_option maxHeartbeats 4000000 in
theorem L_X0_sumOfNumbers_6 {p : Program} {l : Launch} {e : Env} {R : Room} {s : State} {m : MethodId} {args : Array Value} {below : List Frame} {meth : Method} {c : Code} {H : Heap} {locs : List Loc} {cells slots : Nat} {Q : State → Prop} (D : va_G) (cI cB : ClassId) (r0 : Nat) (f : Nat → Int32) (hRf : 1 ≤ R.frames) (hRl : 20 ≤ R.locals) (hf : cells ≤ R.cells ∧ slots ≤ R.slots) (FX : CallFix p m c cX0_sumOfNumbers 6 s args bigW RX0) (hK : va_K D KL (TY cI cB) s) (hP : va_P D KL [(r0, .inl (cI, 6, .inl f))] H)
    (kk : ∀ ls : Array Slot, lv_has ls 6 [(4, .int 6), (1, .int (y_sumOfNumbers f (6))), (2, .ref r0), (3, .int 6)] → W p l e R s m args below meth c H locs cells slots Q (F0 m 36 ls [])) : ∀ (j i : Nat), i + j = 6 → ∀ ls : Array Slot, lv_has ls 6 [(4, .int (nI i)), (1, .int (y_sumOfNumbers f (i))), (2, .ref r0), (3, .int 6)] → W p l e R s m args below meth c H locs cells slots Q (F0 m 10 ls []) := by
  intro j
  induction j with
  | zero =>
    intro i hij ls hl
    obtain rfl : i = 6 := by omega
    have hl : lv_has ls 6 [(4, .int 6), (1, .int (y_sumOfNumbers f (6))), (2, .ref r0), (3, .int 6)] := hl
    refine lv_iload FX.1 FX.2.1 dX0_sumOfNumbers_10 (lv_at hl 0 rfl) ?_
    refine lv_iload_n FX.1 FX.2.1 dX0_sumOfNumbers_12 rfl (lv_at hl 3 rfl) ?_
    refine lv_icmp_ge (tgt := 36) FX.1 FX.2.1 dX0_sumOfNumbers_13 (by decide) (fun c_101 => ?_) (fun c_101 => ?_)
    · exact kk ls (lv_sub hl [0, 1, 2, 3] rfl)
    · exact absurd c_101 (by decide)
  | succ j ih =>
    intro i hij ls hl
    have hlt : i < 6 := by omega
    refine lv_iload FX.1 FX.2.1 dX0_sumOfNumbers_10 (lv_at hl 0 rfl) ?_
    refine lv_iload_n FX.1 FX.2.1 dX0_sumOfNumbers_12 rfl (lv_at hl 3 rfl) ?_
    refine lv_icmp_ge (tgt := 36) FX.1 FX.2.1 dX0_sumOfNumbers_13 (by decide) (fun c_1 => ?_) (fun c_1 => ?_)
    · exact absurd c_1 (nI_ge (b := 6) hlt (by decide))
    · refine lv_aload_n FX.1 FX.2.1 dX0_sumOfNumbers_16 rfl (lv_at hl 2 rfl) ?_
      refine lv_iload FX.1 FX.2.1 dX0_sumOfNumbers_17 (lv_at hl 0 rfl) ?_
      refine p_iald (v := f i) FX hK hP 0 rfl (vp_in_nI hlt (by decide)) dX0_sumOfNumbers_19 (congrArg f (nI_clamp (by omega))) ?_
      refine lv_istore (lv' := [(5, .int (f i)), (4, .int (nI i)), (1, .int (y_sumOfNumbers f (i))), (2, .ref r0), (3, .int 6)]) FX.1 FX.2.1 dX0_sumOfNumbers_20 hl (by decide) rfl (fun ls hl => ?_)
      refine lv_iload_n FX.1 FX.2.1 dX0_sumOfNumbers_22 rfl (lv_at hl 2 rfl) ?_
      refine lv_iload FX.1 FX.2.1 dX0_sumOfNumbers_23 (lv_at hl 0 rfl) ?_
      refine c_RDs FX (r_X0_numberOrZero l D cI cB (f i)) mi_X0_numberOrZero rfl ml_RX0_82 (RMk.mk hRf hRl) hl.1 rfl (Nat.le_of_ble_eq_true rfl) dX0_sumOfNumbers_25 hf hK hP [] rfl ?_
      refine lv_iadd FX.1 FX.2.1 dX0_sumOfNumbers_28 ?_
      refine lv_istore_n (lv' := [(1, .int ((y_sumOfNumbers f (i)) + (v_X0_numberOrZero (f i)))), (5, .int (f i)), (4, .int (nI i)), (2, .ref r0), (3, .int 6)]) FX.1 FX.2.1 dX0_sumOfNumbers_29 rfl hl (by decide) rfl (fun ls hl => ?_)
      refine lv_iinc (v := nI (i + 1)) (lv' := [(4, .int (nI (i + 1))), (1, .int ((y_sumOfNumbers f (i)) + (v_X0_numberOrZero (f i)))), (5, .int (f i)), (2, .ref r0), (3, .int 6)]) FX.1 FX.2.1 dX0_sumOfNumbers_30 hl (k := 2) rfl (by exact nI_1 _) (by decide) rfl (fun ls hl => ?_)
      refine lv_goto (tgt := 10) FX.1 FX.2.1 dX0_sumOfNumbers_33 (by decide) ?_
      exact ih (i + 1) (by omega) ls (lv_sub hl [0, 1, 3, 4] rfl)
def v_X0_sumOfNumbers_6 (f : Nat → Int32) : Int32 := y_sumOfNumbers f (6)
set_option maxRecDepth 100000 in
set_option maxHeartbeats 4000000 in
theorem r_X0_sumOfNumbers_6 (l : Launch) (D : va_G) (cI cB : ClassId) (r0 : Nat) (f : Nat → Int32) : RD l yX0_sumOfNumbers cX0_sumOfNumbers 6 (some .int) ({ frames := 1, cells := 0, slots := 0, locals := 20 } : Room) D cI cB [.ref r0] [(r0, .inl (cI, 6, .inl f))] (v_X0_sumOfNumbers_6 f) := by
  refine bodyRD (by decide +kernel) (Nat.le_of_ble_eq_true rfl) (fun p e s m args below meth c ls FX hr hlk hK hP hl => ?_)
  have hl : lv_has ls 6 [(0, .ref r0)] := hl
  refine lv_iconst (v := 0) FX.1 FX.2.1 dX0_sumOfNumbers_0 (by decide) ?_
  refine lv_istore_n (lv' := [(1, .int 0), (0, .ref r0)]) FX.1 FX.2.1 dX0_sumOfNumbers_1 rfl hl (by decide) rfl (fun ls hl => ?_)
  refine lv_aload_n FX.1 FX.2.1 dX0_sumOfNumbers_2 rfl (lv_at hl 1 rfl) ?_
  refine lv_astore_n (lv' := [(2, .ref r0), (1, .int 0), (0, .ref r0)]) FX.1 FX.2.1 dX0_sumOfNumbers_3 rfl hl (by decide) rfl (fun ls hl => ?_)
  refine lv_aload_n FX.1 FX.2.1 dX0_sumOfNumbers_4 rfl (lv_at hl 0 rfl) ?_
  refine va_alen FX.1 FX.2.1 hK hP 0 0 rfl rfl (v := 6) (by rfl) dX0_sumOfNumbers_5 ?_
  refine lv_istore_n (lv' := [(3, .int 6), (2, .ref r0), (1, .int 0), (0, .ref r0)]) FX.1 FX.2.1 dX0_sumOfNumbers_6 rfl hl (by decide) rfl (fun ls hl => ?_)
  refine lv_iconst (v := 0) FX.1 FX.2.1 dX0_sumOfNumbers_7 (by decide) ?_
  refine lv_istore (lv' := [(4, .int 0), (3, .int 6), (2, .ref r0), (1, .int 0), (0, .ref r0)]) FX.1 FX.2.1 dX0_sumOfNumbers_8 hl (by decide) rfl (fun ls hl => ?_)
  refine L_X0_sumOfNumbers_6 D cI cB r0 f  (Nat.le_of_ble_eq_true rfl) (Nat.le_of_ble_eq_true rfl) (by decide) FX hK hP (fun ls hl => ?_) 6 0 (by omega) ls (lv_sub hl [0, 3, 2, 1] rfl)
  refine lv_iload_n FX.1 FX.2.1 dX0_sumOfNumbers_36 rfl (lv_at hl 1 rfl) ?_
  exact retRD FX hr hlk dX0_sumOfNumbers_37 rfl (by rw [v_X0_sumOfNumbers_6])
set_option maxRecDepth 100000 in
set_option maxHeartbeats 4000000 in
theorem L_X0_areTurnsSound_7 {p : Program} {l : Launch} {e : Env} {R : Room} {s : State} {m : MethodId} {args : Array Value} {below : List Frame} {meth : Method} {c : Code} {H : Heap} {locs : List Loc} {cells slots : Nat} {Q : State → Prop} (D : va_G) (cI cB : ClassId) (x bx px tx : Nat) (f g : Nat → Int32) (ak su gt lf rf kn : Int32) (v1 : Int32) (hRf : 3 ≤ R.frames) (hRl : 68 ≤ R.locals) (hf : cells ≤ R.cells ∧ slots ≤ R.slots) (FX : CallFix p m c cX0_areTurnsSound 4 s args bigW RX0) (hK : va_K D KL (TY cI cB) s) (hP : va_P D KL (wX cI x bx px tx f g ak su gt lf rf kn) H)
    (kk : ∀ ls : Array Slot, lv_has ls 4 [(3, .int 5), (0, .ref x), (1, .int v1), (2, .int (v_X0_numberOrZero v1))] → W p l e R s m args below meth c H locs cells slots Q (F0 m 40 ls [])) : ∀ (j i : Nat), i + j = 5 → ∀ ls : Array Slot, lv_has ls 4 [(3, .int (nI i)), (0, .ref x), (1, .int v1), (2, .int (v_X0_numberOrZero v1))] → W p l e R s m args below meth c H locs cells slots Q (F0 m 7 ls []) := by
  intro j
  induction j with
  | zero =>
    intro i hij ls hl
    obtain rfl : i = 5 := by omega
    have hl : lv_has ls 4 [(3, .int 5), (0, .ref x), (1, .int v1), (2, .int (v_X0_numberOrZero v1))] := hl
    refine lv_iload_n FX.1 FX.2.1 dX0_areTurnsSound_7 rfl (lv_at hl 0 rfl) ?_
    refine lv_iconst (v := 5) FX.1 FX.2.1 dX0_areTurnsSound_8 (by decide) ?_
    refine lv_icmp_ge (tgt := 40) FX.1 FX.2.1 dX0_areTurnsSound_9 (by decide) (fun c_101 => ?_) (fun c_101 => ?_)
    · exact kk ls (lv_sub hl [0, 1, 2, 3] rfl)
    · exact absurd c_101 (by decide)
  | succ j ih =>
    intro i hij ls hl
    have hlt : i < 5 := by omega
    refine lv_iload_n FX.1 FX.2.1 dX0_areTurnsSound_7 rfl (lv_at hl 0 rfl) ?_
    refine lv_iconst (v := 5) FX.1 FX.2.1 dX0_areTurnsSound_8 (by decide) ?_
    refine lv_icmp_ge (tgt := 40) FX.1 FX.2.1 dX0_areTurnsSound_9 (by decide) (fun c_1 => ?_) (fun c_1 => ?_)
    · exact absurd c_1 (nI_ge (b := 5) hlt (by decide))
    · refine lv_aload_n FX.1 FX.2.1 dX0_areTurnsSound_12 rfl (lv_at hl 1 rfl) ?_
      refine lv_iload_n FX.1 FX.2.1 dX0_areTurnsSound_13 rfl (lv_at hl 3 rfl) ?_
      refine lv_iload_n FX.1 FX.2.1 dX0_areTurnsSound_14 rfl (lv_at hl 0 rfl) ?_
      refine lv_iconst (v := 3) FX.1 FX.2.1 dX0_areTurnsSound_15 (by decide) ?_
      refine c_RDV (i0 := 0) (ci := 2) FX (r_X0_turned l D cI cB x bx px tx f g ak su gt lf rf kn (v_X0_numberOrZero v1) (nI i) 3) mi_X0_turned rfl ml_RX0_46 (RMk.mk hRf hRl) hl.1 rfl (Nat.le_of_ble_eq_true rfl) dX0_areTurnsSound_16 hf hK hP [0, 1, 2] rfl rfl rfl rfl ?_
      refine lv_aload_n FX.1 FX.2.1 dX0_areTurnsSound_19 rfl (lv_at hl 1 rfl) ?_
      refine lv_iload_n FX.1 FX.2.1 dX0_areTurnsSound_20 rfl (lv_at hl 0 rfl) ?_
      refine lv_iload_n FX.1 FX.2.1 dX0_areTurnsSound_21 rfl (lv_at hl 3 rfl) ?_
      refine lv_iconst (v := 3) FX.1 FX.2.1 dX0_areTurnsSound_22 (by decide) ?_
      refine c_RDV (i0 := 0) (ci := 2) FX (r_X0_turnMakes l D cI cB x bx px tx f g ak su gt lf rf kn (nI i) (v_X0_numberOrZero v1) 3) mi_X0_turnMakes rfl ml_RX0_191 (RMk.mk hRf hRl) hl.1 rfl (Nat.le_of_ble_eq_true rfl) dX0_areTurnsSound_23 hf hK hP [0, 1, 2] rfl rfl rfl rfl ?_
      refine c_RDs FX (r_X0_alike l D cI cB (v_X0_turned (v_X0_numberOrZero v1) (nI i) 3 f) (v_X0_turnMakes (nI i) (v_X0_numberOrZero v1) 3 f)) mi_X0_alike rfl ml_RX0_78 (RMk.mk hRf hRl) hl.1 rfl (Nat.le_of_ble_eq_true rfl) dX0_areTurnsSound_26 hf hK hP [] rfl ?_
      refine lv_if_ne (tgt := 34) FX.1 FX.2.1 dX0_areTurnsSound_29 (by decide) (fun c_2 => ?_) (fun c_2 => ?_)
      · refine lv_iinc (v := nI (i + 1)) (lv' := [(3, .int (nI (i + 1))), (0, .ref x), (1, .int v1), (2, .int (v_X0_numberOrZero v1))]) FX.1 FX.2.1 dX0_areTurnsSound_34 hl (k := 0) rfl (by exact nI_1 _) (by decide) rfl (fun ls hl => ?_)
        refine lv_goto (tgt := 7) FX.1 FX.2.1 dX0_areTurnsSound_37 (by decide) ?_
        exact ih (i + 1) (by omega) ls (lv_sub hl [0, 1, 2, 3] rfl)
      · exact absurd c_2 (snd1 _ _ _)
def v_X0_areTurnsSound (v1 : Int32) (f : Nat → Int32) : Int32 := v_X0_alike (v_X0_turned v1 4 3 f) v1
set_option maxRecDepth 100000 in
set_option maxHeartbeats 4000000 in
theorem r_X0_areTurnsSound (l : Launch) (D : va_G) (cI cB : ClassId) (x bx px tx : Nat) (f g : Nat → Int32) (ak su gt lf rf kn : Int32) (v1 : Int32) : RD l yX0_areTurnsSound cX0_areTurnsSound 4 (some .boolean) ({ frames := 3, cells := 0, slots := 0, locals := 68 } : Room) D cI cB [.ref x, .int v1] (wX cI x bx px tx f g ak su gt lf rf kn) (v_X0_areTurnsSound v1 f) := by
  refine bodyRD (by decide +kernel) (Nat.le_of_ble_eq_true rfl) (fun p e s m args below meth c ls FX hr hlk hK hP hl => ?_)
  have hl : lv_has ls 4 [(0, .ref x), (1, .int v1)] := hl
  refine lv_iload_n FX.1 FX.2.1 dX0_areTurnsSound_0 rfl (lv_at hl 1 rfl) ?_
  refine c_RDs FX (r_X0_numberOrZero l D cI cB v1) mi_X0_numberOrZero rfl ml_RX0_82 (RMok.mk) hl.1 rfl (Nat.le_of_ble_eq_true rfl) dX0_areTurnsSound_1 (by decide) hK hP [] rfl ?_
  refine lv_istore_n (lv' := [(2, .int (v_X0_numberOrZero v1)), (0, .ref x), (1, .int v1)]) FX.1 FX.2.1 dX0_areTurnsSound_4 rfl hl (by decide) rfl (fun ls hl => ?_)
  refine lv_iconst (v := 0) FX.1 FX.2.1 dX0_areTurnsSound_5 (by decide) ?_
  refine lv_istore_n (lv' := [(3, .int 0), (2, .int (v_X0_numberOrZero v1)), (0, .ref x), (1, .int v1)]) FX.1 FX.2.1 dX0_areTurnsSound_6 rfl hl (by decide) rfl (fun ls hl => ?_)
  refine L_X0_areTurnsSound_7 D cI cB x bx px tx f g ak su gt lf rf kn v1  (Nat.le_of_ble_eq_true rfl) (Nat.le_of_ble_eq_true rfl) (by decide) FX hK hP (fun ls hl => ?_) 5 0 (by omega) ls (lv_sub hl [0, 2, 3, 1] rfl)
  refine lv_aload_n FX.1 FX.2.1 dX0_areTurnsSound_40 rfl (lv_at hl 1 rfl) ?_
  refine lv_iload_n FX.1 FX.2.1 dX0_areTurnsSound_41 rfl (lv_at hl 2 rfl) ?_
  refine lv_iconst (v := 4) FX.1 FX.2.1 dX0_areTurnsSound_42 (by decide) ?_
  refine lv_iconst (v := 3) FX.1 FX.2.1 dX0_areTurnsSound_43 (by decide) ?_
  refine c_RDV (i0 := 0) (ci := 2) FX (r_X0_turned l D cI cB x bx px tx f g ak su gt lf rf kn v1 4 3) mi_X0_turned rfl ml_RX0_46 (RMok.mk) hl.1 rfl (Nat.le_of_ble_eq_true rfl) dX0_areTurnsSound_44 (by decide) hK hP [0, 1, 2] rfl rfl rfl rfl ?_
  refine lv_iload_n FX.1 FX.2.1 dX0_areTurnsSound_47 rfl (lv_at hl 2 rfl) ?_
  refine c_RDs FX (r_X0_alike l D cI cB (v_X0_turned v1 4 3 f) v1) mi_X0_alike rfl ml_RX0_78 (RMok.mk) hl.1 rfl (Nat.le_of_ble_eq_true rfl) dX0_areTurnsSound_48 (by decide) hK hP [] rfl ?_
  exact retRD FX hr hlk dX0_areTurnsSound_51 (nz (b01_v_X0_alike _ _)) (by rw [v_X0_areTurnsSound])
theorem b01_v_X0_areTurnsSound (v1 : Int32) (f : Nat → Int32) : is01 (v_X0_areTurnsSound v1 f) := by
  unfold v_X0_areTurnsSound
  repeat' split
  all_goals first | with_reducible exact b01_v_X0_alike _ _ | exact Or.inl rfl | exact Or.inr rfl
set_option maxRecDepth 100000 in
set_option maxHeartbeats 4000000 in
theorem L_X0_areChainsSound_18 {p : Program} {l : Launch} {e : Env} {R : Room} {s : State} {m : MethodId} {args : Array Value} {below : List Frame} {meth : Method} {c : Code} {H : Heap} {locs : List Loc} {cells slots : Nat} {Q : State → Prop} (D : va_G) (cI cB : ClassId) (x bx px tx : Nat) (f g : Nat → Int32) (ak su gt lf rf kn : Int32) (v1 : Int32) (i : Nat) (hlt0 : i < 5) (hRf : 4 ≤ R.frames) (hRl : 91 ≤ R.locals) (hf : cells ≤ R.cells ∧ slots ≤ R.slots) (FX : CallFix p m c cX0_areChainsSound 5 s args bigW RX0) (hK : va_K D KL (TY cI cB) s) (hP : va_P D KL (wX cI x bx px tx f g ak su gt lf rf kn) H)
    (kk : ∀ ls : Array Slot, lv_has ls 5 [(4, .int 5), (0, .ref x), (1, .int v1), (2, .int (nI i)), (3, .int (v_X0_turned v1 (nI i) 3 f))] → W p l e R s m args below meth c H locs cells slots Q (F0 m 54 ls [])) : ∀ (j k : Nat), k + j = 5 → ∀ ls : Array Slot, lv_has ls 5 [(4, .int (nI k)), (0, .ref x), (1, .int v1), (2, .int (nI i)), (3, .int (v_X0_turned v1 (nI i) 3 f))] → W p l e R s m args below meth c H locs cells slots Q (F0 m 18 ls []) := by
  intro j
  induction j with
  | zero =>
    intro k hij ls hl
    obtain rfl : k = 5 := by omega
    have hl : lv_has ls 5 [(4, .int 5), (0, .ref x), (1, .int v1), (2, .int (nI i)), (3, .int (v_X0_turned v1 (nI i) 3 f))] := hl
    refine lv_iload FX.1 FX.2.1 dX0_areChainsSound_18 (lv_at hl 0 rfl) ?_
    refine lv_iconst (v := 5) FX.1 FX.2.1 dX0_areChainsSound_20 (by decide) ?_
    refine lv_icmp_ge (tgt := 54) FX.1 FX.2.1 dX0_areChainsSound_21 (by decide) (fun c_101 => ?_) (fun c_101 => ?_)
    · exact kk ls (lv_sub hl [0, 1, 2, 3, 4] rfl)
    · exact absurd c_101 (by decide)
  | succ j ih =>
    intro k hij ls hl
    have hlt : k < 5 := by omega
    refine lv_iload FX.1 FX.2.1 dX0_areChainsSound_18 (lv_at hl 0 rfl) ?_
    refine lv_iconst (v := 5) FX.1 FX.2.1 dX0_areChainsSound_20 (by decide) ?_
    refine lv_icmp_ge (tgt := 54) FX.1 FX.2.1 dX0_areChainsSound_21 (by decide) (fun c_1 => ?_) (fun c_1 => ?_)
    · exact absurd c_1 (nI_ge (b := 5) hlt (by decide))
    · refine lv_aload_n FX.1 FX.2.1 dX0_areChainsSound_24 rfl (lv_at hl 1 rfl) ?_
      refine lv_iload_n FX.1 FX.2.1 dX0_areChainsSound_25 rfl (lv_at hl 4 rfl) ?_
      refine lv_iload FX.1 FX.2.1 dX0_areChainsSound_26 (lv_at hl 0 rfl) ?_
      refine lv_iconst (v := 3) FX.1 FX.2.1 dX0_areChainsSound_28 (by decide) ?_
      refine c_RDV (i0 := 0) (ci := 2) FX (r_X0_turned l D cI cB x bx px tx f g ak su gt lf rf kn (v_X0_turned v1 (nI i) 3 f) (nI k) 3) mi_X0_turned rfl ml_RX0_46 (RMk.mk hRf hRl) hl.1 rfl (Nat.le_of_ble_eq_true rfl) dX0_areChainsSound_29 hf hK hP [0, 1, 2] rfl rfl rfl rfl ?_
      refine lv_aload_n FX.1 FX.2.1 dX0_areChainsSound_32 rfl (lv_at hl 1 rfl) ?_
      refine lv_iload_n FX.1 FX.2.1 dX0_areChainsSound_33 rfl (lv_at hl 2 rfl) ?_
      refine lv_iload_n FX.1 FX.2.1 dX0_areChainsSound_34 rfl (lv_at hl 3 rfl) ?_
      refine lv_iload FX.1 FX.2.1 dX0_areChainsSound_35 (lv_at hl 0 rfl) ?_
      refine c_RDV (i0 := 0) (ci := 2) FX (r_X0_turnedByBoth l D cI cB x bx px tx f g ak su gt lf rf kn v1 (nI i) (nI k)) mi_X0_turnedByBoth rfl ml_RX0_210 (RMk.mk hRf hRl) hl.1 rfl (Nat.le_of_ble_eq_true rfl) dX0_areChainsSound_37 hf hK hP [0, 1, 2] rfl rfl rfl rfl ?_
      refine c_RDs FX (r_X0_alike l D cI cB (v_X0_turned (v_X0_turned v1 (nI i) 3 f) (nI k) 3 f) (v_X0_turnedByBoth v1 (nI i) (nI k) f)) mi_X0_alike rfl ml_RX0_78 (RMk.mk hRf hRl) hl.1 rfl (Nat.le_of_ble_eq_true rfl) dX0_areChainsSound_40 hf hK hP [] rfl ?_
      refine lv_if_ne (tgt := 48) FX.1 FX.2.1 dX0_areChainsSound_43 (by decide) (fun c_2 => ?_) (fun c_2 => ?_)
      · refine lv_iinc (v := nI (k + 1)) (lv' := [(4, .int (nI (k + 1))), (0, .ref x), (1, .int v1), (2, .int (nI i)), (3, .int (v_X0_turned v1 (nI i) 3 f))]) FX.1 FX.2.1 dX0_areChainsSound_48 hl (k := 0) rfl (by exact nI_1 _) (by decide) rfl (fun ls hl => ?_)
        refine lv_goto (tgt := 18) FX.1 FX.2.1 dX0_areChainsSound_51 (by decide) ?_
        exact ih (k + 1) (by omega) ls (lv_sub hl [0, 1, 2, 3, 4] rfl)
      · exact absurd c_2 (snd2 _ _ _ _)
set_option maxRecDepth 100000 in
set_option maxHeartbeats 4000000 in
theorem L_X0_areChainsSound_2 {p : Program} {l : Launch} {e : Env} {R : Room} {s : State} {m : MethodId} {args : Array Value} {below : List Frame} {meth : Method} {c : Code} {H : Heap} {locs : List Loc} {cells slots : Nat} {Q : State → Prop} (D : va_G) (cI cB : ClassId) (x bx px tx : Nat) (f g : Nat → Int32) (ak su gt lf rf kn : Int32) (v1 : Int32) (hRf : 4 ≤ R.frames) (hRl : 91 ≤ R.locals) (hf : cells ≤ R.cells ∧ slots ≤ R.slots) (FX : CallFix p m c cX0_areChainsSound 5 s args bigW RX0) (hK : va_K D KL (TY cI cB) s) (hP : va_P D KL (wX cI x bx px tx f g ak su gt lf rf kn) H)
    (kk : ∀ ls : Array Slot, lv_has ls 5 [(2, .int 5), (0, .ref x), (1, .int v1)] → W p l e R s m args below meth c H locs cells slots Q (F0 m 60 ls [])) : ∀ (j i : Nat), i + j = 5 → ∀ ls : Array Slot, lv_has ls 5 [(2, .int (nI i)), (0, .ref x), (1, .int v1)] → W p l e R s m args below meth c H locs cells slots Q (F0 m 2 ls []) := by
  intro j
  induction j with
  | zero =>
    intro i hij ls hl
    obtain rfl : i = 5 := by omega
    have hl : lv_has ls 5 [(2, .int 5), (0, .ref x), (1, .int v1)] := hl
    refine lv_iload_n FX.1 FX.2.1 dX0_areChainsSound_2 rfl (lv_at hl 0 rfl) ?_
    refine lv_iconst (v := 5) FX.1 FX.2.1 dX0_areChainsSound_3 (by decide) ?_
    refine lv_icmp_ge (tgt := 60) FX.1 FX.2.1 dX0_areChainsSound_4 (by decide) (fun c_101 => ?_) (fun c_101 => ?_)
    · exact kk ls (lv_sub hl [0, 1, 2] rfl)
    · exact absurd c_101 (by decide)
  | succ j ih =>
    intro i hij ls hl
    have hlt : i < 5 := by omega
    refine lv_iload_n FX.1 FX.2.1 dX0_areChainsSound_2 rfl (lv_at hl 0 rfl) ?_
    refine lv_iconst (v := 5) FX.1 FX.2.1 dX0_areChainsSound_3 (by decide) ?_
    refine lv_icmp_ge (tgt := 60) FX.1 FX.2.1 dX0_areChainsSound_4 (by decide) (fun c_1 => ?_) (fun c_1 => ?_)
    · exact absurd c_1 (nI_ge (b := 5) hlt (by decide))
    · refine lv_aload_n FX.1 FX.2.1 dX0_areChainsSound_7 rfl (lv_at hl 1 rfl) ?_
      refine lv_iload_n FX.1 FX.2.1 dX0_areChainsSound_8 rfl (lv_at hl 2 rfl) ?_
      refine lv_iload_n FX.1 FX.2.1 dX0_areChainsSound_9 rfl (lv_at hl 0 rfl) ?_
      refine lv_iconst (v := 3) FX.1 FX.2.1 dX0_areChainsSound_10 (by decide) ?_
      refine c_RDV (i0 := 0) (ci := 2) FX (r_X0_turned l D cI cB x bx px tx f g ak su gt lf rf kn v1 (nI i) 3) mi_X0_turned rfl ml_RX0_46 (RMk.mk hRf hRl) hl.1 rfl (Nat.le_of_ble_eq_true rfl) dX0_areChainsSound_11 hf hK hP [0, 1, 2] rfl rfl rfl rfl ?_
      refine lv_istore_n (lv' := [(3, .int (v_X0_turned v1 (nI i) 3 f)), (2, .int (nI i)), (0, .ref x), (1, .int v1)]) FX.1 FX.2.1 dX0_areChainsSound_14 rfl hl (by decide) rfl (fun ls hl => ?_)
      refine lv_iconst (v := 0) FX.1 FX.2.1 dX0_areChainsSound_15 (by decide) ?_
      refine lv_istore (lv' := [(4, .int 0), (3, .int (v_X0_turned v1 (nI i) 3 f)), (2, .int (nI i)), (0, .ref x), (1, .int v1)]) FX.1 FX.2.1 dX0_areChainsSound_16 hl (by decide) rfl (fun ls hl => ?_)
      refine L_X0_areChainsSound_18 D cI cB x bx px tx f g ak su gt lf rf kn v1 i hlt  (Nat.le_trans (Nat.le_of_ble_eq_true rfl) hRf) (Nat.le_trans (Nat.le_of_ble_eq_true rfl) hRl) hf FX hK hP (fun ls hl => ?_) 5 0 (by omega) ls (lv_sub hl [0, 3, 4, 2, 1] rfl)
      refine lv_iinc (v := nI (i + 1)) (lv' := [(2, .int (nI (i + 1))), (4, .int 5), (0, .ref x), (1, .int v1), (3, .int (v_X0_turned v1 (nI i) 3 f))]) FX.1 FX.2.1 dX0_areChainsSound_54 hl (k := 3) rfl (by exact nI_1 _) (by decide) rfl (fun ls hl => ?_)
      refine lv_goto (tgt := 2) FX.1 FX.2.1 dX0_areChainsSound_57 (by decide) ?_
      exact ih (i + 1) (by omega) ls (lv_sub hl [0, 2, 3] rfl)
def v_X0_areChainsSound  : Int32 := 1
set_option maxRecDepth 100000 in
set_option maxHeartbeats 4000000 in
theorem r_X0_areChainsSound (l : Launch) (D : va_G) (cI cB : ClassId) (x bx px tx : Nat) (f g : Nat → Int32) (ak su gt lf rf kn : Int32) (v1 : Int32) : RD l yX0_areChainsSound cX0_areChainsSound 5 (some .boolean) ({ frames := 4, cells := 0, slots := 0, locals := 91 } : Room) D cI cB [.ref x, .int v1] (wX cI x bx px tx f g ak su gt lf rf kn) v_X0_areChainsSound := by
  refine bodyRD (by decide +kernel) (Nat.le_of_ble_eq_true rfl) (fun p e s m args below meth c ls FX hr hlk hK hP hl => ?_)
  have hl : lv_has ls 5 [(0, .ref x), (1, .int v1)] := hl
  refine lv_iconst (v := 0) FX.1 FX.2.1 dX0_areChainsSound_0 (by decide) ?_
  refine lv_istore_n (lv' := [(2, .int 0), (0, .ref x), (1, .int v1)]) FX.1 FX.2.1 dX0_areChainsSound_1 rfl hl (by decide) rfl (fun ls hl => ?_)
  refine L_X0_areChainsSound_2 D cI cB x bx px tx f g ak su gt lf rf kn v1  (Nat.le_of_ble_eq_true rfl) (Nat.le_of_ble_eq_true rfl) (by decide) FX hK hP (fun ls hl => ?_) 5 0 (by omega) ls (lv_sub hl [0, 1, 2] rfl)
  refine lv_iconst (v := 1) FX.1 FX.2.1 dX0_areChainsSound_60 (by decide) ?_
  exact retRD FX hr hlk dX0_areChainsSound_61 rfl (by rw [v_X0_areChainsSound])
theorem b01_v_X0_areChainsSound  : is01 v_X0_areChainsSound := by
  unfold v_X0_areChainsSound
  repeat' split
  all_goals first | exact Or.inl rfl | exact Or.inr rfl
set_option maxRecDepth 100000 in
set_option maxHeartbeats 4000000 in
theorem L_X0_areRulesSound_2 {p : Program} {l : Launch} {e : Env} {R : Room} {s : State} {m : MethodId} {args : Array Value} {below : List Frame} {meth : Method} {c : Code} {H : Heap} {locs : List Loc} {cells slots : Nat} {Q : State → Prop} (D : va_G) (cI cB : ClassId) (v1 : Int32) (hv : okc v1) (hRf : 4 ≤ R.frames) (hRl : 84 ≤ R.locals) (hf : cells ≤ R.cells ∧ slots ≤ R.slots) (FX : CallFix p m c cX0_areRulesSound 2 s args bigW RX0) (hK : va_K D KL (TY cI cB) s) (hP : va_P D KL [] H)
    (kk : ∀ ls : Array Slot, lv_has ls 2 [(1, .int 6), (0, .int v1)] → W p l e R s m args below meth c H locs cells slots Q (F0 m 33 ls [])) : ∀ (j i : Nat), i + j = 6 → ∀ ls : Array Slot, lv_has ls 2 [(1, .int (nI i)), (0, .int v1)] → W p l e R s m args below meth c H locs cells slots Q (F0 m 2 ls []) := by
  intro j
  induction j with
  | zero =>
    intro i hij ls hl
    obtain rfl : i = 6 := by omega
    have hl : lv_has ls 2 [(1, .int 6), (0, .int v1)] := hl
    refine lv_iload_n FX.1 FX.2.1 dX0_areRulesSound_2 rfl (lv_at hl 0 rfl) ?_
    refine lv_bipush (v := 6) FX.1 FX.2.1 dX0_areRulesSound_3 (by decide) ?_
    refine lv_icmp_ge (tgt := 33) FX.1 FX.2.1 dX0_areRulesSound_5 (by decide) (fun c_101 => ?_) (fun c_101 => ?_)
    · exact kk ls (lv_sub hl [0, 1] rfl)
    · exact absurd c_101 (by decide)
  | succ j ih =>
    intro i hij ls hl
    have hlt : i < 6 := by omega
    refine lv_iload_n FX.1 FX.2.1 dX0_areRulesSound_2 rfl (lv_at hl 0 rfl) ?_
    refine lv_bipush (v := 6) FX.1 FX.2.1 dX0_areRulesSound_3 (by decide) ?_
    refine lv_icmp_ge (tgt := 33) FX.1 FX.2.1 dX0_areRulesSound_5 (by decide) (fun c_1 => ?_) (fun c_1 => ?_)
    · exact absurd c_1 (nI_ge (b := 6) hlt (by decide))
    · refine lv_iload_n FX.1 FX.2.1 dX0_areRulesSound_8 rfl (lv_at hl 1 rfl) ?_
      refine lv_iload_n FX.1 FX.2.1 dX0_areRulesSound_9 rfl (lv_at hl 0 rfl) ?_
      refine lv_iconst (v := 3) FX.1 FX.2.1 dX0_areRulesSound_10 (by decide) ?_
      refine c_RDs FX (r_X0_mapped l D cI cB v1 (nI i) 3) mi_X0_mapped rfl ml_RX0_42 (RMk.mk hRf hRl) hl.1 rfl (Nat.le_of_ble_eq_true rfl) dX0_areRulesSound_11 hf hK hP [] rfl ?_
      refine lv_iload_n FX.1 FX.2.1 dX0_areRulesSound_14 rfl (lv_at hl 1 rfl) ?_
      refine lv_iload_n FX.1 FX.2.1 dX0_areRulesSound_15 rfl (lv_at hl 0 rfl) ?_
      refine c_RDs FX (r_X0_turnedByRule l D cI cB v1 (nI i)) mi_X0_turnedByRule rfl ml_RX0_213 (RMk.mk hRf hRl) hl.1 rfl (Nat.le_of_ble_eq_true rfl) dX0_areRulesSound_16 hf hK hP [] rfl ?_
      refine c_RDs FX (r_X0_alike l D cI cB (v_X0_mapped v1 (nI i) 3) (v_X0_turnedByRule v1 (nI i))) mi_X0_alike rfl ml_RX0_78 (RMk.mk hRf hRl) hl.1 rfl (Nat.le_of_ble_eq_true rfl) dX0_areRulesSound_19 hf hK hP [] rfl ?_
      refine lv_if_ne (tgt := 27) FX.1 FX.2.1 dX0_areRulesSound_22 (by decide) (fun c_2 => ?_) (fun c_2 => ?_)
      · refine lv_iinc (v := nI (i + 1)) (lv' := [(1, .int (nI (i + 1))), (0, .int v1)]) FX.1 FX.2.1 dX0_areRulesSound_27 hl (k := 0) rfl (by exact nI_1 _) (by decide) rfl (fun ls hl => ?_)
        refine lv_goto (tgt := 2) FX.1 FX.2.1 dX0_areRulesSound_30 (by decide) ?_
        exact ih (i + 1) (by omega) ls (lv_sub hl [0, 1] rfl)
      · exact absurd c_2 (snd3 hv _)
def v_X0_areRulesSound  : Int32 := 1
set_option maxRecDepth 100000 in
set_option maxHeartbeats 4000000 in
theorem r_X0_areRulesSound (l : Launch) (D : va_G) (cI cB : ClassId) (v1 : Int32) (hv : okc v1) : RD l yX0_areRulesSound cX0_areRulesSound 2 (some .boolean) ({ frames := 4, cells := 0, slots := 0, locals := 84 } : Room) D cI cB [.int v1] [] v_X0_areRulesSound := by
  refine bodyRD (by decide +kernel) (Nat.le_of_ble_eq_true rfl) (fun p e s m args below meth c ls FX hr hlk hK hP hl => ?_)
  have hl : lv_has ls 2 [(0, .int v1)] := hl
  refine lv_iconst (v := 0) FX.1 FX.2.1 dX0_areRulesSound_0 (by decide) ?_
  refine lv_istore_n (lv' := [(1, .int 0), (0, .int v1)]) FX.1 FX.2.1 dX0_areRulesSound_1 rfl hl (by decide) rfl (fun ls hl => ?_)
  refine L_X0_areRulesSound_2 D cI cB v1 hv  (Nat.le_of_ble_eq_true rfl) (Nat.le_of_ble_eq_true rfl) (by decide) FX hK hP (fun ls hl => ?_) 6 0 (by omega) ls (lv_sub hl [0, 1] rfl)
  refine lv_iconst (v := 1) FX.1 FX.2.1 dX0_areRulesSound_33 (by decide) ?_
  exact retRD FX hr hlk dX0_areRulesSound_34 rfl (by rw [v_X0_areRulesSound])
theorem b01_v_X0_areRulesSound  : is01 v_X0_areRulesSound := by
  unfold v_X0_areRulesSound
  repeat' split
  all_goals first | exact Or.inl rfl | exact Or.inr rfl
set_option maxRecDepth 100000 in
set_option maxHeartbeats 4000000 in
theorem L_X0_areTestsSound_9 {p : Program} {l : Launch} {e : Env} {R : Room} {s : State} {m : MethodId} {args : Array Value} {below : List Frame} {meth : Method} {c : Code} {H : Heap} {locs : List Loc} {cells slots : Nat} {Q : State → Prop} (D : va_G) (cI cB : ClassId) (v1 : Int32) (i : Nat) (hlt0 : i < 5) (hRf : 2 ≤ R.frames) (hRl : 44 ≤ R.locals) (hf : cells ≤ R.cells ∧ slots ≤ R.slots) (FX : CallFix p m c cX0_areTestsSound 5 s args bigW RX0) (hK : va_K D KL (TY cI cB) s) (hP : va_P D KL [] H)
    (kk : ∀ ls : Array Slot, lv_has ls 5 [(2, .int 5), (0, .int v1), (1, .int (nI i))] → W p l e R s m args below meth c H locs cells slots Q (F0 m 56 ls [])) : ∀ (j k : Nat), k + j = 5 → ∀ ls : Array Slot, lv_has ls 5 [(2, .int (nI k)), (0, .int v1), (1, .int (nI i))] → W p l e R s m args below meth c H locs cells slots Q (F0 m 9 ls []) := by
  intro j
  induction j with
  | zero =>
    intro k hij ls hl
    obtain rfl : k = 5 := by omega
    have hl : lv_has ls 5 [(2, .int 5), (0, .int v1), (1, .int (nI i))] := hl
    refine lv_iload_n FX.1 FX.2.1 dX0_areTestsSound_9 rfl (lv_at hl 0 rfl) ?_
    refine lv_iconst (v := 5) FX.1 FX.2.1 dX0_areTestsSound_10 (by decide) ?_
    refine lv_icmp_ge (tgt := 56) FX.1 FX.2.1 dX0_areTestsSound_11 (by decide) (fun c_101 => ?_) (fun c_101 => ?_)
    · exact kk ls (lv_sub hl [0, 1, 2] rfl)
    · exact absurd c_101 (by decide)
  | succ j ih =>
    intro k hij ls hl
    have hlt : k < 5 := by omega
    refine lv_iload_n FX.1 FX.2.1 dX0_areTestsSound_9 rfl (lv_at hl 0 rfl) ?_
    refine lv_iconst (v := 5) FX.1 FX.2.1 dX0_areTestsSound_10 (by decide) ?_
    refine lv_icmp_ge (tgt := 56) FX.1 FX.2.1 dX0_areTestsSound_11 (by decide) (fun c_1 => ?_) (fun c_1 => ?_)
    · exact absurd c_1 (nI_ge (b := 5) hlt (by decide))
    · refine lv_iload_n FX.1 FX.2.1 dX0_areTestsSound_14 rfl (lv_at hl 1 rfl) ?_
      refine lv_iload_n FX.1 FX.2.1 dX0_areTestsSound_15 rfl (lv_at hl 2 rfl) ?_
      refine lv_iconst (v := 3) FX.1 FX.2.1 dX0_areTestsSound_16 (by decide) ?_
      refine c_RDs FX (r_X0_filtered l D cI cB v1 (nI i) 3) mi_X0_filtered rfl ml_RX0_49 (RMk.mk hRf hRl) hl.1 rfl (Nat.le_of_ble_eq_true rfl) dX0_areTestsSound_17 hf hK hP [] rfl ?_
      refine lv_iload_n FX.1 FX.2.1 dX0_areTestsSound_20 rfl (lv_at hl 0 rfl) ?_
      refine lv_iconst (v := 3) FX.1 FX.2.1 dX0_areTestsSound_21 (by decide) ?_
      refine c_RDs FX (r_X0_filtered l D cI cB (v_X0_filtered v1 (nI i) 3) (nI k) 3) mi_X0_filtered rfl ml_RX0_49 (RMk.mk hRf hRl) hl.1 rfl (Nat.le_of_ble_eq_true rfl) dX0_areTestsSound_22 hf hK hP [] rfl ?_
      refine lv_istore_n (lv' := [(3, .int (v_X0_filtered (v_X0_filtered v1 (nI i) 3) (nI k) 3)), (2, .int (nI k)), (0, .int v1), (1, .int (nI i))]) FX.1 FX.2.1 dX0_areTestsSound_25 rfl hl (by decide) rfl (fun ls hl => ?_)
      refine lv_iload_n FX.1 FX.2.1 dX0_areTestsSound_26 rfl (lv_at hl 2 rfl) ?_
      refine lv_iload_n FX.1 FX.2.1 dX0_areTestsSound_27 rfl (lv_at hl 1 rfl) ?_
      refine lv_iconst (v := 3) FX.1 FX.2.1 dX0_areTestsSound_28 (by decide) ?_
      refine c_RDs FX (r_X0_filtered l D cI cB v1 (nI k) 3) mi_X0_filtered rfl ml_RX0_49 (RMk.mk hRf hRl) hl.1 rfl (Nat.le_of_ble_eq_true rfl) dX0_areTestsSound_29 hf hK hP [] rfl ?_
      refine lv_iload_n FX.1 FX.2.1 dX0_areTestsSound_32 rfl (lv_at hl 3 rfl) ?_
      refine lv_iconst (v := 3) FX.1 FX.2.1 dX0_areTestsSound_33 (by decide) ?_
      refine c_RDs FX (r_X0_filtered l D cI cB (v_X0_filtered v1 (nI k) 3) (nI i) 3) mi_X0_filtered rfl ml_RX0_49 (RMk.mk hRf hRl) hl.1 rfl (Nat.le_of_ble_eq_true rfl) dX0_areTestsSound_34 hf hK hP [] rfl ?_
      refine lv_istore (lv' := [(4, .int (v_X0_filtered (v_X0_filtered v1 (nI k) 3) (nI i) 3)), (3, .int (v_X0_filtered (v_X0_filtered v1 (nI i) 3) (nI k) 3)), (2, .int (nI k)), (0, .int v1), (1, .int (nI i))]) FX.1 FX.2.1 dX0_areTestsSound_37 hl (by decide) rfl (fun ls hl => ?_)
      refine lv_iload_n FX.1 FX.2.1 dX0_areTestsSound_39 rfl (lv_at hl 1 rfl) ?_
      refine lv_iload FX.1 FX.2.1 dX0_areTestsSound_40 (lv_at hl 0 rfl) ?_
      refine c_RDs FX (r_X0_alike l D cI cB (v_X0_filtered (v_X0_filtered v1 (nI i) 3) (nI k) 3) (v_X0_filtered (v_X0_filtered v1 (nI k) 3) (nI i) 3)) mi_X0_alike rfl ml_RX0_78 (RMk.mk hRf hRl) hl.1 rfl (Nat.le_of_ble_eq_true rfl) dX0_areTestsSound_42 hf hK hP [] rfl ?_
      refine lv_if_ne (tgt := 50) FX.1 FX.2.1 dX0_areTestsSound_45 (by decide) (fun c_2 => ?_) (fun c_2 => ?_)
      · refine lv_iinc (v := nI (k + 1)) (lv' := [(2, .int (nI (k + 1))), (4, .int (v_X0_filtered (v_X0_filtered v1 (nI k) 3) (nI i) 3)), (3, .int (v_X0_filtered (v_X0_filtered v1 (nI i) 3) (nI k) 3)), (0, .int v1), (1, .int (nI i))]) FX.1 FX.2.1 dX0_areTestsSound_50 hl (k := 2) rfl (by exact nI_1 _) (by decide) rfl (fun ls hl => ?_)
        refine lv_goto (tgt := 9) FX.1 FX.2.1 dX0_areTestsSound_53 (by decide) ?_
        exact ih (k + 1) (by omega) ls (lv_sub hl [0, 3, 4] rfl)
      · exact absurd c_2 (snd4 _ _ _)
set_option maxRecDepth 100000 in
set_option maxHeartbeats 4000000 in
theorem L_X0_areTestsSound_2 {p : Program} {l : Launch} {e : Env} {R : Room} {s : State} {m : MethodId} {args : Array Value} {below : List Frame} {meth : Method} {c : Code} {H : Heap} {locs : List Loc} {cells slots : Nat} {Q : State → Prop} (D : va_G) (cI cB : ClassId) (v1 : Int32) (hRf : 2 ≤ R.frames) (hRl : 44 ≤ R.locals) (hf : cells ≤ R.cells ∧ slots ≤ R.slots) (FX : CallFix p m c cX0_areTestsSound 5 s args bigW RX0) (hK : va_K D KL (TY cI cB) s) (hP : va_P D KL [] H)
    (kk : ∀ ls : Array Slot, lv_has ls 5 [(1, .int 5), (0, .int v1)] → W p l e R s m args below meth c H locs cells slots Q (F0 m 62 ls [])) : ∀ (j i : Nat), i + j = 5 → ∀ ls : Array Slot, lv_has ls 5 [(1, .int (nI i)), (0, .int v1)] → W p l e R s m args below meth c H locs cells slots Q (F0 m 2 ls []) := by
  intro j
  induction j with
  | zero =>
    intro i hij ls hl
    obtain rfl : i = 5 := by omega
    have hl : lv_has ls 5 [(1, .int 5), (0, .int v1)] := hl
    refine lv_iload_n FX.1 FX.2.1 dX0_areTestsSound_2 rfl (lv_at hl 0 rfl) ?_
    refine lv_iconst (v := 5) FX.1 FX.2.1 dX0_areTestsSound_3 (by decide) ?_
    refine lv_icmp_ge (tgt := 62) FX.1 FX.2.1 dX0_areTestsSound_4 (by decide) (fun c_101 => ?_) (fun c_101 => ?_)
    · exact kk ls (lv_sub hl [0, 1] rfl)
    · exact absurd c_101 (by decide)
  | succ j ih =>
    intro i hij ls hl
    have hlt : i < 5 := by omega
    refine lv_iload_n FX.1 FX.2.1 dX0_areTestsSound_2 rfl (lv_at hl 0 rfl) ?_
    refine lv_iconst (v := 5) FX.1 FX.2.1 dX0_areTestsSound_3 (by decide) ?_
    refine lv_icmp_ge (tgt := 62) FX.1 FX.2.1 dX0_areTestsSound_4 (by decide) (fun c_1 => ?_) (fun c_1 => ?_)
    · exact absurd c_1 (nI_ge (b := 5) hlt (by decide))
    · refine lv_iconst (v := 0) FX.1 FX.2.1 dX0_areTestsSound_7 (by decide) ?_
      refine lv_istore_n (lv' := [(2, .int 0), (1, .int (nI i)), (0, .int v1)]) FX.1 FX.2.1 dX0_areTestsSound_8 rfl hl (by decide) rfl (fun ls hl => ?_)
      refine L_X0_areTestsSound_9 D cI cB v1 i hlt  (Nat.le_trans (Nat.le_of_ble_eq_true rfl) hRf) (Nat.le_trans (Nat.le_of_ble_eq_true rfl) hRl) hf FX hK hP (fun ls hl => ?_) 5 0 (by omega) ls (lv_sub hl [0, 2, 1] rfl)
      refine lv_iinc (v := nI (i + 1)) (lv' := [(1, .int (nI (i + 1))), (2, .int 5), (0, .int v1)]) FX.1 FX.2.1 dX0_areTestsSound_56 hl (k := 2) rfl (by exact nI_1 _) (by decide) rfl (fun ls hl => ?_)
      refine lv_goto (tgt := 2) FX.1 FX.2.1 dX0_areTestsSound_59 (by decide) ?_
      exact ih (i + 1) (by omega) ls (lv_sub hl [0, 2] rfl)
def v_X0_areTestsSound  : Int32 := 1
set_option maxRecDepth 100000 in
set_option maxHeartbeats 4000000 in
theorem r_X0_areTestsSound (l : Launch) (D : va_G) (cI cB : ClassId) (v1 : Int32) : RD l yX0_areTestsSound cX0_areTestsSound 5 (some .boolean) ({ frames := 2, cells := 0, slots := 0, locals := 44 } : Room) D cI cB [.int v1] [] v_X0_areTestsSound := by
  refine bodyRD (by decide +kernel) (Nat.le_of_ble_eq_true rfl) (fun p e s m args below meth c ls FX hr hlk hK hP hl => ?_)
  have hl : lv_has ls 5 [(0, .int v1)] := hl
  refine lv_iconst (v := 0) FX.1 FX.2.1 dX0_areTestsSound_0 (by decide) ?_
  refine lv_istore_n (lv' := [(1, .int 0), (0, .int v1)]) FX.1 FX.2.1 dX0_areTestsSound_1 rfl hl (by decide) rfl (fun ls hl => ?_)
  refine L_X0_areTestsSound_2 D cI cB v1  (Nat.le_of_ble_eq_true rfl) (Nat.le_of_ble_eq_true rfl) (by decide) FX hK hP (fun ls hl => ?_) 5 0 (by omega) ls (lv_sub hl [0, 1] rfl)
  refine lv_iconst (v := 1) FX.1 FX.2.1 dX0_areTestsSound_62 (by decide) ?_
  exact retRD FX hr hlk dX0_areTestsSound_63 rfl (by rw [v_X0_areTestsSound])
theorem b01_v_X0_areTestsSound  : is01 v_X0_areTestsSound := by
  unfold v_X0_areTestsSound
  repeat' split
  all_goals first | exact Or.inl rfl | exact Or.inr rfl
set_option maxRecDepth 100000 in
set_option maxHeartbeats 4000000 in
theorem L_X0_arePairsSound_2 {p : Program} {l : Launch} {e : Env} {R : Room} {s : State} {m : MethodId} {args : Array Value} {below : List Frame} {meth : Method} {c : Code} {H : Heap} {locs : List Loc} {cells slots : Nat} {Q : State → Prop} (D : va_G) (cI cB : ClassId) (x bx px tx : Nat) (f g : Nat → Int32) (ak su gt lf rf kn : Int32) (b1 : Int32) (ho6 : ok6 f) (hi : vp_in b1 6) (hRf : 3 ≤ R.frames) (hRl : 71 ≤ R.locals) (hf : cells ≤ R.cells ∧ slots ≤ R.slots) (FX : CallFix p m c cX0_arePairsSound 4 s args bigW RX0) (hK : va_K D KL (TY cI cB) s) (hP : va_P D KL (wX cI x bx px tx f g ak su gt lf rf kn) H)
    (kk : ∀ ls : Array Slot, lv_has ls 4 [(2, .int 6), (0, .ref x), (1, .int b1)] → W p l e R s m args below meth c H locs cells slots Q (F0 m 52 ls [])) : ∀ (j i : Nat), i + j = 6 → ∀ ls : Array Slot, lv_has ls 4 [(2, .int (nI i)), (0, .ref x), (1, .int b1)] → W p l e R s m args below meth c H locs cells slots Q (F0 m 2 ls []) := by
  intro j
  induction j with
  | zero =>
    intro i hij ls hl
    obtain rfl : i = 6 := by omega
    have hl : lv_has ls 4 [(2, .int 6), (0, .ref x), (1, .int b1)] := hl
    refine lv_iload_n FX.1 FX.2.1 dX0_arePairsSound_2 rfl (lv_at hl 0 rfl) ?_
    refine lv_bipush (v := 6) FX.1 FX.2.1 dX0_arePairsSound_3 (by decide) ?_
    refine lv_icmp_ge (tgt := 52) FX.1 FX.2.1 dX0_arePairsSound_5 (by decide) (fun c_101 => ?_) (fun c_101 => ?_)
    · exact kk ls (lv_sub hl [0, 1, 2] rfl)
    · exact absurd c_101 (by decide)
  | succ j ih =>
    intro i hij ls hl
    have hlt : i < 6 := by omega
    refine lv_iload_n FX.1 FX.2.1 dX0_arePairsSound_2 rfl (lv_at hl 0 rfl) ?_
    refine lv_bipush (v := 6) FX.1 FX.2.1 dX0_arePairsSound_3 (by decide) ?_
    refine lv_icmp_ge (tgt := 52) FX.1 FX.2.1 dX0_arePairsSound_5 (by decide) (fun c_1 => ?_) (fun c_1 => ?_)
    · exact absurd c_1 (nI_ge (b := 6) hlt (by decide))
    · refine lv_aload_n FX.1 FX.2.1 dX0_arePairsSound_8 rfl (lv_at hl 1 rfl) ?_
      refine lv_iload_n FX.1 FX.2.1 dX0_arePairsSound_9 rfl (lv_at hl 2 rfl) ?_
      refine lv_iload_n FX.1 FX.2.1 dX0_arePairsSound_10 rfl (lv_at hl 0 rfl) ?_
      have q_2 : (e_X0_areLike b1 (nI i)) = 0 := (e0_X0_areLike hi (vp_in_nI hlt (by decide)))
      refine c_RDV (i0 := 0) (ci := 2) FX (r_X0_areLike l D cI cB x bx px tx f g ak su gt lf rf kn b1 (nI i) q_2) mi_X0_areLike rfl ml_RX0_216 (RMk.mk hRf hRl) hl.1 rfl (Nat.le_of_ble_eq_true rfl) dX0_arePairsSound_11 hf hK hP [0, 1, 2] rfl rfl rfl rfl ?_
      refine lv_istore_n (lv' := [(3, .int (v_X0_areLike b1 (nI i) f)), (2, .int (nI i)), (0, .ref x), (1, .int b1)]) FX.1 FX.2.1 dX0_arePairsSound_14 rfl hl (by decide) rfl (fun ls hl => ?_)
      refine lv_aload_n FX.1 FX.2.1 dX0_arePairsSound_15 rfl (lv_at hl 2 rfl) ?_
      refine lv_iload_n FX.1 FX.2.1 dX0_arePairsSound_16 rfl (lv_at hl 3 rfl) ?_
      refine lv_iload_n FX.1 FX.2.1 dX0_arePairsSound_17 rfl (lv_at hl 1 rfl) ?_
      have q_3 : (e_X0_isLike b1 (nI i)) = 0 := (e0_X0_isLike hi (vp_in_nI hlt (by decide)))
      refine c_RDV (i0 := 0) (ci := 2) FX (r_X0_isLike l D cI cB x bx px tx f g ak su gt lf rf kn b1 (nI i) q_3) mi_X0_isLike rfl ml_RX0_219 (RMk.mk hRf hRl) hl.1 rfl (Nat.le_of_ble_eq_true rfl) dX0_arePairsSound_18 hf hK hP [0, 1, 2] rfl rfl rfl rfl ?_
      refine lv_iload_n FX.1 FX.2.1 dX0_arePairsSound_21 rfl (lv_at hl 0 rfl) ?_
      refine lv_icmp_ne (tgt := 44) FX.1 FX.2.1 dX0_arePairsSound_22 (by decide) (fun c_4 => ?_) (fun c_4 => ?_)
      · exact absurd rfl c_4
      · refine lv_aload_n FX.1 FX.2.1 dX0_arePairsSound_25 rfl (lv_at hl 2 rfl) ?_
        refine lv_iload_n FX.1 FX.2.1 dX0_arePairsSound_26 rfl (lv_at hl 3 rfl) ?_
        refine lv_iload_n FX.1 FX.2.1 dX0_arePairsSound_27 rfl (lv_at hl 1 rfl) ?_
        refine lv_iconst (v := 0) FX.1 FX.2.1 dX0_arePairsSound_28 (by decide) ?_
        have q_5 : (e_X0_compare b1 (nI i) 0) = 0 := (e0_X0_compare hi (vp_in_nI hlt (by decide)) (vp_in_iff.mpr ⟨by decide, by decide⟩))
        refine c_RDV (i0 := 0) (ci := 2) FX (r_X0_compare l D cI cB x bx px tx f g ak su gt lf rf kn b1 (nI i) 0 q_5) mi_X0_compare rfl ml_RX0_222 (RMk.mk hRf hRl) hl.1 rfl (Nat.le_of_ble_eq_true rfl) dX0_arePairsSound_29 hf hK hP [0, 1, 2] rfl rfl rfl rfl ?_
        refine lv_if_ne (tgt := 39) FX.1 FX.2.1 dX0_arePairsSound_32 (by decide) (fun c_6 => ?_) (fun c_6 => ?_)
        · refine lv_iconst (v := 0) FX.1 FX.2.1 dX0_arePairsSound_39 (by decide) ?_
          refine lv_iload_n FX.1 FX.2.1 dX0_arePairsSound_40 rfl (lv_at hl 0 rfl) ?_
          refine lv_icmp_eq (tgt := 46) FX.1 FX.2.1 dX0_arePairsSound_41 (by decide) (fun c_7 => ?_) (fun c_7 => ?_)
          · refine lv_iinc (v := nI (i + 1)) (lv' := [(2, .int (nI (i + 1))), (3, .int (v_X0_areLike b1 (nI i) f)), (0, .ref x), (1, .int b1)]) FX.1 FX.2.1 dX0_arePairsSound_46 hl (k := 1) rfl (by exact nI_1 _) (by decide) rfl (fun ls hl => ?_)
            refine lv_goto (tgt := 2) FX.1 FX.2.1 dX0_arePairsSound_49 (by decide) ?_
            exact ih (i + 1) (by omega) ls (lv_sub hl [0, 2, 3] rfl)
          · exact absurd (snd5f ho6 hi (vp_in_nI hlt (by decide)) c_6) c_7
        · refine lv_iconst (v := 1) FX.1 FX.2.1 dX0_arePairsSound_35 (by decide) ?_
          refine lv_goto (tgt := 40) FX.1 FX.2.1 dX0_arePairsSound_36 (by decide) ?_
          refine lv_iload_n FX.1 FX.2.1 dX0_arePairsSound_40 rfl (lv_at hl 0 rfl) ?_
          refine lv_icmp_eq (tgt := 46) FX.1 FX.2.1 dX0_arePairsSound_41 (by decide) (fun c_8 => ?_) (fun c_8 => ?_)
          · refine lv_iinc (v := nI (i + 1)) (lv' := [(2, .int (nI (i + 1))), (3, .int (v_X0_areLike b1 (nI i) f)), (0, .ref x), (1, .int b1)]) FX.1 FX.2.1 dX0_arePairsSound_46 hl (k := 1) rfl (by exact nI_1 _) (by decide) rfl (fun ls hl => ?_)
            refine lv_goto (tgt := 2) FX.1 FX.2.1 dX0_arePairsSound_49 (by decide) ?_
            exact ih (i + 1) (by omega) ls (lv_sub hl [0, 2, 3] rfl)
          · exact absurd (snd5t ho6 hi (vp_in_nI hlt (by decide)) c_6) c_8
def v_X0_arePairsSound  : Int32 := 1
set_option maxRecDepth 100000 in
set_option maxHeartbeats 4000000 in
theorem r_X0_arePairsSound (l : Launch) (D : va_G) (cI cB : ClassId) (x bx px tx : Nat) (f g : Nat → Int32) (ak su gt lf rf kn : Int32) (b1 : Int32) (ho6 : ok6 f) (hi : vp_in b1 6) : RD l yX0_arePairsSound cX0_arePairsSound 4 (some .boolean) ({ frames := 3, cells := 0, slots := 0, locals := 71 } : Room) D cI cB [.ref x, .int b1] (wX cI x bx px tx f g ak su gt lf rf kn) v_X0_arePairsSound := by
  refine bodyRD (by decide +kernel) (Nat.le_of_ble_eq_true rfl) (fun p e s m args below meth c ls FX hr hlk hK hP hl => ?_)
  have hl : lv_has ls 4 [(0, .ref x), (1, .int b1)] := hl
  refine lv_iconst (v := 0) FX.1 FX.2.1 dX0_arePairsSound_0 (by decide) ?_
  refine lv_istore_n (lv' := [(2, .int 0), (0, .ref x), (1, .int b1)]) FX.1 FX.2.1 dX0_arePairsSound_1 rfl hl (by decide) rfl (fun ls hl => ?_)
  refine L_X0_arePairsSound_2 D cI cB x bx px tx f g ak su gt lf rf kn b1 ho6 hi  (Nat.le_of_ble_eq_true rfl) (Nat.le_of_ble_eq_true rfl) (by decide) FX hK hP (fun ls hl => ?_) 6 0 (by omega) ls (lv_sub hl [0, 1, 2] rfl)
  refine lv_iconst (v := 1) FX.1 FX.2.1 dX0_arePairsSound_52 (by decide) ?_
  exact retRD FX hr hlk dX0_arePairsSound_53 rfl (by rw [v_X0_arePairsSound])
theorem b01_v_X0_arePairsSound  : is01 v_X0_arePairsSound := by
  unfold v_X0_arePairsSound
  repeat' split
  all_goals first | exact Or.inl rfl | exact Or.inr rfl

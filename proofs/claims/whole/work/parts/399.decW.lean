theorem dL_trade_0 : decode cL_trade 0 = .ok (.aload_n 2, 1) := by decide +kernel
theorem dL_trade_1 : decode cL_trade 1 = .ok (.iconst 0, 1) := by decide +kernel
theorem dL_trade_2 : decode cL_trade 2 = .ok (.aload_n 0, 1) := by decide +kernel
theorem dL_trade_3 : decode cL_trade 3 = .ok (.iload_n 1, 1) := by decide +kernel
theorem dL_trade_4 : decode cL_trade 4 = .ok (.invokevirtual 7, 3) := by decide +kernel
theorem dL_trade_7 : decode cL_trade 7 = .ok (.i2l, 1) := by decide +kernel
theorem dL_trade_8 : decode cL_trade 8 = .ok (.lastore, 1) := by decide +kernel
theorem dL_trade_9 : decode cL_trade 9 = .ok (.goto 6, 3) := by decide +kernel
theorem dL_trade_12 : decode cL_trade 12 = .ok (.astore_n 3, 1) := by decide +kernel
theorem dL_trade_13 : decode cL_trade 13 = .ok (.iconst 1, 1) := by decide +kernel
theorem dL_trade_14 : decode cL_trade 14 = .ok (.ireturn, 1) := by decide +kernel
theorem dL_trade_15 : decode cL_trade 15 = .ok (.iconst 0, 1) := by decide +kernel
theorem dL_trade_16 : decode cL_trade 16 = .ok (.ireturn, 1) := by decide +kernel
theorem dL_law_0 : decode cL_law 0 = .ok (.aload_n 2, 1) := by decide +kernel
theorem dL_law_1 : decode cL_law 1 = .ok (.iconst 0, 1) := by decide +kernel
theorem dL_law_2 : decode cL_law 2 = .ok (.aload_n 0, 1) := by decide +kernel
theorem dL_law_3 : decode cL_law 3 = .ok (.iload_n 1, 1) := by decide +kernel
theorem dL_law_4 : decode cL_law 4 = .ok (.invokevirtual 15, 3) := by decide +kernel
theorem dL_law_7 : decode cL_law 7 = .ok (.i2l, 1) := by decide +kernel
theorem dL_law_8 : decode cL_law 8 = .ok (.lastore, 1) := by decide +kernel
theorem dL_law_9 : decode cL_law 9 = .ok (.goto 6, 3) := by decide +kernel
theorem dL_law_12 : decode cL_law 12 = .ok (.astore_n 3, 1) := by decide +kernel
theorem dL_law_13 : decode cL_law 13 = .ok (.iconst 1, 1) := by decide +kernel
theorem dL_law_14 : decode cL_law 14 = .ok (.ireturn, 1) := by decide +kernel
theorem dL_law_15 : decode cL_law 15 = .ok (.iconst 0, 1) := by decide +kernel
theorem dL_law_16 : decode cL_law 16 = .ok (.ireturn, 1) := by decide +kernel
theorem dL_work_0 : decode cL_work 0 = .ok (.aload_n 2, 1) := by decide +kernel
theorem dL_work_1 : decode cL_work 1 = .ok (.iconst 0, 1) := by decide +kernel
theorem dL_work_2 : decode cL_work 2 = .ok (.aload_n 0, 1) := by decide +kernel
theorem dL_work_3 : decode cL_work 3 = .ok (.iload_n 1, 1) := by decide +kernel
theorem dL_work_4 : decode cL_work 4 = .ok (.invokevirtual 18, 3) := by decide +kernel
theorem dL_work_7 : decode cL_work 7 = .ok (.i2l, 1) := by decide +kernel
theorem dL_work_8 : decode cL_work 8 = .ok (.lastore, 1) := by decide +kernel
theorem dL_work_9 : decode cL_work 9 = .ok (.goto 6, 3) := by decide +kernel
theorem dL_work_12 : decode cL_work 12 = .ok (.astore_n 3, 1) := by decide +kernel
theorem dL_work_13 : decode cL_work 13 = .ok (.iconst 1, 1) := by decide +kernel
theorem dL_work_14 : decode cL_work 14 = .ok (.ireturn, 1) := by decide +kernel
theorem dL_work_15 : decode cL_work 15 = .ok (.iconst 0, 1) := by decide +kernel
theorem dL_work_16 : decode cL_work 16 = .ok (.ireturn, 1) := by decide +kernel
theorem dL_told_0 : decode cL_told 0 = .ok (.aload_n 2, 1) := by decide +kernel
theorem dL_told_1 : decode cL_told 1 = .ok (.iconst 0, 1) := by decide +kernel
theorem dL_told_2 : decode cL_told 2 = .ok (.aload_n 0, 1) := by decide +kernel
theorem dL_told_3 : decode cL_told 3 = .ok (.iload_n 1, 1) := by decide +kernel
theorem dL_told_4 : decode cL_told 4 = .ok (.invokevirtual 21, 3) := by decide +kernel
theorem dL_told_7 : decode cL_told 7 = .ok (.i2l, 1) := by decide +kernel
theorem dL_told_8 : decode cL_told 8 = .ok (.lastore, 1) := by decide +kernel
theorem dL_told_9 : decode cL_told 9 = .ok (.goto 6, 3) := by decide +kernel
theorem dL_told_12 : decode cL_told 12 = .ok (.astore_n 3, 1) := by decide +kernel
theorem dL_told_13 : decode cL_told 13 = .ok (.iconst 1, 1) := by decide +kernel
theorem dL_told_14 : decode cL_told 14 = .ok (.ireturn, 1) := by decide +kernel
theorem dL_told_15 : decode cL_told 15 = .ok (.iconst 0, 1) := by decide +kernel
theorem dL_told_16 : decode cL_told 16 = .ok (.ireturn, 1) := by decide +kernel
theorem dL_beast_0 : decode cL_beast 0 = .ok (.aload_n 3, 1) := by decide +kernel
theorem dL_beast_1 : decode cL_beast 1 = .ok (.iconst 0, 1) := by decide +kernel
theorem dL_beast_2 : decode cL_beast 2 = .ok (.aload_n 0, 1) := by decide +kernel
theorem dL_beast_3 : decode cL_beast 3 = .ok (.iload_n 1, 1) := by decide +kernel
theorem dL_beast_4 : decode cL_beast 4 = .ok (.iload_n 2, 1) := by decide +kernel
theorem dL_beast_5 : decode cL_beast 5 = .ok (.invokevirtual 24, 3) := by decide +kernel
theorem dL_beast_8 : decode cL_beast 8 = .ok (.i2l, 1) := by decide +kernel
theorem dL_beast_9 : decode cL_beast 9 = .ok (.lastore, 1) := by decide +kernel
theorem dL_beast_10 : decode cL_beast 10 = .ok (.goto 11, 3) := by decide +kernel
theorem dL_beast_13 : decode cL_beast 13 = .ok (.astore 4, 2) := by decide +kernel
theorem dL_beast_15 : decode cL_beast 15 = .ok (.iconst 1, 1) := by decide +kernel
theorem dL_beast_16 : decode cL_beast 16 = .ok (.ireturn, 1) := by decide +kernel
theorem dL_beast_17 : decode cL_beast 17 = .ok (.astore 4, 2) := by decide +kernel
theorem dL_beast_19 : decode cL_beast 19 = .ok (.iconst 2, 1) := by decide +kernel
theorem dL_beast_20 : decode cL_beast 20 = .ok (.ireturn, 1) := by decide +kernel
theorem dL_beast_21 : decode cL_beast 21 = .ok (.iconst 0, 1) := by decide +kernel
theorem dL_beast_22 : decode cL_beast 22 = .ok (.ireturn, 1) := by decide +kernel
theorem dL_gate_0 : decode cL_gate 0 = .ok (.aload_n 3, 1) := by decide +kernel
theorem dL_gate_1 : decode cL_gate 1 = .ok (.iconst 0, 1) := by decide +kernel
theorem dL_gate_2 : decode cL_gate 2 = .ok (.aload_n 0, 1) := by decide +kernel
theorem dL_gate_3 : decode cL_gate 3 = .ok (.iload_n 1, 1) := by decide +kernel
theorem dL_gate_4 : decode cL_gate 4 = .ok (.iload_n 2, 1) := by decide +kernel
theorem dL_gate_5 : decode cL_gate 5 = .ok (.invokevirtual 30, 3) := by decide +kernel
theorem dL_gate_8 : decode cL_gate 8 = .ok (.i2l, 1) := by decide +kernel
theorem dL_gate_9 : decode cL_gate 9 = .ok (.lastore, 1) := by decide +kernel
theorem dL_gate_10 : decode cL_gate 10 = .ok (.goto 11, 3) := by decide +kernel
theorem dL_gate_13 : decode cL_gate 13 = .ok (.astore 4, 2) := by decide +kernel
theorem dL_gate_15 : decode cL_gate 15 = .ok (.iconst 1, 1) := by decide +kernel
theorem dL_gate_16 : decode cL_gate 16 = .ok (.ireturn, 1) := by decide +kernel
theorem dL_gate_17 : decode cL_gate 17 = .ok (.astore 4, 2) := by decide +kernel
theorem dL_gate_19 : decode cL_gate 19 = .ok (.iconst 2, 1) := by decide +kernel
theorem dL_gate_20 : decode cL_gate 20 = .ok (.ireturn, 1) := by decide +kernel
theorem dL_gate_21 : decode cL_gate 21 = .ok (.iconst 0, 1) := by decide +kernel
theorem dL_gate_22 : decode cL_gate 22 = .ok (.ireturn, 1) := by decide +kernel
theorem dL_listed_0 : decode cL_listed 0 = .ok (.aload_n 3, 1) := by decide +kernel
theorem dL_listed_1 : decode cL_listed 1 = .ok (.iconst 0, 1) := by decide +kernel
theorem dL_listed_2 : decode cL_listed 2 = .ok (.aload_n 0, 1) := by decide +kernel
theorem dL_listed_3 : decode cL_listed 3 = .ok (.iload_n 1, 1) := by decide +kernel
theorem dL_listed_4 : decode cL_listed 4 = .ok (.iload_n 2, 1) := by decide +kernel
theorem dL_listed_5 : decode cL_listed 5 = .ok (.invokevirtual 33, 3) := by decide +kernel
theorem dL_listed_8 : decode cL_listed 8 = .ok (.i2l, 1) := by decide +kernel
theorem dL_listed_9 : decode cL_listed 9 = .ok (.lastore, 1) := by decide +kernel
theorem dL_listed_10 : decode cL_listed 10 = .ok (.goto 11, 3) := by decide +kernel
theorem dL_listed_13 : decode cL_listed 13 = .ok (.astore 4, 2) := by decide +kernel
theorem dL_listed_15 : decode cL_listed 15 = .ok (.iconst 1, 1) := by decide +kernel
theorem dL_listed_16 : decode cL_listed 16 = .ok (.ireturn, 1) := by decide +kernel
theorem dL_listed_17 : decode cL_listed 17 = .ok (.astore 4, 2) := by decide +kernel
theorem dL_listed_19 : decode cL_listed 19 = .ok (.iconst 2, 1) := by decide +kernel
theorem dL_listed_20 : decode cL_listed 20 = .ok (.ireturn, 1) := by decide +kernel
theorem dL_listed_21 : decode cL_listed 21 = .ok (.iconst 0, 1) := by decide +kernel
theorem dL_listed_22 : decode cL_listed 22 = .ok (.ireturn, 1) := by decide +kernel
theorem dL_slips_0 : decode cL_slips 0 = .ok (.aload_n 3, 1) := by decide +kernel
theorem dL_slips_1 : decode cL_slips 1 = .ok (.iconst 0, 1) := by decide +kernel
theorem dL_slips_2 : decode cL_slips 2 = .ok (.aload_n 0, 1) := by decide +kernel
theorem dL_slips_3 : decode cL_slips 3 = .ok (.iload_n 1, 1) := by decide +kernel
theorem dL_slips_4 : decode cL_slips 4 = .ok (.iload_n 2, 1) := by decide +kernel
theorem dL_slips_5 : decode cL_slips 5 = .ok (.invokevirtual 36, 3) := by decide +kernel
theorem dL_slips_8 : decode cL_slips 8 = .ok (.i2l, 1) := by decide +kernel
theorem dL_slips_9 : decode cL_slips 9 = .ok (.lastore, 1) := by decide +kernel
theorem dL_slips_10 : decode cL_slips 10 = .ok (.goto 7, 3) := by decide +kernel
theorem dL_slips_13 : decode cL_slips 13 = .ok (.astore 4, 2) := by decide +kernel
theorem dL_slips_15 : decode cL_slips 15 = .ok (.iconst 1, 1) := by decide +kernel
theorem dL_slips_16 : decode cL_slips 16 = .ok (.ireturn, 1) := by decide +kernel
theorem dL_slips_17 : decode cL_slips 17 = .ok (.iconst 0, 1) := by decide +kernel
theorem dL_slips_18 : decode cL_slips 18 = .ok (.ireturn, 1) := by decide +kernel
theorem dL_near_0 : decode cL_near 0 = .ok (.aload_n 3, 1) := by decide +kernel
theorem dL_near_1 : decode cL_near 1 = .ok (.iconst 0, 1) := by decide +kernel
theorem dL_near_2 : decode cL_near 2 = .ok (.aload_n 0, 1) := by decide +kernel
theorem dL_near_3 : decode cL_near 3 = .ok (.iload_n 1, 1) := by decide +kernel
theorem dL_near_4 : decode cL_near 4 = .ok (.iload_n 2, 1) := by decide +kernel
theorem dL_near_5 : decode cL_near 5 = .ok (.invokevirtual 39, 3) := by decide +kernel
theorem dL_near_8 : decode cL_near 8 = .ok (.i2l, 1) := by decide +kernel
theorem dL_near_9 : decode cL_near 9 = .ok (.lastore, 1) := by decide +kernel
theorem dL_near_10 : decode cL_near 10 = .ok (.goto 7, 3) := by decide +kernel
theorem dL_near_13 : decode cL_near 13 = .ok (.astore 4, 2) := by decide +kernel
theorem dL_near_15 : decode cL_near 15 = .ok (.iconst 1, 1) := by decide +kernel
theorem dL_near_16 : decode cL_near 16 = .ok (.ireturn, 1) := by decide +kernel
theorem dL_near_17 : decode cL_near 17 = .ok (.iconst 0, 1) := by decide +kernel
theorem dL_near_18 : decode cL_near 18 = .ok (.ireturn, 1) := by decide +kernel
theorem dL_fee_0 : decode cL_fee 0 = .ok (.aload_n 3, 1) := by decide +kernel
theorem dL_fee_1 : decode cL_fee 1 = .ok (.iconst 0, 1) := by decide +kernel
theorem dL_fee_2 : decode cL_fee 2 = .ok (.aload_n 0, 1) := by decide +kernel
theorem dL_fee_3 : decode cL_fee 3 = .ok (.iload_n 1, 1) := by decide +kernel
theorem dL_fee_4 : decode cL_fee 4 = .ok (.iload_n 2, 1) := by decide +kernel
theorem dL_fee_5 : decode cL_fee 5 = .ok (.invokevirtual 42, 3) := by decide +kernel
theorem dL_fee_8 : decode cL_fee 8 = .ok (.i2l, 1) := by decide +kernel
theorem dL_fee_9 : decode cL_fee 9 = .ok (.lastore, 1) := by decide +kernel
theorem dL_fee_10 : decode cL_fee 10 = .ok (.goto 7, 3) := by decide +kernel
theorem dL_fee_13 : decode cL_fee 13 = .ok (.astore 4, 2) := by decide +kernel
theorem dL_fee_15 : decode cL_fee 15 = .ok (.iconst 1, 1) := by decide +kernel
theorem dL_fee_16 : decode cL_fee 16 = .ok (.ireturn, 1) := by decide +kernel
theorem dL_fee_17 : decode cL_fee 17 = .ok (.iconst 0, 1) := by decide +kernel
theorem dL_fee_18 : decode cL_fee 18 = .ok (.ireturn, 1) := by decide +kernel
theorem dL_would_0 : decode cL_would 0 = .ok (.aload 9, 2) := by decide +kernel
theorem dL_would_2 : decode cL_would 2 = .ok (.iconst 0, 1) := by decide +kernel
theorem dL_would_3 : decode cL_would 3 = .ok (.aload_n 0, 1) := by decide +kernel
theorem dL_would_4 : decode cL_would 4 = .ok (.iload_n 1, 1) := by decide +kernel
theorem dL_would_5 : decode cL_would 5 = .ok (.iload_n 2, 1) := by decide +kernel
theorem dL_would_6 : decode cL_would 6 = .ok (.iload_n 3, 1) := by decide +kernel
theorem dL_would_7 : decode cL_would 7 = .ok (.iload 4, 2) := by decide +kernel
theorem dL_would_9 : decode cL_would 9 = .ok (.iload 5, 2) := by decide +kernel
theorem dL_would_11 : decode cL_would 11 = .ok (.iload 6, 2) := by decide +kernel
theorem dL_would_13 : decode cL_would 13 = .ok (.iload 7, 2) := by decide +kernel
theorem dL_would_15 : decode cL_would 15 = .ok (.iload 8, 2) := by decide +kernel
theorem dL_would_17 : decode cL_would 17 = .ok (.invokevirtual 45, 3) := by decide +kernel
theorem dL_would_20 : decode cL_would 20 = .ok (.i2l, 1) := by decide +kernel
theorem dL_would_21 : decode cL_would 21 = .ok (.lastore, 1) := by decide +kernel
theorem dL_would_22 : decode cL_would 22 = .ok (.goto 7, 3) := by decide +kernel
theorem dL_would_25 : decode cL_would 25 = .ok (.astore 10, 2) := by decide +kernel
theorem dL_would_27 : decode cL_would 27 = .ok (.iconst 1, 1) := by decide +kernel
theorem dL_would_28 : decode cL_would 28 = .ok (.ireturn, 1) := by decide +kernel
theorem dL_would_29 : decode cL_would 29 = .ok (.iconst 0, 1) := by decide +kernel
theorem dL_would_30 : decode cL_would 30 = .ok (.ireturn, 1) := by decide +kernel
theorem dL_can_0 : decode cL_can 0 = .ok (.aload_n 3, 1) := by decide +kernel
theorem dL_can_1 : decode cL_can 1 = .ok (.iconst 0, 1) := by decide +kernel
theorem dL_can_2 : decode cL_can 2 = .ok (.aload_n 0, 1) := by decide +kernel
theorem dL_can_3 : decode cL_can 3 = .ok (.iload_n 1, 1) := by decide +kernel
theorem dL_can_4 : decode cL_can 4 = .ok (.iload_n 2, 1) := by decide +kernel
theorem dL_can_5 : decode cL_can 5 = .ok (.invokevirtual 49, 3) := by decide +kernel
theorem dL_can_8 : decode cL_can 8 = .ok (.ifCond .eq 7, 3) := by decide +kernel
theorem dL_can_11 : decode cL_can 11 = .ok (.lconst 1, 1) := by decide +kernel
theorem dL_can_12 : decode cL_can 12 = .ok (.goto 4, 3) := by decide +kernel
theorem dL_can_15 : decode cL_can 15 = .ok (.lconst 0, 1) := by decide +kernel
theorem dL_can_16 : decode cL_can 16 = .ok (.lastore, 1) := by decide +kernel
theorem dL_can_17 : decode cL_can 17 = .ok (.goto 7, 3) := by decide +kernel
theorem dL_can_20 : decode cL_can 20 = .ok (.astore 4, 2) := by decide +kernel
theorem dL_can_22 : decode cL_can 22 = .ok (.iconst 1, 1) := by decide +kernel
theorem dL_can_23 : decode cL_can 23 = .ok (.ireturn, 1) := by decide +kernel
theorem dL_can_24 : decode cL_can 24 = .ok (.iconst 0, 1) := by decide +kernel
theorem dL_can_25 : decode cL_can 25 = .ok (.ireturn, 1) := by decide +kernel
theorem dL_strokes_0 : decode cL_strokes 0 = .ok (.aload 4, 2) := by decide +kernel
theorem dL_strokes_2 : decode cL_strokes 2 = .ok (.iconst 0, 1) := by decide +kernel
theorem dL_strokes_3 : decode cL_strokes 3 = .ok (.aload_n 0, 1) := by decide +kernel
theorem dL_strokes_4 : decode cL_strokes 4 = .ok (.iload_n 1, 1) := by decide +kernel
theorem dL_strokes_5 : decode cL_strokes 5 = .ok (.iload_n 2, 1) := by decide +kernel
theorem dL_strokes_6 : decode cL_strokes 6 = .ok (.iload_n 3, 1) := by decide +kernel
theorem dL_strokes_7 : decode cL_strokes 7 = .ok (.invokevirtual 53, 3) := by decide +kernel
theorem dL_strokes_10 : decode cL_strokes 10 = .ok (.i2l, 1) := by decide +kernel
theorem dL_strokes_11 : decode cL_strokes 11 = .ok (.lastore, 1) := by decide +kernel
theorem dL_strokes_12 : decode cL_strokes 12 = .ok (.goto 11, 3) := by decide +kernel
theorem dL_strokes_15 : decode cL_strokes 15 = .ok (.astore 5, 2) := by decide +kernel
theorem dL_strokes_17 : decode cL_strokes 17 = .ok (.iconst 1, 1) := by decide +kernel
theorem dL_strokes_18 : decode cL_strokes 18 = .ok (.ireturn, 1) := by decide +kernel
theorem dL_strokes_19 : decode cL_strokes 19 = .ok (.astore 5, 2) := by decide +kernel
theorem dL_strokes_21 : decode cL_strokes 21 = .ok (.iconst 2, 1) := by decide +kernel
theorem dL_strokes_22 : decode cL_strokes 22 = .ok (.ireturn, 1) := by decide +kernel
theorem dL_strokes_23 : decode cL_strokes 23 = .ok (.iconst 0, 1) := by decide +kernel
theorem dL_strokes_24 : decode cL_strokes 24 = .ok (.ireturn, 1) := by decide +kernel
theorem dL_twins_0 : decode cL_twins 0 = .ok (.aload_n 3, 1) := by decide +kernel
theorem dL_twins_1 : decode cL_twins 1 = .ok (.iconst 0, 1) := by decide +kernel
theorem dL_twins_2 : decode cL_twins 2 = .ok (.aload_n 0, 1) := by decide +kernel
theorem dL_twins_3 : decode cL_twins 3 = .ok (.iload_n 1, 1) := by decide +kernel
theorem dL_twins_4 : decode cL_twins 4 = .ok (.iload_n 2, 1) := by decide +kernel
theorem dL_twins_5 : decode cL_twins 5 = .ok (.invokevirtual 57, 3) := by decide +kernel
theorem dL_twins_8 : decode cL_twins 8 = .ok (.i2l, 1) := by decide +kernel
theorem dL_twins_9 : decode cL_twins 9 = .ok (.lastore, 1) := by decide +kernel
theorem dL_twins_10 : decode cL_twins 10 = .ok (.goto 7, 3) := by decide +kernel
theorem dL_twins_13 : decode cL_twins 13 = .ok (.astore 4, 2) := by decide +kernel
theorem dL_twins_15 : decode cL_twins 15 = .ok (.iconst 1, 1) := by decide +kernel
theorem dL_twins_16 : decode cL_twins 16 = .ok (.ireturn, 1) := by decide +kernel
theorem dL_twins_17 : decode cL_twins 17 = .ok (.iconst 0, 1) := by decide +kernel
theorem dL_twins_18 : decode cL_twins 18 = .ok (.ireturn, 1) := by decide +kernel
theorem dL_code_0 : decode cL_code 0 = .ok (.aload 4, 2) := by decide +kernel
theorem dL_code_2 : decode cL_code 2 = .ok (.iconst 0, 1) := by decide +kernel
theorem dL_code_3 : decode cL_code 3 = .ok (.aload_n 0, 1) := by decide +kernel
theorem dL_code_4 : decode cL_code 4 = .ok (.iload_n 1, 1) := by decide +kernel
theorem dL_code_5 : decode cL_code 5 = .ok (.iload_n 2, 1) := by decide +kernel
theorem dL_code_6 : decode cL_code 6 = .ok (.iload_n 3, 1) := by decide +kernel
theorem dL_code_7 : decode cL_code 7 = .ok (.invokevirtual 60, 3) := by decide +kernel
theorem dL_code_10 : decode cL_code 10 = .ok (.i2l, 1) := by decide +kernel
theorem dL_code_11 : decode cL_code 11 = .ok (.lastore, 1) := by decide +kernel
theorem dL_code_12 : decode cL_code 12 = .ok (.goto 7, 3) := by decide +kernel
theorem dL_code_15 : decode cL_code 15 = .ok (.astore 5, 2) := by decide +kernel
theorem dL_code_17 : decode cL_code 17 = .ok (.iconst 1, 1) := by decide +kernel
theorem dL_code_18 : decode cL_code 18 = .ok (.ireturn, 1) := by decide +kernel
theorem dL_code_19 : decode cL_code 19 = .ok (.iconst 0, 1) := by decide +kernel
theorem dL_code_20 : decode cL_code 20 = .ok (.ireturn, 1) := by decide +kernel
theorem dL_parents_0 : decode cL_parents 0 = .ok (.aload_n 3, 1) := by decide +kernel
theorem dL_parents_1 : decode cL_parents 1 = .ok (.iconst 0, 1) := by decide +kernel
theorem dL_parents_2 : decode cL_parents 2 = .ok (.aload_n 0, 1) := by decide +kernel
theorem dL_parents_3 : decode cL_parents 3 = .ok (.iload_n 1, 1) := by decide +kernel
theorem dL_parents_4 : decode cL_parents 4 = .ok (.iload_n 2, 1) := by decide +kernel
theorem dL_parents_5 : decode cL_parents 5 = .ok (.invokevirtual 63, 3) := by decide +kernel
theorem dL_parents_8 : decode cL_parents 8 = .ok (.i2l, 1) := by decide +kernel
theorem dL_parents_9 : decode cL_parents 9 = .ok (.lastore, 1) := by decide +kernel
theorem dL_parents_10 : decode cL_parents 10 = .ok (.goto 7, 3) := by decide +kernel
theorem dL_parents_13 : decode cL_parents 13 = .ok (.astore 4, 2) := by decide +kernel
theorem dL_parents_15 : decode cL_parents 15 = .ok (.iconst 1, 1) := by decide +kernel
theorem dL_parents_16 : decode cL_parents 16 = .ok (.ireturn, 1) := by decide +kernel
theorem dL_parents_17 : decode cL_parents 17 = .ok (.iconst 0, 1) := by decide +kernel
theorem dL_parents_18 : decode cL_parents 18 = .ok (.ireturn, 1) := by decide +kernel
theorem dL_herd_0 : decode cL_herd 0 = .ok (.aload_n 3, 1) := by decide +kernel
theorem dL_herd_1 : decode cL_herd 1 = .ok (.iconst 0, 1) := by decide +kernel
theorem dL_herd_2 : decode cL_herd 2 = .ok (.aload_n 0, 1) := by decide +kernel
theorem dL_herd_3 : decode cL_herd 3 = .ok (.iload_n 1, 1) := by decide +kernel
theorem dL_herd_4 : decode cL_herd 4 = .ok (.iload_n 2, 1) := by decide +kernel
theorem dL_herd_5 : decode cL_herd 5 = .ok (.invokevirtual 66, 3) := by decide +kernel
theorem dL_herd_8 : decode cL_herd 8 = .ok (.i2l, 1) := by decide +kernel
theorem dL_herd_9 : decode cL_herd 9 = .ok (.lastore, 1) := by decide +kernel
theorem dL_herd_10 : decode cL_herd 10 = .ok (.goto 7, 3) := by decide +kernel
theorem dL_herd_13 : decode cL_herd 13 = .ok (.astore 4, 2) := by decide +kernel
theorem dL_herd_15 : decode cL_herd 15 = .ok (.iconst 1, 1) := by decide +kernel
theorem dL_herd_16 : decode cL_herd 16 = .ok (.ireturn, 1) := by decide +kernel
theorem dL_herd_17 : decode cL_herd 17 = .ok (.iconst 0, 1) := by decide +kernel
theorem dL_herd_18 : decode cL_herd 18 = .ok (.ireturn, 1) := by decide +kernel
theorem dL_ask_0 : decode cL_ask 0 = .ok (.aload_n 3, 1) := by decide +kernel
theorem dL_ask_1 : decode cL_ask 1 = .ok (.iconst 0, 1) := by decide +kernel
theorem dL_ask_2 : decode cL_ask 2 = .ok (.aload_n 0, 1) := by decide +kernel
theorem dL_ask_3 : decode cL_ask 3 = .ok (.iload_n 1, 1) := by decide +kernel
theorem dL_ask_4 : decode cL_ask 4 = .ok (.iload_n 2, 1) := by decide +kernel
theorem dL_ask_5 : decode cL_ask 5 = .ok (.invokevirtual 69, 3) := by decide +kernel
theorem dL_ask_8 : decode cL_ask 8 = .ok (.i2l, 1) := by decide +kernel
theorem dL_ask_9 : decode cL_ask 9 = .ok (.lastore, 1) := by decide +kernel
theorem dL_ask_10 : decode cL_ask 10 = .ok (.goto 7, 3) := by decide +kernel
theorem dL_ask_13 : decode cL_ask 13 = .ok (.astore 4, 2) := by decide +kernel
theorem dL_ask_15 : decode cL_ask 15 = .ok (.iconst 1, 1) := by decide +kernel
theorem dL_ask_16 : decode cL_ask 16 = .ok (.ireturn, 1) := by decide +kernel
theorem dL_ask_17 : decode cL_ask 17 = .ok (.iconst 0, 1) := by decide +kernel
theorem dL_ask_18 : decode cL_ask 18 = .ok (.ireturn, 1) := by decide +kernel
theorem dL_cover_0 : decode cL_cover 0 = .ok (.aload_n 2, 1) := by decide +kernel
theorem dL_cover_1 : decode cL_cover 1 = .ok (.iconst 0, 1) := by decide +kernel
theorem dL_cover_2 : decode cL_cover 2 = .ok (.aload_n 0, 1) := by decide +kernel
theorem dL_cover_3 : decode cL_cover 3 = .ok (.iload_n 1, 1) := by decide +kernel
theorem dL_cover_4 : decode cL_cover 4 = .ok (.invokevirtual 72, 3) := by decide +kernel
theorem dL_cover_7 : decode cL_cover 7 = .ok (.i2l, 1) := by decide +kernel
theorem dL_cover_8 : decode cL_cover 8 = .ok (.lastore, 1) := by decide +kernel
theorem dL_cover_9 : decode cL_cover 9 = .ok (.goto 6, 3) := by decide +kernel
theorem dL_cover_12 : decode cL_cover 12 = .ok (.astore_n 3, 1) := by decide +kernel
theorem dL_cover_13 : decode cL_cover 13 = .ok (.iconst 1, 1) := by decide +kernel
theorem dL_cover_14 : decode cL_cover 14 = .ok (.ireturn, 1) := by decide +kernel
theorem dL_cover_15 : decode cL_cover 15 = .ok (.iconst 0, 1) := by decide +kernel
theorem dL_cover_16 : decode cL_cover 16 = .ok (.ireturn, 1) := by decide +kernel
theorem dL_list_0 : decode cL_list 0 = .ok (.aload_n 3, 1) := by decide +kernel
theorem dL_list_1 : decode cL_list 1 = .ok (.iconst 0, 1) := by decide +kernel
theorem dL_list_2 : decode cL_list 2 = .ok (.aload_n 0, 1) := by decide +kernel
theorem dL_list_3 : decode cL_list 3 = .ok (.iload_n 1, 1) := by decide +kernel
theorem dL_list_4 : decode cL_list 4 = .ok (.iload_n 2, 1) := by decide +kernel
theorem dL_list_5 : decode cL_list 5 = .ok (.invokevirtual 75, 3) := by decide +kernel
theorem dL_list_8 : decode cL_list 8 = .ok (.i2l, 1) := by decide +kernel
theorem dL_list_9 : decode cL_list 9 = .ok (.lastore, 1) := by decide +kernel
theorem dL_list_10 : decode cL_list 10 = .ok (.goto 7, 3) := by decide +kernel
theorem dL_list_13 : decode cL_list 13 = .ok (.astore 4, 2) := by decide +kernel
theorem dL_list_15 : decode cL_list 15 = .ok (.iconst 1, 1) := by decide +kernel
theorem dL_list_16 : decode cL_list 16 = .ok (.ireturn, 1) := by decide +kernel
theorem dL_list_17 : decode cL_list 17 = .ok (.iconst 0, 1) := by decide +kernel
theorem dL_list_18 : decode cL_list 18 = .ok (.ireturn, 1) := by decide +kernel
theorem dL_file_0 : decode cL_file 0 = .ok (.aload_n 3, 1) := by decide +kernel
theorem dL_file_1 : decode cL_file 1 = .ok (.iconst 0, 1) := by decide +kernel
theorem dL_file_2 : decode cL_file 2 = .ok (.aload_n 0, 1) := by decide +kernel
theorem dL_file_3 : decode cL_file 3 = .ok (.iload_n 1, 1) := by decide +kernel
theorem dL_file_4 : decode cL_file 4 = .ok (.iload_n 2, 1) := by decide +kernel
theorem dL_file_5 : decode cL_file 5 = .ok (.invokevirtual 78, 3) := by decide +kernel
theorem dL_file_8 : decode cL_file 8 = .ok (.i2l, 1) := by decide +kernel
theorem dL_file_9 : decode cL_file 9 = .ok (.lastore, 1) := by decide +kernel
theorem dL_file_10 : decode cL_file 10 = .ok (.goto 11, 3) := by decide +kernel
theorem dL_file_13 : decode cL_file 13 = .ok (.astore 4, 2) := by decide +kernel
theorem dL_file_15 : decode cL_file 15 = .ok (.iconst 1, 1) := by decide +kernel
theorem dL_file_16 : decode cL_file 16 = .ok (.ireturn, 1) := by decide +kernel
theorem dL_file_17 : decode cL_file 17 = .ok (.astore 4, 2) := by decide +kernel
theorem dL_file_19 : decode cL_file 19 = .ok (.iconst 2, 1) := by decide +kernel
theorem dL_file_20 : decode cL_file 20 = .ok (.ireturn, 1) := by decide +kernel
theorem dL_file_21 : decode cL_file 21 = .ok (.iconst 0, 1) := by decide +kernel
theorem dL_file_22 : decode cL_file 22 = .ok (.ireturn, 1) := by decide +kernel
theorem dL_filed_0 : decode cL_filed 0 = .ok (.aload 4, 2) := by decide +kernel
theorem dL_filed_2 : decode cL_filed 2 = .ok (.iconst 0, 1) := by decide +kernel
theorem dL_filed_3 : decode cL_filed 3 = .ok (.aload_n 0, 1) := by decide +kernel
theorem dL_filed_4 : decode cL_filed 4 = .ok (.iload_n 1, 1) := by decide +kernel
theorem dL_filed_5 : decode cL_filed 5 = .ok (.iload_n 2, 1) := by decide +kernel
theorem dL_filed_6 : decode cL_filed 6 = .ok (.iload_n 3, 1) := by decide +kernel
theorem dL_filed_7 : decode cL_filed 7 = .ok (.invokevirtual 81, 3) := by decide +kernel
theorem dL_filed_10 : decode cL_filed 10 = .ok (.i2l, 1) := by decide +kernel
theorem dL_filed_11 : decode cL_filed 11 = .ok (.lastore, 1) := by decide +kernel
theorem dL_filed_12 : decode cL_filed 12 = .ok (.goto 11, 3) := by decide +kernel
theorem dL_filed_15 : decode cL_filed 15 = .ok (.astore 5, 2) := by decide +kernel
theorem dL_filed_17 : decode cL_filed 17 = .ok (.iconst 1, 1) := by decide +kernel
theorem dL_filed_18 : decode cL_filed 18 = .ok (.ireturn, 1) := by decide +kernel
theorem dL_filed_19 : decode cL_filed 19 = .ok (.astore 5, 2) := by decide +kernel
theorem dL_filed_21 : decode cL_filed 21 = .ok (.iconst 2, 1) := by decide +kernel
theorem dL_filed_22 : decode cL_filed 22 = .ok (.ireturn, 1) := by decide +kernel
theorem dL_filed_23 : decode cL_filed 23 = .ok (.iconst 0, 1) := by decide +kernel
theorem dL_filed_24 : decode cL_filed 24 = .ok (.ireturn, 1) := by decide +kernel
theorem dL_fog_0 : decode cL_fog 0 = .ok (.aload 5, 2) := by decide +kernel
theorem dL_fog_2 : decode cL_fog 2 = .ok (.iconst 0, 1) := by decide +kernel
theorem dL_fog_3 : decode cL_fog 3 = .ok (.aload_n 0, 1) := by decide +kernel
theorem dL_fog_4 : decode cL_fog 4 = .ok (.iload_n 1, 1) := by decide +kernel
theorem dL_fog_5 : decode cL_fog 5 = .ok (.iload_n 2, 1) := by decide +kernel
theorem dL_fog_6 : decode cL_fog 6 = .ok (.iload_n 3, 1) := by decide +kernel
theorem dL_fog_7 : decode cL_fog 7 = .ok (.iload 4, 2) := by decide +kernel
theorem dL_fog_9 : decode cL_fog 9 = .ok (.invokevirtual 84, 3) := by decide +kernel
theorem dL_fog_12 : decode cL_fog 12 = .ok (.lastore, 1) := by decide +kernel
theorem dL_fog_13 : decode cL_fog 13 = .ok (.goto 11, 3) := by decide +kernel
theorem dL_fog_16 : decode cL_fog 16 = .ok (.astore 6, 2) := by decide +kernel
theorem dL_fog_18 : decode cL_fog 18 = .ok (.iconst 1, 1) := by decide +kernel
theorem dL_fog_19 : decode cL_fog 19 = .ok (.ireturn, 1) := by decide +kernel
theorem dL_fog_20 : decode cL_fog 20 = .ok (.astore 6, 2) := by decide +kernel
theorem dL_fog_22 : decode cL_fog 22 = .ok (.iconst 2, 1) := by decide +kernel
theorem dL_fog_23 : decode cL_fog 23 = .ok (.ireturn, 1) := by decide +kernel
theorem dL_fog_24 : decode cL_fog 24 = .ok (.iconst 0, 1) := by decide +kernel
theorem dL_fog_25 : decode cL_fog 25 = .ok (.ireturn, 1) := by decide +kernel
theorem dL_dealers_0 : decode cL_dealers 0 = .ok (.aload 4, 2) := by decide +kernel
theorem dL_dealers_2 : decode cL_dealers 2 = .ok (.iconst 0, 1) := by decide +kernel
theorem dL_dealers_3 : decode cL_dealers 3 = .ok (.aload_n 0, 1) := by decide +kernel
theorem dL_dealers_4 : decode cL_dealers 4 = .ok (.iload_n 1, 1) := by decide +kernel
theorem dL_dealers_5 : decode cL_dealers 5 = .ok (.iload_n 2, 1) := by decide +kernel
theorem dL_dealers_6 : decode cL_dealers 6 = .ok (.iload_n 3, 1) := by decide +kernel
theorem dL_dealers_7 : decode cL_dealers 7 = .ok (.invokevirtual 88, 3) := by decide +kernel
theorem dL_dealers_10 : decode cL_dealers 10 = .ok (.i2l, 1) := by decide +kernel
theorem dL_dealers_11 : decode cL_dealers 11 = .ok (.lastore, 1) := by decide +kernel
theorem dL_dealers_12 : decode cL_dealers 12 = .ok (.goto 11, 3) := by decide +kernel
theorem dL_dealers_15 : decode cL_dealers 15 = .ok (.astore 5, 2) := by decide +kernel
theorem dL_dealers_17 : decode cL_dealers 17 = .ok (.iconst 1, 1) := by decide +kernel
theorem dL_dealers_18 : decode cL_dealers 18 = .ok (.ireturn, 1) := by decide +kernel
theorem dL_dealers_19 : decode cL_dealers 19 = .ok (.astore 5, 2) := by decide +kernel
theorem dL_dealers_21 : decode cL_dealers 21 = .ok (.iconst 2, 1) := by decide +kernel
theorem dL_dealers_22 : decode cL_dealers 22 = .ok (.ireturn, 1) := by decide +kernel
theorem dL_dealers_23 : decode cL_dealers 23 = .ok (.iconst 0, 1) := by decide +kernel
theorem dL_dealers_24 : decode cL_dealers 24 = .ok (.ireturn, 1) := by decide +kernel
theorem dL_share_0 : decode cL_share 0 = .ok (.aload 4, 2) := by decide +kernel
theorem dL_share_2 : decode cL_share 2 = .ok (.iconst 0, 1) := by decide +kernel
theorem dL_share_3 : decode cL_share 3 = .ok (.aload_n 0, 1) := by decide +kernel
theorem dL_share_4 : decode cL_share 4 = .ok (.iload_n 1, 1) := by decide +kernel
theorem dL_share_5 : decode cL_share 5 = .ok (.iload_n 2, 1) := by decide +kernel
theorem dL_share_6 : decode cL_share 6 = .ok (.iload_n 3, 1) := by decide +kernel
theorem dL_share_7 : decode cL_share 7 = .ok (.invokevirtual 91, 3) := by decide +kernel
theorem dL_share_10 : decode cL_share 10 = .ok (.i2l, 1) := by decide +kernel
theorem dL_share_11 : decode cL_share 11 = .ok (.lastore, 1) := by decide +kernel
theorem dL_share_12 : decode cL_share 12 = .ok (.goto 11, 3) := by decide +kernel
theorem dL_share_15 : decode cL_share 15 = .ok (.astore 5, 2) := by decide +kernel
theorem dL_share_17 : decode cL_share 17 = .ok (.iconst 1, 1) := by decide +kernel
theorem dL_share_18 : decode cL_share 18 = .ok (.ireturn, 1) := by decide +kernel
theorem dL_share_19 : decode cL_share 19 = .ok (.astore 5, 2) := by decide +kernel
theorem dL_share_21 : decode cL_share 21 = .ok (.iconst 2, 1) := by decide +kernel
theorem dL_share_22 : decode cL_share 22 = .ok (.ireturn, 1) := by decide +kernel
theorem dL_share_23 : decode cL_share 23 = .ok (.iconst 0, 1) := by decide +kernel
theorem dL_share_24 : decode cL_share 24 = .ok (.ireturn, 1) := by decide +kernel
theorem dL_taken_0 : decode cL_taken 0 = .ok (.aload_n 3, 1) := by decide +kernel
theorem dL_taken_1 : decode cL_taken 1 = .ok (.iconst 0, 1) := by decide +kernel
theorem dL_taken_2 : decode cL_taken 2 = .ok (.aload_n 0, 1) := by decide +kernel
theorem dL_taken_3 : decode cL_taken 3 = .ok (.iload_n 1, 1) := by decide +kernel
theorem dL_taken_4 : decode cL_taken 4 = .ok (.iload_n 2, 1) := by decide +kernel
theorem dL_taken_5 : decode cL_taken 5 = .ok (.invokevirtual 94, 3) := by decide +kernel
theorem dL_taken_8 : decode cL_taken 8 = .ok (.i2l, 1) := by decide +kernel
theorem dL_taken_9 : decode cL_taken 9 = .ok (.lastore, 1) := by decide +kernel
theorem dL_taken_10 : decode cL_taken 10 = .ok (.goto 7, 3) := by decide +kernel
theorem dL_taken_13 : decode cL_taken 13 = .ok (.astore 4, 2) := by decide +kernel
theorem dL_taken_15 : decode cL_taken 15 = .ok (.iconst 1, 1) := by decide +kernel
theorem dL_taken_16 : decode cL_taken 16 = .ok (.ireturn, 1) := by decide +kernel
theorem dL_taken_17 : decode cL_taken 17 = .ok (.iconst 0, 1) := by decide +kernel
theorem dL_taken_18 : decode cL_taken 18 = .ok (.ireturn, 1) := by decide +kernel
theorem dL_cheapest_0 : decode cL_cheapest 0 = .ok (.aload_n 3, 1) := by decide +kernel
theorem dL_cheapest_1 : decode cL_cheapest 1 = .ok (.iconst 0, 1) := by decide +kernel
theorem dL_cheapest_2 : decode cL_cheapest 2 = .ok (.aload_n 0, 1) := by decide +kernel
theorem dL_cheapest_3 : decode cL_cheapest 3 = .ok (.iload_n 1, 1) := by decide +kernel
theorem dL_cheapest_4 : decode cL_cheapest 4 = .ok (.iload_n 2, 1) := by decide +kernel
theorem dL_cheapest_5 : decode cL_cheapest 5 = .ok (.invokevirtual 97, 3) := by decide +kernel
theorem dL_cheapest_8 : decode cL_cheapest 8 = .ok (.i2l, 1) := by decide +kernel
theorem dL_cheapest_9 : decode cL_cheapest 9 = .ok (.lastore, 1) := by decide +kernel
theorem dL_cheapest_10 : decode cL_cheapest 10 = .ok (.goto 11, 3) := by decide +kernel
theorem dL_cheapest_13 : decode cL_cheapest 13 = .ok (.astore 4, 2) := by decide +kernel
theorem dL_cheapest_15 : decode cL_cheapest 15 = .ok (.iconst 1, 1) := by decide +kernel
theorem dL_cheapest_16 : decode cL_cheapest 16 = .ok (.ireturn, 1) := by decide +kernel
theorem dL_cheapest_17 : decode cL_cheapest 17 = .ok (.astore 4, 2) := by decide +kernel
theorem dL_cheapest_19 : decode cL_cheapest 19 = .ok (.iconst 2, 1) := by decide +kernel
theorem dL_cheapest_20 : decode cL_cheapest 20 = .ok (.ireturn, 1) := by decide +kernel
theorem dL_cheapest_21 : decode cL_cheapest 21 = .ok (.iconst 0, 1) := by decide +kernel
theorem dL_cheapest_22 : decode cL_cheapest 22 = .ok (.ireturn, 1) := by decide +kernel
theorem dL_striped_0 : decode cL_striped 0 = .ok (.aload_n 2, 1) := by decide +kernel
theorem dL_striped_1 : decode cL_striped 1 = .ok (.iconst 0, 1) := by decide +kernel
theorem dL_striped_2 : decode cL_striped 2 = .ok (.aload_n 0, 1) := by decide +kernel
theorem dL_striped_3 : decode cL_striped 3 = .ok (.iload_n 1, 1) := by decide +kernel
theorem dL_striped_4 : decode cL_striped 4 = .ok (.invokevirtual 100, 3) := by decide +kernel
theorem dL_striped_7 : decode cL_striped 7 = .ok (.i2l, 1) := by decide +kernel
theorem dL_striped_8 : decode cL_striped 8 = .ok (.lastore, 1) := by decide +kernel
theorem dL_striped_9 : decode cL_striped 9 = .ok (.goto 6, 3) := by decide +kernel
theorem dL_striped_12 : decode cL_striped 12 = .ok (.astore_n 3, 1) := by decide +kernel
theorem dL_striped_13 : decode cL_striped 13 = .ok (.iconst 1, 1) := by decide +kernel
theorem dL_striped_14 : decode cL_striped 14 = .ok (.ireturn, 1) := by decide +kernel
theorem dL_striped_15 : decode cL_striped 15 = .ok (.iconst 0, 1) := by decide +kernel
theorem dL_striped_16 : decode cL_striped 16 = .ok (.ireturn, 1) := by decide +kernel
theorem dL_oldest_0 : decode cL_oldest 0 = .ok (.aload_n 2, 1) := by decide +kernel
theorem dL_oldest_1 : decode cL_oldest 1 = .ok (.iconst 0, 1) := by decide +kernel
theorem dL_oldest_2 : decode cL_oldest 2 = .ok (.aload_n 0, 1) := by decide +kernel
theorem dL_oldest_3 : decode cL_oldest 3 = .ok (.iload_n 1, 1) := by decide +kernel
theorem dL_oldest_4 : decode cL_oldest 4 = .ok (.invokevirtual 103, 3) := by decide +kernel
theorem dL_oldest_7 : decode cL_oldest 7 = .ok (.i2l, 1) := by decide +kernel
theorem dL_oldest_8 : decode cL_oldest 8 = .ok (.lastore, 1) := by decide +kernel
theorem dL_oldest_9 : decode cL_oldest 9 = .ok (.goto 6, 3) := by decide +kernel
theorem dL_oldest_12 : decode cL_oldest 12 = .ok (.astore_n 3, 1) := by decide +kernel
theorem dL_oldest_13 : decode cL_oldest 13 = .ok (.iconst 1, 1) := by decide +kernel
theorem dL_oldest_14 : decode cL_oldest 14 = .ok (.ireturn, 1) := by decide +kernel
theorem dL_oldest_15 : decode cL_oldest 15 = .ok (.iconst 0, 1) := by decide +kernel
theorem dL_oldest_16 : decode cL_oldest 16 = .ok (.ireturn, 1) := by decide +kernel
theorem dL_richest_0 : decode cL_richest 0 = .ok (.aload_n 2, 1) := by decide +kernel
theorem dL_richest_1 : decode cL_richest 1 = .ok (.iconst 0, 1) := by decide +kernel
theorem dL_richest_2 : decode cL_richest 2 = .ok (.aload_n 0, 1) := by decide +kernel
theorem dL_richest_3 : decode cL_richest 3 = .ok (.iload_n 1, 1) := by decide +kernel
theorem dL_richest_4 : decode cL_richest 4 = .ok (.invokevirtual 106, 3) := by decide +kernel
theorem dL_richest_7 : decode cL_richest 7 = .ok (.i2l, 1) := by decide +kernel
theorem dL_richest_8 : decode cL_richest 8 = .ok (.lastore, 1) := by decide +kernel
theorem dL_richest_9 : decode cL_richest 9 = .ok (.goto 6, 3) := by decide +kernel
theorem dL_richest_12 : decode cL_richest 12 = .ok (.astore_n 3, 1) := by decide +kernel
theorem dL_richest_13 : decode cL_richest 13 = .ok (.iconst 1, 1) := by decide +kernel
theorem dL_richest_14 : decode cL_richest 14 = .ok (.ireturn, 1) := by decide +kernel
theorem dL_richest_15 : decode cL_richest 15 = .ok (.iconst 0, 1) := by decide +kernel
theorem dL_richest_16 : decode cL_richest 16 = .ok (.ireturn, 1) := by decide +kernel
theorem dL_affords_0 : decode cL_affords 0 = .ok (.aload_n 3, 1) := by decide +kernel
theorem dL_affords_1 : decode cL_affords 1 = .ok (.iconst 0, 1) := by decide +kernel
theorem dL_affords_2 : decode cL_affords 2 = .ok (.aload_n 0, 1) := by decide +kernel
theorem dL_affords_3 : decode cL_affords 3 = .ok (.iload_n 1, 1) := by decide +kernel
theorem dL_affords_4 : decode cL_affords 4 = .ok (.iload_n 2, 1) := by decide +kernel
theorem dL_affords_5 : decode cL_affords 5 = .ok (.invokevirtual 109, 3) := by decide +kernel
theorem dL_affords_8 : decode cL_affords 8 = .ok (.i2l, 1) := by decide +kernel
theorem dL_affords_9 : decode cL_affords 9 = .ok (.lastore, 1) := by decide +kernel
theorem dL_affords_10 : decode cL_affords 10 = .ok (.goto 7, 3) := by decide +kernel
theorem dL_affords_13 : decode cL_affords 13 = .ok (.astore 4, 2) := by decide +kernel
theorem dL_affords_15 : decode cL_affords 15 = .ok (.iconst 1, 1) := by decide +kernel
theorem dL_affords_16 : decode cL_affords 16 = .ok (.ireturn, 1) := by decide +kernel
theorem dL_affords_17 : decode cL_affords 17 = .ok (.iconst 0, 1) := by decide +kernel
theorem dL_affords_18 : decode cL_affords 18 = .ok (.ireturn, 1) := by decide +kernel
theorem dL_years_0 : decode cL_years 0 = .ok (.aload 6, 2) := by decide +kernel
theorem dL_years_2 : decode cL_years 2 = .ok (.iconst 0, 1) := by decide +kernel
theorem dL_years_3 : decode cL_years 3 = .ok (.aload_n 0, 1) := by decide +kernel
theorem dL_years_4 : decode cL_years 4 = .ok (.iload_n 1, 1) := by decide +kernel
theorem dL_years_5 : decode cL_years 5 = .ok (.iload_n 2, 1) := by decide +kernel
theorem dL_years_6 : decode cL_years 6 = .ok (.iload_n 3, 1) := by decide +kernel
theorem dL_years_7 : decode cL_years 7 = .ok (.iload 4, 2) := by decide +kernel
theorem dL_years_9 : decode cL_years 9 = .ok (.iload 5, 2) := by decide +kernel
theorem dL_years_11 : decode cL_years 11 = .ok (.invokevirtual 112, 3) := by decide +kernel
theorem dL_years_14 : decode cL_years 14 = .ok (.i2l, 1) := by decide +kernel
theorem dL_years_15 : decode cL_years 15 = .ok (.lastore, 1) := by decide +kernel
theorem dL_years_16 : decode cL_years 16 = .ok (.goto 7, 3) := by decide +kernel
theorem dL_years_19 : decode cL_years 19 = .ok (.astore 7, 2) := by decide +kernel
theorem dL_years_21 : decode cL_years 21 = .ok (.iconst 1, 1) := by decide +kernel
theorem dL_years_22 : decode cL_years 22 = .ok (.ireturn, 1) := by decide +kernel
theorem dL_years_23 : decode cL_years 23 = .ok (.iconst 0, 1) := by decide +kernel
theorem dL_years_24 : decode cL_years 24 = .ok (.ireturn, 1) := by decide +kernel
theorem dL_span_0 : decode cL_span 0 = .ok (.aload 8, 2) := by decide +kernel
theorem dL_span_2 : decode cL_span 2 = .ok (.iconst 0, 1) := by decide +kernel
theorem dL_span_3 : decode cL_span 3 = .ok (.aload_n 0, 1) := by decide +kernel
theorem dL_span_4 : decode cL_span 4 = .ok (.iload_n 1, 1) := by decide +kernel
theorem dL_span_5 : decode cL_span 5 = .ok (.iload_n 2, 1) := by decide +kernel
theorem dL_span_6 : decode cL_span 6 = .ok (.iload_n 3, 1) := by decide +kernel
theorem dL_span_7 : decode cL_span 7 = .ok (.iload 4, 2) := by decide +kernel
theorem dL_span_9 : decode cL_span 9 = .ok (.iload 5, 2) := by decide +kernel
theorem dL_span_11 : decode cL_span 11 = .ok (.iload 6, 2) := by decide +kernel
theorem dL_span_13 : decode cL_span 13 = .ok (.iload 7, 2) := by decide +kernel
theorem dL_span_15 : decode cL_span 15 = .ok (.invokevirtual 116, 3) := by decide +kernel
theorem dL_span_18 : decode cL_span 18 = .ok (.i2l, 1) := by decide +kernel
theorem dL_span_19 : decode cL_span 19 = .ok (.lastore, 1) := by decide +kernel
theorem dL_span_20 : decode cL_span 20 = .ok (.goto 7, 3) := by decide +kernel
theorem dL_span_23 : decode cL_span 23 = .ok (.astore 9, 2) := by decide +kernel
theorem dL_span_25 : decode cL_span 25 = .ok (.iconst 1, 1) := by decide +kernel
theorem dL_span_26 : decode cL_span 26 = .ok (.ireturn, 1) := by decide +kernel
theorem dL_span_27 : decode cL_span 27 = .ok (.iconst 0, 1) := by decide +kernel
theorem dL_span_28 : decode cL_span 28 = .ok (.ireturn, 1) := by decide +kernel

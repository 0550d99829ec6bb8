theorem tw_1142 : Cond.fieldLink RX10 90 "TurnpikeModel$World" "refresh" "I" ∈ tp_all := tp_mem 1142 (by decide +kernel) rfl
theorem tw_1379 : Cond.code yX9_tick cX9_tick 2 none ∈ tp_all := tp_mem 1379 (by decide +kernel) rfl
theorem tw_1376 : Cond.methodLink RX10 127 yX9_tick ∈ tp_all := tp_mem 1376 (by decide +kernel) rfl
theorem tw_1377 : Cond.instanceMethod yX9_tick ∈ tp_all := tp_mem 1377 (by decide +kernel) rfl
theorem tw_1378 : Cond.selects RX9 yX9_tick yX9_tick ∈ tp_all := tp_mem 1378 (by decide +kernel) rfl
theorem tw_1584 : Cond.code yX9_copy cX9_copy 3 (some (.object "TurnpikeModel$World")) ∈ tp_all := tp_mem 1584 (by decide +kernel) rfl
theorem tw_1581 : Cond.methodLink RX10 205 yX9_copy ∈ tp_all := tp_mem 1581 (by decide +kernel) rfl
theorem tw_1582 : Cond.instanceMethod yX9_copy ∈ tp_all := tp_mem 1582 (by decide +kernel) rfl
theorem tw_1583 : Cond.selects RX9 yX9_copy yX9_copy ∈ tp_all := tp_mem 1583 (by decide +kernel) rfl
theorem tw_1598 : Cond.code yX9_moving cX9_moving 3 (some .int) ∈ tp_all := tp_mem 1598 (by decide +kernel) rfl
theorem tw_1595 : Cond.methodLink RX10 209 yX9_moving ∈ tp_all := tp_mem 1595 (by decide +kernel) rfl
theorem tw_1596 : Cond.instanceMethod yX9_moving ∈ tp_all := tp_mem 1596 (by decide +kernel) rfl
theorem tw_1597 : Cond.selects RX9 yX9_moving yX9_moving ∈ tp_all := tp_mem 1597 (by decide +kernel) rfl
theorem tw_1607 : Cond.constantLong RX10 213 (1799178) ∈ tp_all := tp_mem 1607 (by decide +kernel) rfl
theorem tw_1608 : Cond.constantLong RX10 215 (31) ∈ tp_all := tp_mem 1608 (by decide +kernel) rfl
theorem dX10_setRefresh_0 : decode cX10_setRefresh 0 = .ok (.aload_n 0, 1) := by decide +kernel
theorem dX10_setRefresh_1 : decode cX10_setRefresh 1 = .ok (.iconst 0, 1) := by decide +kernel
theorem dX10_setRefresh_2 : decode cX10_setRefresh 2 = .ok (.putfield 22, 3) := by decide +kernel
theorem dX10_setRefresh_5 : decode cX10_setRefresh 5 = .ok (.iload_n 1, 1) := by decide +kernel
theorem dX10_setRefresh_6 : decode cX10_setRefresh 6 = .ok (.iconst 1, 1) := by decide +kernel
theorem dX10_setRefresh_7 : decode cX10_setRefresh 7 = .ok (.bipush 30, 2) := by decide +kernel
theorem dX10_setRefresh_9 : decode cX10_setRefresh 9 = .ok (.invokestatic 29, 3) := by decide +kernel
theorem dX10_setRefresh_12 : decode cX10_setRefresh 12 = .ok (.ifCond .ne 9, 3) := by decide +kernel
theorem dX10_setRefresh_21 : decode cX10_setRefresh 21 = .ok (.aload_n 0, 1) := by decide +kernel
theorem dX10_setRefresh_22 : decode cX10_setRefresh 22 = .ok (.getfield 18, 3) := by decide +kernel
theorem dX10_setRefresh_25 : decode cX10_setRefresh 25 = .ok (.getfield 90, 3) := by decide +kernel
theorem dX10_setRefresh_28 : decode cX10_setRefresh 28 = .ok (.istore_n 2, 1) := by decide +kernel
theorem dX10_setRefresh_29 : decode cX10_setRefresh 29 = .ok (.aload_n 0, 1) := by decide +kernel
theorem dX10_setRefresh_30 : decode cX10_setRefresh 30 = .ok (.getfield 18, 3) := by decide +kernel
theorem dX10_setRefresh_33 : decode cX10_setRefresh 33 = .ok (.iload_n 1, 1) := by decide +kernel
theorem dX10_setRefresh_34 : decode cX10_setRefresh 34 = .ok (.putfield 90, 3) := by decide +kernel
theorem dX10_setRefresh_37 : decode cX10_setRefresh 37 = .ok (.iload_n 2, 1) := by decide +kernel
theorem dX10_setRefresh_38 : decode cX10_setRefresh 38 = .ok (.ireturn, 1) := by decide +kernel
theorem dX10_setRefresh_15 : decode cX10_setRefresh 15 = .ok (.aload_n 0, 1) := by decide +kernel
theorem dX10_setRefresh_16 : decode cX10_setRefresh 16 = .ok (.iconst 1, 1) := by decide +kernel
theorem dX10_setRefresh_17 : decode cX10_setRefresh 17 = .ok (.invokevirtual 39, 3) := by decide +kernel
theorem dX10_setRefresh_20 : decode cX10_setRefresh 20 = .ok (.ireturn, 1) := by decide +kernel
theorem dX10_meanTrip_0 : decode cX10_meanTrip 0 = .ok (.aload_n 0, 1) := by decide +kernel
theorem dX10_meanTrip_1 : decode cX10_meanTrip 1 = .ok (.iconst 0, 1) := by decide +kernel
theorem dX10_meanTrip_2 : decode cX10_meanTrip 2 = .ok (.putfield 22, 3) := by decide +kernel
theorem dX10_meanTrip_5 : decode cX10_meanTrip 5 = .ok (.iconst 0, 1) := by decide +kernel
theorem dX10_meanTrip_6 : decode cX10_meanTrip 6 = .ok (.istore_n 1, 1) := by decide +kernel
theorem dX10_meanTrip_7 : decode cX10_meanTrip 7 = .ok (.iconst 0, 1) := by decide +kernel
theorem dX10_meanTrip_8 : decode cX10_meanTrip 8 = .ok (.istore_n 2, 1) := by decide +kernel
theorem dX10_meanTrip_9 : decode cX10_meanTrip 9 = .ok (.iconst 0, 1) := by decide +kernel
theorem dX10_meanTrip_10 : decode cX10_meanTrip 10 = .ok (.istore_n 3, 1) := by decide +kernel
theorem dX10_meanTrip_11 : decode cX10_meanTrip 11 = .ok (.iload_n 3, 1) := by decide +kernel
theorem dX10_meanTrip_12 : decode cX10_meanTrip 12 = .ok (.aload_n 0, 1) := by decide +kernel
theorem dX10_meanTrip_13 : decode cX10_meanTrip 13 = .ok (.getfield 18, 3) := by decide +kernel
theorem dX10_meanTrip_16 : decode cX10_meanTrip 16 = .ok (.getfield 36, 3) := by decide +kernel
theorem dX10_meanTrip_19 : decode cX10_meanTrip 19 = .ok (.if_icmp .ge 40, 3) := by decide +kernel
theorem dX10_meanTrip_59 : decode cX10_meanTrip 59 = .ok (.iload_n 2, 1) := by decide +kernel
theorem dX10_meanTrip_60 : decode cX10_meanTrip 60 = .ok (.ifCond .ne 7, 3) := by decide +kernel
theorem dX10_meanTrip_63 : decode cX10_meanTrip 63 = .ok (.dconst 0, 1) := by decide +kernel
theorem dX10_meanTrip_64 : decode cX10_meanTrip 64 = .ok (.goto 8, 3) := by decide +kernel
theorem dX10_meanTrip_72 : decode cX10_meanTrip 72 = .ok (.dreturn, 1) := by decide +kernel
theorem dX9_tick_0 : decode cX9_tick 0 = .ok (.iconst 0, 1) := by decide +kernel
theorem dX9_tick_1 : decode cX9_tick 1 = .ok (.istore_n 1, 1) := by decide +kernel
theorem dX9_tick_2 : decode cX9_tick 2 = .ok (.iload_n 1, 1) := by decide +kernel
theorem dX9_tick_3 : decode cX9_tick 3 = .ok (.aload_n 0, 1) := by decide +kernel
theorem dX9_tick_4 : decode cX9_tick 4 = .ok (.getfield 141, 3) := by decide +kernel
theorem dX9_tick_7 : decode cX9_tick 7 = .ok (.if_icmp .ge 49, 3) := by decide +kernel
theorem dX9_tick_56 : decode cX9_tick 56 = .ok (.aload_n 0, 1) := by decide +kernel
theorem dX9_tick_57 : decode cX9_tick 57 = .ok (.getfield 135, 3) := by decide +kernel
theorem dX9_tick_60 : decode cX9_tick 60 = .ok (.aload_n 0, 1) := by decide +kernel
theorem dX9_tick_61 : decode cX9_tick 61 = .ok (.getfield 9, 3) := by decide +kernel
theorem dX9_tick_64 : decode cX9_tick 64 = .ok (.irem, 1) := by decide +kernel
theorem dX9_tick_65 : decode cX9_tick 65 = .ok (.ifCond .ne 73, 3) := by decide +kernel
theorem dX9_tick_138 : decode cX9_tick 138 = .ok (.iconst 0, 1) := by decide +kernel
theorem dX9_tick_139 : decode cX9_tick 139 = .ok (.istore_n 1, 1) := by decide +kernel
theorem dX9_tick_140 : decode cX9_tick 140 = .ok (.iload_n 1, 1) := by decide +kernel
theorem dX9_tick_141 : decode cX9_tick 141 = .ok (.aload_n 0, 1) := by decide +kernel
theorem dX9_tick_142 : decode cX9_tick 142 = .ok (.getfield 144, 3) := by decide +kernel
theorem dX9_tick_145 : decode cX9_tick 145 = .ok (.if_icmp .ge 14, 3) := by decide +kernel
theorem dX9_tick_159 : decode cX9_tick 159 = .ok (.iconst 0, 1) := by decide +kernel
theorem dX9_tick_160 : decode cX9_tick 160 = .ok (.istore_n 1, 1) := by decide +kernel
theorem dX9_tick_161 : decode cX9_tick 161 = .ok (.iload_n 1, 1) := by decide +kernel
theorem dX9_tick_162 : decode cX9_tick 162 = .ok (.aload_n 0, 1) := by decide +kernel
theorem dX9_tick_163 : decode cX9_tick 163 = .ok (.getfield 138, 3) := by decide +kernel
theorem dX9_tick_166 : decode cX9_tick 166 = .ok (.if_icmp .ge 23, 3) := by decide +kernel
theorem dX9_tick_189 : decode cX9_tick 189 = .ok (.iconst 0, 1) := by decide +kernel
theorem dX9_tick_190 : decode cX9_tick 190 = .ok (.istore_n 1, 1) := by decide +kernel
theorem dX9_tick_191 : decode cX9_tick 191 = .ok (.iload_n 1, 1) := by decide +kernel
theorem dX9_tick_192 : decode cX9_tick 192 = .ok (.aload_n 0, 1) := by decide +kernel
theorem dX9_tick_193 : decode cX9_tick 193 = .ok (.getfield 141, 3) := by decide +kernel
theorem dX9_tick_196 : decode cX9_tick 196 = .ok (.if_icmp .ge 24, 3) := by decide +kernel
theorem dX9_tick_220 : decode cX9_tick 220 = .ok (.iconst 0, 1) := by decide +kernel
theorem dX9_tick_221 : decode cX9_tick 221 = .ok (.istore_n 1, 1) := by decide +kernel
theorem dX9_tick_222 : decode cX9_tick 222 = .ok (.iload_n 1, 1) := by decide +kernel
theorem dX9_tick_223 : decode cX9_tick 223 = .ok (.aload_n 0, 1) := by decide +kernel
theorem dX9_tick_224 : decode cX9_tick 224 = .ok (.getfield 138, 3) := by decide +kernel
theorem dX9_tick_227 : decode cX9_tick 227 = .ok (.if_icmp .ge 40, 3) := by decide +kernel
theorem dX9_tick_267 : decode cX9_tick 267 = .ok (.iconst 0, 1) := by decide +kernel
theorem dX9_tick_268 : decode cX9_tick 268 = .ok (.istore_n 1, 1) := by decide +kernel
theorem dX9_tick_269 : decode cX9_tick 269 = .ok (.iload_n 1, 1) := by decide +kernel
theorem dX9_tick_270 : decode cX9_tick 270 = .ok (.aload_n 0, 1) := by decide +kernel
theorem dX9_tick_271 : decode cX9_tick 271 = .ok (.getfield 141, 3) := by decide +kernel
theorem dX9_tick_274 : decode cX9_tick 274 = .ok (.if_icmp .ge 43, 3) := by decide +kernel
theorem dX9_tick_317 : decode cX9_tick 317 = .ok (.aload_n 0, 1) := by decide +kernel
theorem dX9_tick_318 : decode cX9_tick 318 = .ok (.dup, 1) := by decide +kernel
theorem dX9_tick_319 : decode cX9_tick 319 = .ok (.getfield 135, 3) := by decide +kernel
theorem dX9_tick_322 : decode cX9_tick 322 = .ok (.iconst 1, 1) := by decide +kernel
theorem dX9_tick_323 : decode cX9_tick 323 = .ok (.iadd, 1) := by decide +kernel
theorem dX9_tick_324 : decode cX9_tick 324 = .ok (.putfield 135, 3) := by decide +kernel
theorem dX9_tick_327 : decode cX9_tick 327 = .ok (.return_, 1) := by decide +kernel
theorem dX9_tick_68 : decode cX9_tick 68 = .ok (.iconst 0, 1) := by decide +kernel
theorem dX9_tick_69 : decode cX9_tick 69 = .ok (.istore_n 1, 1) := by decide +kernel
theorem dX9_tick_70 : decode cX9_tick 70 = .ok (.iload_n 1, 1) := by decide +kernel
theorem dX9_tick_71 : decode cX9_tick 71 = .ok (.aload_n 0, 1) := by decide +kernel
theorem dX9_tick_72 : decode cX9_tick 72 = .ok (.getfield 141, 3) := by decide +kernel
theorem dX9_tick_75 : decode cX9_tick 75 = .ok (.if_icmp .ge 63, 3) := by decide +kernel
theorem dX10_step_0 : decode cX10_step 0 = .ok (.aload_n 0, 1) := by decide +kernel
theorem dX10_step_1 : decode cX10_step 1 = .ok (.iconst 0, 1) := by decide +kernel
theorem dX10_step_2 : decode cX10_step 2 = .ok (.putfield 22, 3) := by decide +kernel
theorem dX10_step_5 : decode cX10_step 5 = .ok (.iload_n 1, 1) := by decide +kernel
theorem dX10_step_6 : decode cX10_step 6 = .ok (.iconst 1, 1) := by decide +kernel
theorem dX10_step_7 : decode cX10_step 7 = .ok (.bipush 60, 2) := by decide +kernel
theorem dX10_step_9 : decode cX10_step 9 = .ok (.invokestatic 29, 3) := by decide +kernel
theorem dX10_step_12 : decode cX10_step 12 = .ok (.ifCond .ne 9, 3) := by decide +kernel
theorem dX10_step_21 : decode cX10_step 21 = .ok (.iconst 0, 1) := by decide +kernel
theorem dX10_step_22 : decode cX10_step 22 = .ok (.istore_n 2, 1) := by decide +kernel
theorem dX10_step_23 : decode cX10_step 23 = .ok (.iload_n 2, 1) := by decide +kernel
theorem dX10_step_24 : decode cX10_step 24 = .ok (.iload_n 1, 1) := by decide +kernel
theorem dX10_step_25 : decode cX10_step 25 = .ok (.if_icmp .ge 16, 3) := by decide +kernel
theorem dX10_step_41 : decode cX10_step 41 = .ok (.aload_n 0, 1) := by decide +kernel
theorem dX10_step_42 : decode cX10_step 42 = .ok (.getfield 18, 3) := by decide +kernel
theorem dX10_step_45 : decode cX10_step 45 = .ok (.getfield 103, 3) := by decide +kernel
theorem dX10_step_48 : decode cX10_step 48 = .ok (.ireturn, 1) := by decide +kernel
theorem dX10_step_28 : decode cX10_step 28 = .ok (.aload_n 0, 1) := by decide +kernel
theorem dX10_step_29 : decode cX10_step 29 = .ok (.getfield 18, 3) := by decide +kernel
theorem dX10_step_32 : decode cX10_step 32 = .ok (.invokevirtual 127, 3) := by decide +kernel
theorem dX10_step_35 : decode cX10_step 35 = .ok (.iinc 2 1, 3) := by decide +kernel
theorem dX10_step_38 : decode cX10_step 38 = .ok (.goto (-15), 3) := by decide +kernel
theorem dX10_step_15 : decode cX10_step 15 = .ok (.aload_n 0, 1) := by decide +kernel
theorem dX10_step_16 : decode cX10_step 16 = .ok (.iconst 1, 1) := by decide +kernel
theorem dX10_step_17 : decode cX10_step 17 = .ok (.invokevirtual 39, 3) := by decide +kernel
theorem dX10_step_20 : decode cX10_step 20 = .ok (.ireturn, 1) := by decide +kernel
theorem dX9_moving_0 : decode cX9_moving 0 = .ok (.iconst 0, 1) := by decide +kernel
theorem dX9_moving_1 : decode cX9_moving 1 = .ok (.istore_n 1, 1) := by decide +kernel
theorem dX9_moving_2 : decode cX9_moving 2 = .ok (.iconst 0, 1) := by decide +kernel
theorem dX9_moving_3 : decode cX9_moving 3 = .ok (.istore_n 2, 1) := by decide +kernel
theorem dX9_moving_4 : decode cX9_moving 4 = .ok (.iload_n 2, 1) := by decide +kernel
theorem dX9_moving_5 : decode cX9_moving 5 = .ok (.aload_n 0, 1) := by decide +kernel
theorem dX9_moving_6 : decode cX9_moving 6 = .ok (.getfield 147, 3) := by decide +kernel
theorem dX9_moving_9 : decode cX9_moving 9 = .ok (.if_icmp .ge 36, 3) := by decide +kernel
theorem dX9_moving_45 : decode cX9_moving 45 = .ok (.iload_n 1, 1) := by decide +kernel
theorem dX9_moving_46 : decode cX9_moving 46 = .ok (.ireturn, 1) := by decide +kernel
theorem dX10_emptyIn_0 : decode cX10_emptyIn 0 = .ok (.aload_n 0, 1) := by decide +kernel
theorem dX10_emptyIn_1 : decode cX10_emptyIn 1 = .ok (.iconst 0, 1) := by decide +kernel
theorem dX10_emptyIn_2 : decode cX10_emptyIn 2 = .ok (.putfield 22, 3) := by decide +kernel
theorem dX10_emptyIn_5 : decode cX10_emptyIn 5 = .ok (.iload_n 1, 1) := by decide +kernel
theorem dX10_emptyIn_6 : decode cX10_emptyIn 6 = .ok (.iconst 1, 1) := by decide +kernel
theorem dX10_emptyIn_7 : decode cX10_emptyIn 7 = .ok (.bipush 60, 2) := by decide +kernel
theorem dX10_emptyIn_9 : decode cX10_emptyIn 9 = .ok (.invokestatic 29, 3) := by decide +kernel
theorem dX10_emptyIn_12 : decode cX10_emptyIn 12 = .ok (.ifCond .ne 9, 3) := by decide +kernel
theorem dX10_emptyIn_21 : decode cX10_emptyIn 21 = .ok (.aload_n 0, 1) := by decide +kernel
theorem dX10_emptyIn_22 : decode cX10_emptyIn 22 = .ok (.getfield 18, 3) := by decide +kernel
theorem dX10_emptyIn_25 : decode cX10_emptyIn 25 = .ok (.invokevirtual 205, 3) := by decide +kernel
theorem dX10_emptyIn_28 : decode cX10_emptyIn 28 = .ok (.astore_n 2, 1) := by decide +kernel
theorem dX10_emptyIn_29 : decode cX10_emptyIn 29 = .ok (.iconst 0, 1) := by decide +kernel
theorem dX10_emptyIn_30 : decode cX10_emptyIn 30 = .ok (.istore_n 3, 1) := by decide +kernel
theorem dX10_emptyIn_31 : decode cX10_emptyIn 31 = .ok (.iload_n 3, 1) := by decide +kernel
theorem dX10_emptyIn_32 : decode cX10_emptyIn 32 = .ok (.iload_n 1, 1) := by decide +kernel
theorem dX10_emptyIn_33 : decode cX10_emptyIn 33 = .ok (.if_icmp .gt 27, 3) := by decide +kernel
theorem dX10_emptyIn_36 : decode cX10_emptyIn 36 = .ok (.aload_n 2, 1) := by decide +kernel
theorem dX10_emptyIn_37 : decode cX10_emptyIn 37 = .ok (.invokevirtual 209, 3) := by decide +kernel
theorem dX10_emptyIn_40 : decode cX10_emptyIn 40 = .ok (.ifCond .ne 5, 3) := by decide +kernel
theorem dX10_emptyIn_43 : decode cX10_emptyIn 43 = .ok (.iload_n 3, 1) := by decide +kernel
theorem dX10_emptyIn_44 : decode cX10_emptyIn 44 = .ok (.ireturn, 1) := by decide +kernel
theorem dX10_emptyIn_15 : decode cX10_emptyIn 15 = .ok (.aload_n 0, 1) := by decide +kernel
theorem dX10_emptyIn_16 : decode cX10_emptyIn 16 = .ok (.iconst 1, 1) := by decide +kernel
theorem dX10_emptyIn_17 : decode cX10_emptyIn 17 = .ok (.invokevirtual 39, 3) := by decide +kernel
theorem dX10_emptyIn_20 : decode cX10_emptyIn 20 = .ok (.ireturn, 1) := by decide +kernel
theorem dX10_digest_0 : decode cX10_digest 0 = .ok (.aload_n 0, 1) := by decide +kernel
theorem dX10_digest_1 : decode cX10_digest 1 = .ok (.iconst 0, 1) := by decide +kernel
theorem dX10_digest_2 : decode cX10_digest 2 = .ok (.putfield 22, 3) := by decide +kernel
theorem dX10_digest_5 : decode cX10_digest 5 = .ok (.ldc2_w 213, 3) := by decide +kernel
theorem dX10_digest_8 : decode cX10_digest 8 = .ok (.aload_n 0, 1) := by decide +kernel
theorem dX10_digest_9 : decode cX10_digest 9 = .ok (.getfield 18, 3) := by decide +kernel
theorem dX10_digest_12 : decode cX10_digest 12 = .ok (.getfield 103, 3) := by decide +kernel
theorem dX10_digest_15 : decode cX10_digest 15 = .ok (.i2l, 1) := by decide +kernel
theorem dX10_digest_16 : decode cX10_digest 16 = .ok (.ladd, 1) := by decide +kernel
theorem dX10_digest_17 : decode cX10_digest 17 = .ok (.ldc2_w 215, 3) := by decide +kernel
theorem dX10_digest_20 : decode cX10_digest 20 = .ok (.lmul, 1) := by decide +kernel
theorem dX10_digest_21 : decode cX10_digest 21 = .ok (.aload_n 0, 1) := by decide +kernel
theorem dX10_digest_22 : decode cX10_digest 22 = .ok (.getfield 18, 3) := by decide +kernel
theorem dX10_digest_25 : decode cX10_digest 25 = .ok (.getfield 26, 3) := by decide +kernel
theorem dX10_digest_28 : decode cX10_digest 28 = .ok (.i2l, 1) := by decide +kernel
theorem dX10_digest_29 : decode cX10_digest 29 = .ok (.ladd, 1) := by decide +kernel
theorem dX10_digest_30 : decode cX10_digest 30 = .ok (.ldc2_w 215, 3) := by decide +kernel
theorem dX10_digest_33 : decode cX10_digest 33 = .ok (.lmul, 1) := by decide +kernel
theorem dX10_digest_34 : decode cX10_digest 34 = .ok (.aload_n 0, 1) := by decide +kernel
theorem dX10_digest_35 : decode cX10_digest 35 = .ok (.getfield 18, 3) := by decide +kernel
theorem dX10_digest_38 : decode cX10_digest 38 = .ok (.getfield 33, 3) := by decide +kernel
theorem dX10_digest_41 : decode cX10_digest 41 = .ok (.i2l, 1) := by decide +kernel
theorem dX10_digest_42 : decode cX10_digest 42 = .ok (.ladd, 1) := by decide +kernel
theorem dX10_digest_43 : decode cX10_digest 43 = .ok (.ldc2_w 215, 3) := by decide +kernel
theorem dX10_digest_46 : decode cX10_digest 46 = .ok (.lmul, 1) := by decide +kernel
theorem dX10_digest_47 : decode cX10_digest 47 = .ok (.aload_n 0, 1) := by decide +kernel
theorem dX10_digest_48 : decode cX10_digest 48 = .ok (.getfield 18, 3) := by decide +kernel
theorem dX10_digest_51 : decode cX10_digest 51 = .ok (.getfield 106, 3) := by decide +kernel
theorem dX10_digest_54 : decode cX10_digest 54 = .ok (.i2l, 1) := by decide +kernel
theorem dX10_digest_55 : decode cX10_digest 55 = .ok (.ladd, 1) := by decide +kernel
theorem dX10_digest_56 : decode cX10_digest 56 = .ok (.ldc2_w 215, 3) := by decide +kernel
theorem dX10_digest_59 : decode cX10_digest 59 = .ok (.lmul, 1) := by decide +kernel
theorem dX10_digest_60 : decode cX10_digest 60 = .ok (.aload_n 0, 1) := by decide +kernel
theorem dX10_digest_61 : decode cX10_digest 61 = .ok (.getfield 18, 3) := by decide +kernel
theorem dX10_digest_64 : decode cX10_digest 64 = .ok (.getfield 36, 3) := by decide +kernel
theorem dX10_digest_67 : decode cX10_digest 67 = .ok (.i2l, 1) := by decide +kernel
theorem dX10_digest_68 : decode cX10_digest 68 = .ok (.ladd, 1) := by decide +kernel
theorem dX10_digest_69 : decode cX10_digest 69 = .ok (.lstore_n 1, 1) := by decide +kernel
theorem dX10_digest_70 : decode cX10_digest 70 = .ok (.iconst 0, 1) := by decide +kernel
theorem dX10_digest_71 : decode cX10_digest 71 = .ok (.istore_n 3, 1) := by decide +kernel
theorem dX10_digest_72 : decode cX10_digest 72 = .ok (.iload_n 3, 1) := by decide +kernel
theorem dX10_digest_73 : decode cX10_digest 73 = .ok (.aload_n 0, 1) := by decide +kernel
theorem dX10_digest_74 : decode cX10_digest 74 = .ok (.getfield 18, 3) := by decide +kernel
theorem dX10_digest_77 : decode cX10_digest 77 = .ok (.getfield 26, 3) := by decide +kernel
theorem dX10_digest_80 : decode cX10_digest 80 = .ok (.if_icmp .ge 112, 3) := by decide +kernel
theorem dX10_digest_192 : decode cX10_digest 192 = .ok (.iconst 0, 1) := by decide +kernel
theorem dX10_digest_193 : decode cX10_digest 193 = .ok (.istore_n 3, 1) := by decide +kernel
theorem dX10_digest_194 : decode cX10_digest 194 = .ok (.iload_n 3, 1) := by decide +kernel
theorem dX10_digest_195 : decode cX10_digest 195 = .ok (.aload_n 0, 1) := by decide +kernel
theorem dX10_digest_196 : decode cX10_digest 196 = .ok (.getfield 18, 3) := by decide +kernel
theorem dX10_digest_199 : decode cX10_digest 199 = .ok (.getfield 33, 3) := by decide +kernel
theorem dX10_digest_202 : decode cX10_digest 202 = .ok (.if_icmp .ge 210, 3) := by decide +kernel
theorem dX10_digest_412 : decode cX10_digest 412 = .ok (.iconst 0, 1) := by decide +kernel
theorem dX10_digest_413 : decode cX10_digest 413 = .ok (.istore_n 3, 1) := by decide +kernel
theorem dX10_digest_414 : decode cX10_digest 414 = .ok (.iload_n 3, 1) := by decide +kernel
theorem dX10_digest_415 : decode cX10_digest 415 = .ok (.aload_n 0, 1) := by decide +kernel
theorem dX10_digest_416 : decode cX10_digest 416 = .ok (.getfield 18, 3) := by decide +kernel
theorem dX10_digest_419 : decode cX10_digest 419 = .ok (.getfield 106, 3) := by decide +kernel
theorem dX10_digest_422 : decode cX10_digest 422 = .ok (.if_icmp .ge 43, 3) := by decide +kernel
theorem dX10_digest_465 : decode cX10_digest 465 = .ok (.iconst 0, 1) := by decide +kernel
theorem dX10_digest_466 : decode cX10_digest 466 = .ok (.istore_n 3, 1) := by decide +kernel
theorem dX10_digest_467 : decode cX10_digest 467 = .ok (.iload_n 3, 1) := by decide +kernel
theorem dX10_digest_468 : decode cX10_digest 468 = .ok (.aload_n 0, 1) := by decide +kernel
theorem dX10_digest_469 : decode cX10_digest 469 = .ok (.getfield 18, 3) := by decide +kernel
theorem dX10_digest_472 : decode cX10_digest 472 = .ok (.getfield 36, 3) := by decide +kernel
theorem dX10_digest_475 : decode cX10_digest 475 = .ok (.if_icmp .ge 103, 3) := by decide +kernel
theorem dX10_digest_578 : decode cX10_digest 578 = .ok (.lload_n 1, 1) := by decide +kernel
theorem dX10_digest_579 : decode cX10_digest 579 = .ok (.lreturn, 1) := by decide +kernel
set_option maxRecDepth 100000 in
set_option maxHeartbeats 4000000 in
/-- setRefresh -/
theorem tm_m_setRefresh_in (l : Launch) (hst : l.stackTraces = false) (dC : Nat → ClassId) (dI : Nat → Nat → Nat) (cy : Nat → ClassId) (m0 : Nat) (w0 : Nat) (tv : Int32) (r_phases : Nat) (r_phase : Nat) (r_phaseTicks : Nat) (r_set : Nat) (r_least : Nat) (r_greatest : Nat) (r_from : Nat) (r_to : Nat) (r_time : Nat) (r_room : Nat) (r_first : Nat) (r_rate : Nat) (r_cost : Nat) (r_isShut : Nat) (r_slowed : Nat) (r_row : Nat) (r_size : Nat) (r_came : Nat) (r_left : Nat) (r_mostQueue : Nat) (r_sumQueue : Nat) (r_turned : Nat) (r_flowFrom : Nat) (r_flowTo : Nat) (r_kind : Nat) (r_start : Nat) (r_period : Nat) (r_count : Nat) (r_flow : Nat) (r_began : Nat) (r_state : Nat) (r_link : Nat) (r_end : Nat) (r_gone : Nat) (r_trip : Nat) (r_delay : Nat) (r_way : Nat) (x : Int32) (sz : Nat) (hc : (1 : Int32) ≤ x ∧ x ≤ 30) : Met l yX10_setRefresh (tp_w yX10_setRefresh cX10_setRefresh 3 (some .int)) ({ frames := 1, cells := 0, slots := 0, locals := 22 }) (va_Pc [.ref m0, .int x] (tp_Pre dC dI cy [(m0, .inr (10, [.ref w0, .int tv])), (w0, .inr (9, [.int 0, .int 1, .int 0, .ref r_phases, .ref r_phase, .ref r_phaseTicks, .ref r_set, .ref r_least, .ref r_greatest, .int 0, .ref r_from, .ref r_to, .ref r_time, .ref r_room, .ref r_first, .ref r_rate, .ref r_cost, .ref r_isShut, .ref r_slowed, .ref r_row, .ref r_size, .ref r_came, .ref r_left, .ref r_mostQueue, .ref r_sumQueue, .ref r_turned, .int 0, .ref r_flowFrom, .ref r_flowTo, .ref r_kind, .ref r_start, .ref r_period, .ref r_count, .int 0, .ref r_flow, .ref r_began, .ref r_state, .ref r_link, .ref r_end, .ref r_gone, .ref r_trip, .ref r_delay, .ref r_way]))] sz)) (va_Qi (fun (r u : Int32) => r = u) (fun (u : Int32) (t : State) => (u = 1) ∧ tp_Post dC dI (va_A [(m0, .inr (10, [.ref w0, .int tv])), (w0, .inr (9, [.int 0, .int 1, .int 0, .ref r_phases, .ref r_phase, .ref r_phaseTicks, .ref r_set, .ref r_least, .ref r_greatest, .int 0, .ref r_from, .ref r_to, .ref r_time, .ref r_room, .ref r_first, .ref r_rate, .ref r_cost, .ref r_isShut, .ref r_slowed, .ref r_row, .ref r_size, .ref r_came, .ref r_left, .ref r_mostQueue, .ref r_sumQueue, .ref r_turned, .int 0, .ref r_flowFrom, .ref r_flowTo, .ref r_kind, .ref r_start, .ref r_period, .ref r_count, .int 0, .ref r_flow, .ref r_began, .ref r_state, .ref r_link, .ref r_end, .ref r_gone, .ref r_trip, .ref r_delay, .ref r_way]))] sz) [(m0, .inr (10, [.ref w0, .int 0]))] t) (va_A [(m0, .inr (10, [.ref w0, .int tv])), (w0, .inr (9, [.int 0, .int 1, .int 0, .ref r_phases, .ref r_phase, .ref r_phaseTicks, .ref r_set, .ref r_least, .ref r_greatest, .int 0, .ref r_from, .ref r_to, .ref r_time, .ref r_room, .ref r_first, .ref r_rate, .ref r_cost, .ref r_isShut, .ref r_slowed, .ref r_row, .ref r_size, .ref r_came, .ref r_left, .ref r_mostQueue, .ref r_sumQueue, .ref r_turned, .int 0, .ref r_flowFrom, .ref r_flowTo, .ref r_kind, .ref r_start, .ref r_period, .ref r_count, .int 0, .ref r_flow, .ref r_began, .ref r_state, .ref r_link, .ref r_end, .ref r_gone, .ref r_trip, .ref r_delay, .ref r_way]))] sz)) 0 0 (va_A [(m0, .inr (10, [.ref w0, .int tv])), (w0, .inr (9, [.int 0, .int 1, .int 0, .ref r_phases, .ref r_phase, .ref r_phaseTicks, .ref r_set, .ref r_least, .ref r_greatest, .int 0, .ref r_from, .ref r_to, .ref r_time, .ref r_room, .ref r_first, .ref r_rate, .ref r_cost, .ref r_isShut, .ref r_slowed, .ref r_row, .ref r_size, .ref r_came, .ref r_left, .ref r_mostQueue, .ref r_sumQueue, .ref r_turned, .int 0, .ref r_flowFrom, .ref r_flowTo, .ref r_kind, .ref r_start, .ref r_period, .ref r_count, .int 0, .ref r_flow, .ref r_began, .ref r_state, .ref r_link, .ref r_end, .ref r_gone, .ref r_trip, .ref r_delay, .ref r_way]))] sz) := by
  refine Met.ofW (cc := cX10_setRefresh) (maxL := 3) (ret := (some .int)) (by decide) rfl ?_
  intro p e s m args below meth c s₁ B hml hv
  obtain ⟨rfl, hsz, hP, hK, hD0, hE, hZ⟩ := hv
  have hx := B.exec
  have hb := B.bytes
  have hr := B.returns
  have hts0 := atoms_spec (ws := tp_w yX10_setRefresh cX10_setRefresh 3 (some .int)) B.pre
  have hts : ∀ w ∈ tp_all, w.before _ s = true := fun w h => hts0 w (List.mem_cons_of_mem _ h)
  have hown : s.vm.findClass RX10 = some m.cls := findClass_of_methodNamed B.named
  have hlocks := B.notSynchronized
  subst hsz
  have hD := hD0.self (sz := s.heap.size)
  generalize hAe : va_A [(m0, .inr (10, [.ref w0, .int tv])), (w0, .inr (9, [.int 0, .int 1, .int 0, .ref r_phases, .ref r_phase, .ref r_phaseTicks, .ref r_set, .ref r_least, .ref r_greatest, .int 0, .ref r_from, .ref r_to, .ref r_time, .ref r_room, .ref r_first, .ref r_rate, .ref r_cost, .ref r_isShut, .ref r_slowed, .ref r_row, .ref r_size, .ref r_came, .ref r_left, .ref r_mostQueue, .ref r_sumQueue, .ref r_turned, .int 0, .ref r_flowFrom, .ref r_flowTo, .ref r_kind, .ref r_start, .ref r_period, .ref r_count, .int 0, .ref r_flow, .ref r_began, .ref r_state, .ref r_link, .ref r_end, .ref r_gone, .ref r_trip, .ref r_delay, .ref r_way]))] s.heap.size = A at hD hZ ⊢
  have hA : ∀ q : Nat, s.heap.size ≤ q → A q := fun q h => by rw [← hAe]; exact Or.inr h
  have hS : va_S A s.heap s.heap [] := va_S.rf
  have hl9 := lv_entry ([.ref m0, .int x]) (n := 3) (Nat.le_of_ble_eq_true rfl)
  rw [lg_entry_eq]
  generalize (lg_sl ([.ref m0, .int x]) ++ List.replicate (3 - (lg_sl ([.ref m0, .int x])).length) Slot.unset).toArray = ls at hl9 ⊢
  have hl : lv_has ls 3 [(0, .ref m0), (1, .int x)] := hl9
  refine lv_aload_n hx hb dX10_setRefresh_0 rfl (lv_at hl 0 rfl) ?_
  refine lv_iconst (v := 0) hx hb dX10_setRefresh_1 (by decide) ?_
  refine va_put (D := (dC, dI)) (ci := 10) (v := .int 0) (ty := .int) (C := RX10) (T := TX10) (N := 2) hx hb hts tl_X10 tyX10 tyX10_ok nmX10 hown hK hP hD hS 0 rfl rfl 1 (by decide) (hts _ tw_1311) (fun _ h9 => h9) rfl (by decide +kernel) rfl rfl (Nat.le_of_ble_eq_true rfl) dX10_setRefresh_2 (fun H locs hP hD hS => ?_)
  have hP : va_P (dC, dI) vwCl [(m0, .inr (10, [.ref w0, .int 0])), (w0, .inr (9, [.int 0, .int 1, .int 0, .ref r_phases, .ref r_phase, .ref r_phaseTicks, .ref r_set, .ref r_least, .ref r_greatest, .int 0, .ref r_from, .ref r_to, .ref r_time, .ref r_room, .ref r_first, .ref r_rate, .ref r_cost, .ref r_isShut, .ref r_slowed, .ref r_row, .ref r_size, .ref r_came, .ref r_left, .ref r_mostQueue, .ref r_sumQueue, .ref r_turned, .int 0, .ref r_flowFrom, .ref r_flowTo, .ref r_kind, .ref r_start, .ref r_period, .ref r_count, .int 0, .ref r_flow, .ref r_began, .ref r_state, .ref r_link, .ref r_end, .ref r_gone, .ref r_trip, .ref r_delay, .ref r_way]))] _ := hP
  have hD : va_D A [(m0, .inr (10, [.ref w0, .int 0])), (w0, .inr (9, [.int 0, .int 1, .int 0, .ref r_phases, .ref r_phase, .ref r_phaseTicks, .ref r_set, .ref r_least, .ref r_greatest, .int 0, .ref r_from, .ref r_to, .ref r_time, .ref r_room, .ref r_first, .ref r_rate, .ref r_cost, .ref r_isShut, .ref r_slowed, .ref r_row, .ref r_size, .ref r_came, .ref r_left, .ref r_mostQueue, .ref r_sumQueue, .ref r_turned, .int 0, .ref r_flowFrom, .ref r_flowTo, .ref r_kind, .ref r_start, .ref r_period, .ref r_count, .int 0, .ref r_flow, .ref r_began, .ref r_state, .ref r_link, .ref r_end, .ref r_gone, .ref r_trip, .ref r_delay, .ref r_way]))] := hD
  refine lv_iload_n hx hb dX10_setRefresh_5 rfl (lv_at hl 1 rfl) ?_
  refine lv_iconst (v := 1) hx hb dX10_setRefresh_6 (by decide) ?_
  refine lv_bipush (v := 30) hx hb dX10_setRefresh_7 (by decide) ?_
  have hFc := va_free (wc := []) hD hS hA [] rfl
  refine va_calli (va_runS (As := [.int x, .int 1, .int 30]) (rest := []) ⟨hx, hb, hml, hown, hts⟩ (tm_isIn_in l hst dC dI cy x 1 30 H.size (by first | assumption | exact tp_none _ | decide | omega)) (tp_cwS 3 hts tw_1337 tw_1338 tw_48 tw_1339 rfl rfl (by decide +kernel) ⟨Nat.le_of_ble_eq_true rfl, Nat.le_of_ble_eq_true rfl⟩) ⟨tp_blind, fun U hU hW => ⟨rfl, tp_pay hK hP hD hE hZ hS [] (by decide) rfl hFc U hU hW⟩⟩ rfl rfl hl.1 rfl (lv_room (Nat.le_of_ble_eq_true rfl)) dX10_setRefresh_9 ⟨(Nat.le_of_ble_eq_true rfl), (Nat.le_of_ble_eq_true rfl)⟩) hS (fun q _ h => hFc q h) hFc (fun r_1 u t H1 locs ht hvm hw hB hz1 hk1 hS => ?_)
  obtain rfl := hw
  obtain ⟨f_2, hP1, hD1⟩ := hB
  subst f_2
  rw [ht] at hP1
  obtain ⟨hP, hD⟩ := va_join (wr := [(m0, .inr (10, [.ref w0, .int 0])), (w0, .inr (9, [.int 0, .int 1, .int 0, .ref r_phases, .ref r_phase, .ref r_phaseTicks, .ref r_set, .ref r_least, .ref r_greatest, .int 0, .ref r_from, .ref r_to, .ref r_time, .ref r_room, .ref r_first, .ref r_rate, .ref r_cost, .ref r_isShut, .ref r_slowed, .ref r_row, .ref r_size, .ref r_came, .ref r_left, .ref r_mostQueue, .ref r_sumQueue, .ref r_turned, .int 0, .ref r_flowFrom, .ref r_flowTo, .ref r_kind, .ref r_start, .ref r_period, .ref r_count, .int 0, .ref r_flow, .ref r_began, .ref r_state, .ref r_link, .ref r_end, .ref r_gone, .ref r_trip, .ref r_delay, .ref r_way]))]) (w1 := []) hP hD [] [0, 1] rfl rfl (by decide) (by decide) hk1 hFc hP1 hD1
  generalize H1 = H at hP hS ⊢
  have hP : va_P (dC, dI) vwCl [(m0, .inr (10, [.ref w0, .int 0])), (w0, .inr (9, [.int 0, .int 1, .int 0, .ref r_phases, .ref r_phase, .ref r_phaseTicks, .ref r_set, .ref r_least, .ref r_greatest, .int 0, .ref r_from, .ref r_to, .ref r_time, .ref r_room, .ref r_first, .ref r_rate, .ref r_cost, .ref r_isShut, .ref r_slowed, .ref r_row, .ref r_size, .ref r_came, .ref r_left, .ref r_mostQueue, .ref r_sumQueue, .ref r_turned, .int 0, .ref r_flowFrom, .ref r_flowTo, .ref r_kind, .ref r_start, .ref r_period, .ref r_count, .int 0, .ref r_flow, .ref r_began, .ref r_state, .ref r_link, .ref r_end, .ref r_gone, .ref r_trip, .ref r_delay, .ref r_way]))] _ := hP
  have hD : va_D A [(m0, .inr (10, [.ref w0, .int 0])), (w0, .inr (9, [.int 0, .int 1, .int 0, .ref r_phases, .ref r_phase, .ref r_phaseTicks, .ref r_set, .ref r_least, .ref r_greatest, .int 0, .ref r_from, .ref r_to, .ref r_time, .ref r_room, .ref r_first, .ref r_rate, .ref r_cost, .ref r_isShut, .ref r_slowed, .ref r_row, .ref r_size, .ref r_came, .ref r_left, .ref r_mostQueue, .ref r_sumQueue, .ref r_turned, .int 0, .ref r_flowFrom, .ref r_flowTo, .ref r_kind, .ref r_start, .ref r_period, .ref r_count, .int 0, .ref r_flow, .ref r_began, .ref r_state, .ref r_link, .ref r_end, .ref r_gone, .ref r_trip, .ref r_delay, .ref r_way]))] := hD
  refine lv_if_ne (tgt := 21) hx hb dX10_setRefresh_12 (by decide) (fun _ => ?_) (fun c_3 => absurd c_3 (by decide))
  refine lv_aload_n hx hb dX10_setRefresh_21 rfl (lv_at hl 0 rfl) ?_
  refine va_get (D := (dC, dI)) (ci := 10) (v := .ref w0) (C := RX10) (T := TX10) (N := 2) hx hb hts tl_X10 hown hK hP 0 rfl rfl 0 (by decide) (hts _ tw_1310) (fun _ h9 => h9) rfl dX10_setRefresh_22 ?_
  refine va_get (D := (dC, dI)) (ci := 9) (v := .int 1) (C := RX9) (T := TX9) (N := 43) hx hb hts tl_X9 hown hK hP 1 rfl rfl 1 (by decide) (hts _ tw_1142) (fun _ h9 => h9) rfl dX10_setRefresh_25 ?_
  refine lv_istore_n (lv' := [(2, .int 1), (0, .ref m0), (1, .int x)]) hx hb dX10_setRefresh_28 rfl hl (by decide) rfl (fun ls hl => ?_)
  refine lv_aload_n hx hb dX10_setRefresh_29 rfl (lv_at hl 1 rfl) ?_
  refine va_get (D := (dC, dI)) (ci := 10) (v := .ref w0) (C := RX10) (T := TX10) (N := 2) hx hb hts tl_X10 hown hK hP 0 rfl rfl 0 (by decide) (hts _ tw_1310) (fun _ h9 => h9) rfl dX10_setRefresh_30 ?_
  refine lv_iload_n hx hb dX10_setRefresh_33 rfl (lv_at hl 2 rfl) ?_
  refine va_put (D := (dC, dI)) (ci := 9) (v := .int x) (ty := .int) (C := RX9) (T := TX9) (N := 43) hx hb hts tl_X9 tyX9 tyX9_ok nmX9 hown hK hP hD hS 1 rfl rfl 1 (by decide) (hts _ tw_1142) (fun _ h9 => h9) rfl (by decide +kernel) rfl rfl (Nat.le_of_ble_eq_true rfl) dX10_setRefresh_34 (fun H locs hP hD hS => ?_)
  have hP : va_P (dC, dI) vwCl [(m0, .inr (10, [.ref w0, .int 0])), (w0, .inr (9, [.int 0, .int x, .int 0, .ref r_phases, .ref r_phase, .ref r_phaseTicks, .ref r_set, .ref r_least, .ref r_greatest, .int 0, .ref r_from, .ref r_to, .ref r_time, .ref r_room, .ref r_first, .ref r_rate, .ref r_cost, .ref r_isShut, .ref r_slowed, .ref r_row, .ref r_size, .ref r_came, .ref r_left, .ref r_mostQueue, .ref r_sumQueue, .ref r_turned, .int 0, .ref r_flowFrom, .ref r_flowTo, .ref r_kind, .ref r_start, .ref r_period, .ref r_count, .int 0, .ref r_flow, .ref r_began, .ref r_state, .ref r_link, .ref r_end, .ref r_gone, .ref r_trip, .ref r_delay, .ref r_way]))] _ := hP
  have hD : va_D A [(m0, .inr (10, [.ref w0, .int 0])), (w0, .inr (9, [.int 0, .int x, .int 0, .ref r_phases, .ref r_phase, .ref r_phaseTicks, .ref r_set, .ref r_least, .ref r_greatest, .int 0, .ref r_from, .ref r_to, .ref r_time, .ref r_room, .ref r_first, .ref r_rate, .ref r_cost, .ref r_isShut, .ref r_slowed, .ref r_row, .ref r_size, .ref r_came, .ref r_left, .ref r_mostQueue, .ref r_sumQueue, .ref r_turned, .int 0, .ref r_flowFrom, .ref r_flowTo, .ref r_kind, .ref r_start, .ref r_period, .ref r_count, .int 0, .ref r_flow, .ref r_began, .ref r_state, .ref r_link, .ref r_end, .ref r_gone, .ref r_trip, .ref r_delay, .ref r_way]))] := hD
  refine lv_iload_n hx hb dX10_setRefresh_37 rfl (lv_at hl 0 rfl) ?_
  refine W.widen (k := 0) (n := 0) (Nat.le_of_ble_eq_true rfl) (Nat.le_of_ble_eq_true rfl) ?_
  have hP9 := hP.sub (ws' := [(m0, .inr (10, [.ref w0, .int 0]))]) [0] rfl
  have hD9 := hD.sub (ws' := [(m0, .inr (10, [.ref w0, .int 0]))]) [0] (by decide) rfl
  exact W.iret (v := 1) hx hb hr (fun t ht hW => ⟨⟨1, 1, rfl, rfl, ⟨(by first | rfl | assumption), by rw [ht]; exact hP9, hD9⟩⟩, hS.F ht⟩) hS.2.2 dX10_setRefresh_38
set_option maxRecDepth 100000 in
set_option maxHeartbeats 4000000 in
/-- setRefresh refused -/
theorem tm_m_setRefresh_out (l : Launch) (hst : l.stackTraces = false) (dC : Nat → ClassId) (dI : Nat → Nat → Nat) (cy : Nat → ClassId) (m0 : Nat) (w0 : Nat) (tv : Int32) (r_phases : Nat) (r_phase : Nat) (r_phaseTicks : Nat) (r_set : Nat) (r_least : Nat) (r_greatest : Nat) (r_from : Nat) (r_to : Nat) (r_time : Nat) (r_room : Nat) (r_first : Nat) (r_rate : Nat) (r_cost : Nat) (r_isShut : Nat) (r_slowed : Nat) (r_row : Nat) (r_size : Nat) (r_came : Nat) (r_left : Nat) (r_mostQueue : Nat) (r_sumQueue : Nat) (r_turned : Nat) (r_flowFrom : Nat) (r_flowTo : Nat) (r_kind : Nat) (r_start : Nat) (r_period : Nat) (r_count : Nat) (r_flow : Nat) (r_began : Nat) (r_state : Nat) (r_link : Nat) (r_end : Nat) (r_gone : Nat) (r_trip : Nat) (r_delay : Nat) (r_way : Nat) (x : Int32) (sz : Nat) (hc : ¬ ((1 : Int32) ≤ x ∧ x ≤ 30)) : Met l yX10_setRefresh (tp_w yX10_setRefresh cX10_setRefresh 3 (some .int)) ({ frames := 1, cells := 0, slots := 0, locals := 22 }) (va_Pc [.ref m0, .int x] (tp_Pre dC dI cy [(m0, .inr (10, [.ref w0, .int tv])), (w0, .inr (9, [.int 0, .int 1, .int 0, .ref r_phases, .ref r_phase, .ref r_phaseTicks, .ref r_set, .ref r_least, .ref r_greatest, .int 0, .ref r_from, .ref r_to, .ref r_time, .ref r_room, .ref r_first, .ref r_rate, .ref r_cost, .ref r_isShut, .ref r_slowed, .ref r_row, .ref r_size, .ref r_came, .ref r_left, .ref r_mostQueue, .ref r_sumQueue, .ref r_turned, .int 0, .ref r_flowFrom, .ref r_flowTo, .ref r_kind, .ref r_start, .ref r_period, .ref r_count, .int 0, .ref r_flow, .ref r_began, .ref r_state, .ref r_link, .ref r_end, .ref r_gone, .ref r_trip, .ref r_delay, .ref r_way]))] sz)) (va_Qi (fun (r u : Int32) => r = u) (fun (u : Int32) (t : State) => (u = 0) ∧ tp_Post dC dI (va_A [(m0, .inr (10, [.ref w0, .int tv])), (w0, .inr (9, [.int 0, .int 1, .int 0, .ref r_phases, .ref r_phase, .ref r_phaseTicks, .ref r_set, .ref r_least, .ref r_greatest, .int 0, .ref r_from, .ref r_to, .ref r_time, .ref r_room, .ref r_first, .ref r_rate, .ref r_cost, .ref r_isShut, .ref r_slowed, .ref r_row, .ref r_size, .ref r_came, .ref r_left, .ref r_mostQueue, .ref r_sumQueue, .ref r_turned, .int 0, .ref r_flowFrom, .ref r_flowTo, .ref r_kind, .ref r_start, .ref r_period, .ref r_count, .int 0, .ref r_flow, .ref r_began, .ref r_state, .ref r_link, .ref r_end, .ref r_gone, .ref r_trip, .ref r_delay, .ref r_way]))] sz) [(m0, .inr (10, [.ref w0, .int 1]))] t) (va_A [(m0, .inr (10, [.ref w0, .int tv])), (w0, .inr (9, [.int 0, .int 1, .int 0, .ref r_phases, .ref r_phase, .ref r_phaseTicks, .ref r_set, .ref r_least, .ref r_greatest, .int 0, .ref r_from, .ref r_to, .ref r_time, .ref r_room, .ref r_first, .ref r_rate, .ref r_cost, .ref r_isShut, .ref r_slowed, .ref r_row, .ref r_size, .ref r_came, .ref r_left, .ref r_mostQueue, .ref r_sumQueue, .ref r_turned, .int 0, .ref r_flowFrom, .ref r_flowTo, .ref r_kind, .ref r_start, .ref r_period, .ref r_count, .int 0, .ref r_flow, .ref r_began, .ref r_state, .ref r_link, .ref r_end, .ref r_gone, .ref r_trip, .ref r_delay, .ref r_way]))] sz)) 0 0 (va_A [(m0, .inr (10, [.ref w0, .int tv])), (w0, .inr (9, [.int 0, .int 1, .int 0, .ref r_phases, .ref r_phase, .ref r_phaseTicks, .ref r_set, .ref r_least, .ref r_greatest, .int 0, .ref r_from, .ref r_to, .ref r_time, .ref r_room, .ref r_first, .ref r_rate, .ref r_cost, .ref r_isShut, .ref r_slowed, .ref r_row, .ref r_size, .ref r_came, .ref r_left, .ref r_mostQueue, .ref r_sumQueue, .ref r_turned, .int 0, .ref r_flowFrom, .ref r_flowTo, .ref r_kind, .ref r_start, .ref r_period, .ref r_count, .int 0, .ref r_flow, .ref r_began, .ref r_state, .ref r_link, .ref r_end, .ref r_gone, .ref r_trip, .ref r_delay, .ref r_way]))] sz) := by
  refine Met.ofW (cc := cX10_setRefresh) (maxL := 3) (ret := (some .int)) (by decide) rfl ?_
  intro p e s m args below meth c s₁ B hml hv
  obtain ⟨rfl, hsz, hP, hK, hD0, hE, hZ⟩ := hv
  have hx := B.exec
  have hb := B.bytes
  have hr := B.returns
  have hts0 := atoms_spec (ws := tp_w yX10_setRefresh cX10_setRefresh 3 (some .int)) B.pre
  have hts : ∀ w ∈ tp_all, w.before _ s = true := fun w h => hts0 w (List.mem_cons_of_mem _ h)
  have hown : s.vm.findClass RX10 = some m.cls := findClass_of_methodNamed B.named
  have hlocks := B.notSynchronized
  subst hsz
  have hD := hD0.self (sz := s.heap.size)
  generalize hAe : va_A [(m0, .inr (10, [.ref w0, .int tv])), (w0, .inr (9, [.int 0, .int 1, .int 0, .ref r_phases, .ref r_phase, .ref r_phaseTicks, .ref r_set, .ref r_least, .ref r_greatest, .int 0, .ref r_from, .ref r_to, .ref r_time, .ref r_room, .ref r_first, .ref r_rate, .ref r_cost, .ref r_isShut, .ref r_slowed, .ref r_row, .ref r_size, .ref r_came, .ref r_left, .ref r_mostQueue, .ref r_sumQueue, .ref r_turned, .int 0, .ref r_flowFrom, .ref r_flowTo, .ref r_kind, .ref r_start, .ref r_period, .ref r_count, .int 0, .ref r_flow, .ref r_began, .ref r_state, .ref r_link, .ref r_end, .ref r_gone, .ref r_trip, .ref r_delay, .ref r_way]))] s.heap.size = A at hD hZ ⊢
  have hA : ∀ q : Nat, s.heap.size ≤ q → A q := fun q h => by rw [← hAe]; exact Or.inr h
  have hS : va_S A s.heap s.heap [] := va_S.rf
  have hl9 := lv_entry ([.ref m0, .int x]) (n := 3) (Nat.le_of_ble_eq_true rfl)
  rw [lg_entry_eq]
  generalize (lg_sl ([.ref m0, .int x]) ++ List.replicate (3 - (lg_sl ([.ref m0, .int x])).length) Slot.unset).toArray = ls at hl9 ⊢
  have hl : lv_has ls 3 [(0, .ref m0), (1, .int x)] := hl9
  refine lv_aload_n hx hb dX10_setRefresh_0 rfl (lv_at hl 0 rfl) ?_
  refine lv_iconst (v := 0) hx hb dX10_setRefresh_1 (by decide) ?_
  refine va_put (D := (dC, dI)) (ci := 10) (v := .int 0) (ty := .int) (C := RX10) (T := TX10) (N := 2) hx hb hts tl_X10 tyX10 tyX10_ok nmX10 hown hK hP hD hS 0 rfl rfl 1 (by decide) (hts _ tw_1311) (fun _ h9 => h9) rfl (by decide +kernel) rfl rfl (Nat.le_of_ble_eq_true rfl) dX10_setRefresh_2 (fun H locs hP hD hS => ?_)
  have hP : va_P (dC, dI) vwCl [(m0, .inr (10, [.ref w0, .int 0])), (w0, .inr (9, [.int 0, .int 1, .int 0, .ref r_phases, .ref r_phase, .ref r_phaseTicks, .ref r_set, .ref r_least, .ref r_greatest, .int 0, .ref r_from, .ref r_to, .ref r_time, .ref r_room, .ref r_first, .ref r_rate, .ref r_cost, .ref r_isShut, .ref r_slowed, .ref r_row, .ref r_size, .ref r_came, .ref r_left, .ref r_mostQueue, .ref r_sumQueue, .ref r_turned, .int 0, .ref r_flowFrom, .ref r_flowTo, .ref r_kind, .ref r_start, .ref r_period, .ref r_count, .int 0, .ref r_flow, .ref r_began, .ref r_state, .ref r_link, .ref r_end, .ref r_gone, .ref r_trip, .ref r_delay, .ref r_way]))] _ := hP
  have hD : va_D A [(m0, .inr (10, [.ref w0, .int 0])), (w0, .inr (9, [.int 0, .int 1, .int 0, .ref r_phases, .ref r_phase, .ref r_phaseTicks, .ref r_set, .ref r_least, .ref r_greatest, .int 0, .ref r_from, .ref r_to, .ref r_time, .ref r_room, .ref r_first, .ref r_rate, .ref r_cost, .ref r_isShut, .ref r_slowed, .ref r_row, .ref r_size, .ref r_came, .ref r_left, .ref r_mostQueue, .ref r_sumQueue, .ref r_turned, .int 0, .ref r_flowFrom, .ref r_flowTo, .ref r_kind, .ref r_start, .ref r_period, .ref r_count, .int 0, .ref r_flow, .ref r_began, .ref r_state, .ref r_link, .ref r_end, .ref r_gone, .ref r_trip, .ref r_delay, .ref r_way]))] := hD
  refine lv_iload_n hx hb dX10_setRefresh_5 rfl (lv_at hl 1 rfl) ?_
  refine lv_iconst (v := 1) hx hb dX10_setRefresh_6 (by decide) ?_
  refine lv_bipush (v := 30) hx hb dX10_setRefresh_7 (by decide) ?_
  have hFc := va_free (wc := []) hD hS hA [] rfl
  refine va_calli (va_runS (As := [.int x, .int 1, .int 30]) (rest := []) ⟨hx, hb, hml, hown, hts⟩ (tm_isIn_out l hst dC dI cy x 1 30 H.size (by first | assumption | exact tp_none _ | decide | omega)) (tp_cwS 3 hts tw_1337 tw_1338 tw_48 tw_1339 rfl rfl (by decide +kernel) ⟨Nat.le_of_ble_eq_true rfl, Nat.le_of_ble_eq_true rfl⟩) ⟨tp_blind, fun U hU hW => ⟨rfl, tp_pay hK hP hD hE hZ hS [] (by decide) rfl hFc U hU hW⟩⟩ rfl rfl hl.1 rfl (lv_room (Nat.le_of_ble_eq_true rfl)) dX10_setRefresh_9 ⟨(Nat.le_of_ble_eq_true rfl), (Nat.le_of_ble_eq_true rfl)⟩) hS (fun q _ h => hFc q h) hFc (fun r_1 u t H1 locs ht hvm hw hB hz1 hk1 hS => ?_)
  obtain rfl := hw
  obtain ⟨f_2, hP1, hD1⟩ := hB
  subst f_2
  rw [ht] at hP1
  obtain ⟨hP, hD⟩ := va_join (wr := [(m0, .inr (10, [.ref w0, .int 0])), (w0, .inr (9, [.int 0, .int 1, .int 0, .ref r_phases, .ref r_phase, .ref r_phaseTicks, .ref r_set, .ref r_least, .ref r_greatest, .int 0, .ref r_from, .ref r_to, .ref r_time, .ref r_room, .ref r_first, .ref r_rate, .ref r_cost, .ref r_isShut, .ref r_slowed, .ref r_row, .ref r_size, .ref r_came, .ref r_left, .ref r_mostQueue, .ref r_sumQueue, .ref r_turned, .int 0, .ref r_flowFrom, .ref r_flowTo, .ref r_kind, .ref r_start, .ref r_period, .ref r_count, .int 0, .ref r_flow, .ref r_began, .ref r_state, .ref r_link, .ref r_end, .ref r_gone, .ref r_trip, .ref r_delay, .ref r_way]))]) (w1 := []) hP hD [] [0, 1] rfl rfl (by decide) (by decide) hk1 hFc hP1 hD1
  generalize H1 = H at hP hS ⊢
  have hP : va_P (dC, dI) vwCl [(m0, .inr (10, [.ref w0, .int 0])), (w0, .inr (9, [.int 0, .int 1, .int 0, .ref r_phases, .ref r_phase, .ref r_phaseTicks, .ref r_set, .ref r_least, .ref r_greatest, .int 0, .ref r_from, .ref r_to, .ref r_time, .ref r_room, .ref r_first, .ref r_rate, .ref r_cost, .ref r_isShut, .ref r_slowed, .ref r_row, .ref r_size, .ref r_came, .ref r_left, .ref r_mostQueue, .ref r_sumQueue, .ref r_turned, .int 0, .ref r_flowFrom, .ref r_flowTo, .ref r_kind, .ref r_start, .ref r_period, .ref r_count, .int 0, .ref r_flow, .ref r_began, .ref r_state, .ref r_link, .ref r_end, .ref r_gone, .ref r_trip, .ref r_delay, .ref r_way]))] _ := hP
  have hD : va_D A [(m0, .inr (10, [.ref w0, .int 0])), (w0, .inr (9, [.int 0, .int 1, .int 0, .ref r_phases, .ref r_phase, .ref r_phaseTicks, .ref r_set, .ref r_least, .ref r_greatest, .int 0, .ref r_from, .ref r_to, .ref r_time, .ref r_room, .ref r_first, .ref r_rate, .ref r_cost, .ref r_isShut, .ref r_slowed, .ref r_row, .ref r_size, .ref r_came, .ref r_left, .ref r_mostQueue, .ref r_sumQueue, .ref r_turned, .int 0, .ref r_flowFrom, .ref r_flowTo, .ref r_kind, .ref r_start, .ref r_period, .ref r_count, .int 0, .ref r_flow, .ref r_began, .ref r_state, .ref r_link, .ref r_end, .ref r_gone, .ref r_trip, .ref r_delay, .ref r_way]))] := hD
  refine lv_if_ne (tgt := 21) hx hb dX10_setRefresh_12 (by decide) (fun c_3 => absurd (by decide) c_3) (fun _ => ?_)
  refine lv_aload_n hx hb dX10_setRefresh_15 rfl (lv_at hl 0 rfl) ?_
  refine lv_iconst (v := 1) hx hb dX10_setRefresh_16 (by decide) ?_
  have hFc := va_free (wc := [(m0, .inr (10, [.ref w0, .int 0]))]) hD hS hA [0] rfl
  refine va_calli (va_runV (As := [.int 1]) (rest := []) ⟨hx, hb, hml, hown, hts⟩ (tm_m_no l hst dC dI cy m0 w0 0 1 H.size) (tp_cwV 1 hts tw_1325 tw_1327 tw_18 tw_48 tw_1328 rfl rfl (by decide +kernel) ⟨Nat.le_of_ble_eq_true rfl, Nat.le_of_ble_eq_true rfl⟩) ⟨tp_blind, va_recv hK hP (ci := 10) (q0 := 0) rfl rfl, fun U hU hW => ⟨rfl, tp_pay hK hP hD hE hZ hS [0] (by decide) rfl hFc U hU hW⟩⟩ rfl rfl hl.1 rfl (lv_room (Nat.le_of_ble_eq_true rfl)) dX10_setRefresh_17 ⟨(Nat.le_of_ble_eq_true rfl), (Nat.le_of_ble_eq_true rfl)⟩) hS (fun q _ h => hFc q h) hFc (fun r_4 u t H1 locs ht hvm hw hB hz1 hk1 hS => ?_)
  obtain rfl := hw
  obtain ⟨f_5, hP1, hD1⟩ := hB
  subst f_5
  rw [ht] at hP1
  obtain ⟨hP, hD⟩ := va_join (wr := [(w0, .inr (9, [.int 0, .int 1, .int 0, .ref r_phases, .ref r_phase, .ref r_phaseTicks, .ref r_set, .ref r_least, .ref r_greatest, .int 0, .ref r_from, .ref r_to, .ref r_time, .ref r_room, .ref r_first, .ref r_rate, .ref r_cost, .ref r_isShut, .ref r_slowed, .ref r_row, .ref r_size, .ref r_came, .ref r_left, .ref r_mostQueue, .ref r_sumQueue, .ref r_turned, .int 0, .ref r_flowFrom, .ref r_flowTo, .ref r_kind, .ref r_start, .ref r_period, .ref r_count, .int 0, .ref r_flow, .ref r_began, .ref r_state, .ref r_link, .ref r_end, .ref r_gone, .ref r_trip, .ref r_delay, .ref r_way]))]) (w1 := [(m0, .inr (10, [.ref w0, .int 1]))]) hP hD [0] [1] rfl rfl (by decide) (by decide) hk1 hFc hP1 hD1
  generalize H1 = H at hP hS ⊢
  have hP : va_P (dC, dI) vwCl [(w0, .inr (9, [.int 0, .int 1, .int 0, .ref r_phases, .ref r_phase, .ref r_phaseTicks, .ref r_set, .ref r_least, .ref r_greatest, .int 0, .ref r_from, .ref r_to, .ref r_time, .ref r_room, .ref r_first, .ref r_rate, .ref r_cost, .ref r_isShut, .ref r_slowed, .ref r_row, .ref r_size, .ref r_came, .ref r_left, .ref r_mostQueue, .ref r_sumQueue, .ref r_turned, .int 0, .ref r_flowFrom, .ref r_flowTo, .ref r_kind, .ref r_start, .ref r_period, .ref r_count, .int 0, .ref r_flow, .ref r_began, .ref r_state, .ref r_link, .ref r_end, .ref r_gone, .ref r_trip, .ref r_delay, .ref r_way])), (m0, .inr (10, [.ref w0, .int 1]))] _ := hP
  have hD : va_D A [(w0, .inr (9, [.int 0, .int 1, .int 0, .ref r_phases, .ref r_phase, .ref r_phaseTicks, .ref r_set, .ref r_least, .ref r_greatest, .int 0, .ref r_from, .ref r_to, .ref r_time, .ref r_room, .ref r_first, .ref r_rate, .ref r_cost, .ref r_isShut, .ref r_slowed, .ref r_row, .ref r_size, .ref r_came, .ref r_left, .ref r_mostQueue, .ref r_sumQueue, .ref r_turned, .int 0, .ref r_flowFrom, .ref r_flowTo, .ref r_kind, .ref r_start, .ref r_period, .ref r_count, .int 0, .ref r_flow, .ref r_began, .ref r_state, .ref r_link, .ref r_end, .ref r_gone, .ref r_trip, .ref r_delay, .ref r_way])), (m0, .inr (10, [.ref w0, .int 1]))] := hD
  refine W.widen (k := 0) (n := 0) (Nat.le_of_ble_eq_true rfl) (Nat.le_of_ble_eq_true rfl) ?_
  have hP9 := hP.sub (ws' := [(m0, .inr (10, [.ref w0, .int 1]))]) [1] rfl
  have hD9 := hD.sub (ws' := [(m0, .inr (10, [.ref w0, .int 1]))]) [1] (by decide) rfl
  exact W.iret (v := 0) hx hb hr (fun t ht hW => ⟨⟨0, 0, rfl, rfl, ⟨(by first | rfl | assumption), by rw [ht]; exact hP9, hD9⟩⟩, hS.F ht⟩) hS.2.2 dX10_setRefresh_20
set_option maxRecDepth 100000 in
set_option maxHeartbeats 4000000 in
/-- meanTrip -/
theorem tm_m_meanTrip (l : Launch) (hst : l.stackTraces = false) (dC : Nat → ClassId) (dI : Nat → Nat → Nat) (cy : Nat → ClassId) (m0 : Nat) (w0 : Nat) (tv : Int32) (r_phases : Nat) (r_phase : Nat) (r_phaseTicks : Nat) (r_set : Nat) (r_least : Nat) (r_greatest : Nat) (r_from : Nat) (r_to : Nat) (r_time : Nat) (r_room : Nat) (r_first : Nat) (r_rate : Nat) (r_cost : Nat) (r_isShut : Nat) (r_slowed : Nat) (r_row : Nat) (r_size : Nat) (r_came : Nat) (r_left : Nat) (r_mostQueue : Nat) (r_sumQueue : Nat) (r_turned : Nat) (r_flowFrom : Nat) (r_flowTo : Nat) (r_kind : Nat) (r_start : Nat) (r_period : Nat) (r_count : Nat) (r_flow : Nat) (r_began : Nat) (r_state : Nat) (r_link : Nat) (r_end : Nat) (r_gone : Nat) (r_trip : Nat) (r_delay : Nat) (r_way : Nat) (sz : Nat) : Met l yX10_meanTrip (tp_w yX10_meanTrip cX10_meanTrip 4 (some .double)) ({ frames := 0, cells := 0, slots := 0, locals := 0 }) (va_Pc [.ref m0] (tp_Pre dC dI cy [(m0, .inr (10, [.ref w0, .int tv])), (w0, .inr (9, [.int 0, .int 1, .int 0, .ref r_phases, .ref r_phase, .ref r_phaseTicks, .ref r_set, .ref r_least, .ref r_greatest, .int 0, .ref r_from, .ref r_to, .ref r_time, .ref r_room, .ref r_first, .ref r_rate, .ref r_cost, .ref r_isShut, .ref r_slowed, .ref r_row, .ref r_size, .ref r_came, .ref r_left, .ref r_mostQueue, .ref r_sumQueue, .ref r_turned, .int 0, .ref r_flowFrom, .ref r_flowTo, .ref r_kind, .ref r_start, .ref r_period, .ref r_count, .int 0, .ref r_flow, .ref r_began, .ref r_state, .ref r_link, .ref r_end, .ref r_gone, .ref r_trip, .ref r_delay, .ref r_way]))] sz)) (va_Qd (fun (r u : UInt64) => r = u) (fun (u : UInt64) (t : State) => (u = 0) ∧ tp_Post dC dI (va_A [(m0, .inr (10, [.ref w0, .int tv])), (w0, .inr (9, [.int 0, .int 1, .int 0, .ref r_phases, .ref r_phase, .ref r_phaseTicks, .ref r_set, .ref r_least, .ref r_greatest, .int 0, .ref r_from, .ref r_to, .ref r_time, .ref r_room, .ref r_first, .ref r_rate, .ref r_cost, .ref r_isShut, .ref r_slowed, .ref r_row, .ref r_size, .ref r_came, .ref r_left, .ref r_mostQueue, .ref r_sumQueue, .ref r_turned, .int 0, .ref r_flowFrom, .ref r_flowTo, .ref r_kind, .ref r_start, .ref r_period, .ref r_count, .int 0, .ref r_flow, .ref r_began, .ref r_state, .ref r_link, .ref r_end, .ref r_gone, .ref r_trip, .ref r_delay, .ref r_way]))] sz) [(m0, .inr (10, [.ref w0, .int 0]))] t) (va_A [(m0, .inr (10, [.ref w0, .int tv])), (w0, .inr (9, [.int 0, .int 1, .int 0, .ref r_phases, .ref r_phase, .ref r_phaseTicks, .ref r_set, .ref r_least, .ref r_greatest, .int 0, .ref r_from, .ref r_to, .ref r_time, .ref r_room, .ref r_first, .ref r_rate, .ref r_cost, .ref r_isShut, .ref r_slowed, .ref r_row, .ref r_size, .ref r_came, .ref r_left, .ref r_mostQueue, .ref r_sumQueue, .ref r_turned, .int 0, .ref r_flowFrom, .ref r_flowTo, .ref r_kind, .ref r_start, .ref r_period, .ref r_count, .int 0, .ref r_flow, .ref r_began, .ref r_state, .ref r_link, .ref r_end, .ref r_gone, .ref r_trip, .ref r_delay, .ref r_way]))] sz)) 0 0 (va_A [(m0, .inr (10, [.ref w0, .int tv])), (w0, .inr (9, [.int 0, .int 1, .int 0, .ref r_phases, .ref r_phase, .ref r_phaseTicks, .ref r_set, .ref r_least, .ref r_greatest, .int 0, .ref r_from, .ref r_to, .ref r_time, .ref r_room, .ref r_first, .ref r_rate, .ref r_cost, .ref r_isShut, .ref r_slowed, .ref r_row, .ref r_size, .ref r_came, .ref r_left, .ref r_mostQueue, .ref r_sumQueue, .ref r_turned, .int 0, .ref r_flowFrom, .ref r_flowTo, .ref r_kind, .ref r_start, .ref r_period, .ref r_count, .int 0, .ref r_flow, .ref r_began, .ref r_state, .ref r_link, .ref r_end, .ref r_gone, .ref r_trip, .ref r_delay, .ref r_way]))] sz) := by
  refine Met.ofW (cc := cX10_meanTrip) (maxL := 4) (ret := (some .double)) (by decide) rfl ?_
  intro p e s m args below meth c s₁ B hml hv
  obtain ⟨rfl, hsz, hP, hK, hD0, hE, hZ⟩ := hv
  have hx := B.exec
  have hb := B.bytes
  have hr := B.returns
  have hts0 := atoms_spec (ws := tp_w yX10_meanTrip cX10_meanTrip 4 (some .double)) B.pre
  have hts : ∀ w ∈ tp_all, w.before _ s = true := fun w h => hts0 w (List.mem_cons_of_mem _ h)
  have hown : s.vm.findClass RX10 = some m.cls := findClass_of_methodNamed B.named
  have hlocks := B.notSynchronized
  subst hsz
  have hD := hD0.self (sz := s.heap.size)
  generalize hAe : va_A [(m0, .inr (10, [.ref w0, .int tv])), (w0, .inr (9, [.int 0, .int 1, .int 0, .ref r_phases, .ref r_phase, .ref r_phaseTicks, .ref r_set, .ref r_least, .ref r_greatest, .int 0, .ref r_from, .ref r_to, .ref r_time, .ref r_room, .ref r_first, .ref r_rate, .ref r_cost, .ref r_isShut, .ref r_slowed, .ref r_row, .ref r_size, .ref r_came, .ref r_left, .ref r_mostQueue, .ref r_sumQueue, .ref r_turned, .int 0, .ref r_flowFrom, .ref r_flowTo, .ref r_kind, .ref r_start, .ref r_period, .ref r_count, .int 0, .ref r_flow, .ref r_began, .ref r_state, .ref r_link, .ref r_end, .ref r_gone, .ref r_trip, .ref r_delay, .ref r_way]))] s.heap.size = A at hD hZ ⊢
  have hA : ∀ q : Nat, s.heap.size ≤ q → A q := fun q h => by rw [← hAe]; exact Or.inr h
  have hS : va_S A s.heap s.heap [] := va_S.rf
  have hl9 := lv_entry ([.ref m0]) (n := 4) (Nat.le_of_ble_eq_true rfl)
  rw [lg_entry_eq]
  generalize (lg_sl ([.ref m0]) ++ List.replicate (4 - (lg_sl ([.ref m0])).length) Slot.unset).toArray = ls at hl9 ⊢
  have hl : lv_has ls 4 [(0, .ref m0)] := hl9
  refine lv_aload_n hx hb dX10_meanTrip_0 rfl (lv_at hl 0 rfl) ?_
  refine lv_iconst (v := 0) hx hb dX10_meanTrip_1 (by decide) ?_
  refine va_put (D := (dC, dI)) (ci := 10) (v := .int 0) (ty := .int) (C := RX10) (T := TX10) (N := 2) hx hb hts tl_X10 tyX10 tyX10_ok nmX10 hown hK hP hD hS 0 rfl rfl 1 (by decide) (hts _ tw_1311) (fun _ h9 => h9) rfl (by decide +kernel) rfl rfl (Nat.le_of_ble_eq_true rfl) dX10_meanTrip_2 (fun H locs hP hD hS => ?_)
  have hP : va_P (dC, dI) vwCl [(m0, .inr (10, [.ref w0, .int 0])), (w0, .inr (9, [.int 0, .int 1, .int 0, .ref r_phases, .ref r_phase, .ref r_phaseTicks, .ref r_set, .ref r_least, .ref r_greatest, .int 0, .ref r_from, .ref r_to, .ref r_time, .ref r_room, .ref r_first, .ref r_rate, .ref r_cost, .ref r_isShut, .ref r_slowed, .ref r_row, .ref r_size, .ref r_came, .ref r_left, .ref r_mostQueue, .ref r_sumQueue, .ref r_turned, .int 0, .ref r_flowFrom, .ref r_flowTo, .ref r_kind, .ref r_start, .ref r_period, .ref r_count, .int 0, .ref r_flow, .ref r_began, .ref r_state, .ref r_link, .ref r_end, .ref r_gone, .ref r_trip, .ref r_delay, .ref r_way]))] _ := hP
  have hD : va_D A [(m0, .inr (10, [.ref w0, .int 0])), (w0, .inr (9, [.int 0, .int 1, .int 0, .ref r_phases, .ref r_phase, .ref r_phaseTicks, .ref r_set, .ref r_least, .ref r_greatest, .int 0, .ref r_from, .ref r_to, .ref r_time, .ref r_room, .ref r_first, .ref r_rate, .ref r_cost, .ref r_isShut, .ref r_slowed, .ref r_row, .ref r_size, .ref r_came, .ref r_left, .ref r_mostQueue, .ref r_sumQueue, .ref r_turned, .int 0, .ref r_flowFrom, .ref r_flowTo, .ref r_kind, .ref r_start, .ref r_period, .ref r_count, .int 0, .ref r_flow, .ref r_began, .ref r_state, .ref r_link, .ref r_end, .ref r_gone, .ref r_trip, .ref r_delay, .ref r_way]))] := hD
  refine lv_iconst (v := 0) hx hb dX10_meanTrip_5 (by decide) ?_
  refine lv_istore_n (lv' := [(1, .int 0), (0, .ref m0)]) hx hb dX10_meanTrip_6 rfl hl (by decide) rfl (fun ls hl => ?_)
  refine lv_iconst (v := 0) hx hb dX10_meanTrip_7 (by decide) ?_
  refine lv_istore_n (lv' := [(2, .int 0), (1, .int 0), (0, .ref m0)]) hx hb dX10_meanTrip_8 rfl hl (by decide) rfl (fun ls hl => ?_)
  refine lv_iconst (v := 0) hx hb dX10_meanTrip_9 (by decide) ?_
  refine lv_istore_n (lv' := [(3, .int 0), (2, .int 0), (1, .int 0), (0, .ref m0)]) hx hb dX10_meanTrip_10 rfl hl (by decide) rfl (fun ls hl => ?_)
  refine lv_iload_n hx hb dX10_meanTrip_11 rfl (lv_at hl 0 rfl) ?_
  refine lv_aload_n hx hb dX10_meanTrip_12 rfl (lv_at hl 3 rfl) ?_
  refine va_get (D := (dC, dI)) (ci := 10) (v := .ref w0) (C := RX10) (T := TX10) (N := 2) hx hb hts tl_X10 hown hK hP 0 rfl rfl 0 (by decide) (hts _ tw_1310) (fun _ h9 => h9) rfl dX10_meanTrip_13 ?_
  refine va_get (D := (dC, dI)) (ci := 9) (v := .int 0) (C := RX9) (T := TX9) (N := 43) hx hb hts tl_X9 hown hK hP 1 rfl rfl 33 (by decide) (hts _ tw_1205) (fun _ h9 => h9) rfl dX10_meanTrip_16 ?_
  refine lv_icmp_ge (tgt := 59) hx hb dX10_meanTrip_19 (by decide) (fun _ => ?_) (fun c_1 => absurd (by decide) c_1)
  refine lv_iload_n hx hb dX10_meanTrip_59 rfl (lv_at hl 1 rfl) ?_
  refine lv_if_ne (tgt := 67) hx hb dX10_meanTrip_60 (by decide) (fun c_2 => absurd (by decide) c_2) (fun _ => ?_)
  refine lv_dconst0 hx hb dX10_meanTrip_63 ?_
  refine lv_goto (tgt := 72) hx hb dX10_meanTrip_64 (by decide) ?_
  refine W.widen (k := 0) (n := 0) (Nat.le_of_ble_eq_true rfl) (Nat.le_of_ble_eq_true rfl) ?_
  have hP9 := hP.sub (ws' := [(m0, .inr (10, [.ref w0, .int 0]))]) [0] rfl
  have hD9 := hD.sub (ws' := [(m0, .inr (10, [.ref w0, .int 0]))]) [0] (by decide) rfl
  exact W.dret (v := 0) hx hb hr (fun t ht hW => ⟨⟨0, 0, rfl, rfl, ⟨(by first | rfl | assumption), by rw [ht]; exact hP9, hD9⟩⟩, hS.F ht⟩) hS.2.2 dX10_meanTrip_72
set_option maxRecDepth 100000 in
set_option maxHeartbeats 4000000 in
/-- World.tick of a network without nodes -/
theorem tm_m_tick (l : Launch) (hst : l.stackTraces = false) (dC : Nat → ClassId) (dI : Nat → Nat → Nat) (cy : Nat → ClassId) (w0 : Nat) (x : Int32) (y : Int32) (r_phases : Nat) (r_phase : Nat) (r_phaseTicks : Nat) (r_set : Nat) (r_least : Nat) (r_greatest : Nat) (r_from : Nat) (r_to : Nat) (r_time : Nat) (r_room : Nat) (r_first : Nat) (r_rate : Nat) (r_cost : Nat) (r_isShut : Nat) (r_slowed : Nat) (r_row : Nat) (r_size : Nat) (r_came : Nat) (r_left : Nat) (r_mostQueue : Nat) (r_sumQueue : Nat) (r_turned : Nat) (r_flowFrom : Nat) (r_flowTo : Nat) (r_kind : Nat) (r_start : Nat) (r_period : Nat) (r_count : Nat) (r_flow : Nat) (r_began : Nat) (r_state : Nat) (r_link : Nat) (r_end : Nat) (r_gone : Nat) (r_trip : Nat) (r_delay : Nat) (r_way : Nat) (sz : Nat) (hxy : x + 1 = y) : Met l yX9_tick (tp_w yX9_tick cX9_tick 2 none) ({ frames := 0, cells := 0, slots := 0, locals := 0 }) (va_Pc [.ref w0] (tp_Pre dC dI cy [(w0, .inr (9, [.int x, .int 1, .int 0, .ref r_phases, .ref r_phase, .ref r_phaseTicks, .ref r_set, .ref r_least, .ref r_greatest, .int 0, .ref r_from, .ref r_to, .ref r_time, .ref r_room, .ref r_first, .ref r_rate, .ref r_cost, .ref r_isShut, .ref r_slowed, .ref r_row, .ref r_size, .ref r_came, .ref r_left, .ref r_mostQueue, .ref r_sumQueue, .ref r_turned, .int 0, .ref r_flowFrom, .ref r_flowTo, .ref r_kind, .ref r_start, .ref r_period, .ref r_count, .int 0, .ref r_flow, .ref r_began, .ref r_state, .ref r_link, .ref r_end, .ref r_gone, .ref r_trip, .ref r_delay, .ref r_way]))] sz)) (va_Qv (fun _ : Unit => True) (fun (_ : Unit) (t : State) => tp_Post dC dI (va_A [(w0, .inr (9, [.int x, .int 1, .int 0, .ref r_phases, .ref r_phase, .ref r_phaseTicks, .ref r_set, .ref r_least, .ref r_greatest, .int 0, .ref r_from, .ref r_to, .ref r_time, .ref r_room, .ref r_first, .ref r_rate, .ref r_cost, .ref r_isShut, .ref r_slowed, .ref r_row, .ref r_size, .ref r_came, .ref r_left, .ref r_mostQueue, .ref r_sumQueue, .ref r_turned, .int 0, .ref r_flowFrom, .ref r_flowTo, .ref r_kind, .ref r_start, .ref r_period, .ref r_count, .int 0, .ref r_flow, .ref r_began, .ref r_state, .ref r_link, .ref r_end, .ref r_gone, .ref r_trip, .ref r_delay, .ref r_way]))] sz) [(w0, .inr (9, [.int y, .int 1, .int 0, .ref r_phases, .ref r_phase, .ref r_phaseTicks, .ref r_set, .ref r_least, .ref r_greatest, .int 0, .ref r_from, .ref r_to, .ref r_time, .ref r_room, .ref r_first, .ref r_rate, .ref r_cost, .ref r_isShut, .ref r_slowed, .ref r_row, .ref r_size, .ref r_came, .ref r_left, .ref r_mostQueue, .ref r_sumQueue, .ref r_turned, .int 0, .ref r_flowFrom, .ref r_flowTo, .ref r_kind, .ref r_start, .ref r_period, .ref r_count, .int 0, .ref r_flow, .ref r_began, .ref r_state, .ref r_link, .ref r_end, .ref r_gone, .ref r_trip, .ref r_delay, .ref r_way]))] t) (va_A [(w0, .inr (9, [.int x, .int 1, .int 0, .ref r_phases, .ref r_phase, .ref r_phaseTicks, .ref r_set, .ref r_least, .ref r_greatest, .int 0, .ref r_from, .ref r_to, .ref r_time, .ref r_room, .ref r_first, .ref r_rate, .ref r_cost, .ref r_isShut, .ref r_slowed, .ref r_row, .ref r_size, .ref r_came, .ref r_left, .ref r_mostQueue, .ref r_sumQueue, .ref r_turned, .int 0, .ref r_flowFrom, .ref r_flowTo, .ref r_kind, .ref r_start, .ref r_period, .ref r_count, .int 0, .ref r_flow, .ref r_began, .ref r_state, .ref r_link, .ref r_end, .ref r_gone, .ref r_trip, .ref r_delay, .ref r_way]))] sz)) 0 0 (va_A [(w0, .inr (9, [.int x, .int 1, .int 0, .ref r_phases, .ref r_phase, .ref r_phaseTicks, .ref r_set, .ref r_least, .ref r_greatest, .int 0, .ref r_from, .ref r_to, .ref r_time, .ref r_room, .ref r_first, .ref r_rate, .ref r_cost, .ref r_isShut, .ref r_slowed, .ref r_row, .ref r_size, .ref r_came, .ref r_left, .ref r_mostQueue, .ref r_sumQueue, .ref r_turned, .int 0, .ref r_flowFrom, .ref r_flowTo, .ref r_kind, .ref r_start, .ref r_period, .ref r_count, .int 0, .ref r_flow, .ref r_began, .ref r_state, .ref r_link, .ref r_end, .ref r_gone, .ref r_trip, .ref r_delay, .ref r_way]))] sz) := by
  refine Met.ofW (cc := cX9_tick) (maxL := 2) (ret := none) (by decide) rfl ?_
  intro p e s m args below meth c s₁ B hml hv
  obtain ⟨rfl, hsz, hP, hK, hD0, hE, hZ⟩ := hv
  have hx := B.exec
  have hb := B.bytes
  have hr := B.returns
  have hts0 := atoms_spec (ws := tp_w yX9_tick cX9_tick 2 none) B.pre
  have hts : ∀ w ∈ tp_all, w.before _ s = true := fun w h => hts0 w (List.mem_cons_of_mem _ h)
  have hown : s.vm.findClass RX9 = some m.cls := findClass_of_methodNamed B.named
  have hlocks := B.notSynchronized
  subst hsz
  have hD := hD0.self (sz := s.heap.size)
  generalize hAe : va_A [(w0, .inr (9, [.int x, .int 1, .int 0, .ref r_phases, .ref r_phase, .ref r_phaseTicks, .ref r_set, .ref r_least, .ref r_greatest, .int 0, .ref r_from, .ref r_to, .ref r_time, .ref r_room, .ref r_first, .ref r_rate, .ref r_cost, .ref r_isShut, .ref r_slowed, .ref r_row, .ref r_size, .ref r_came, .ref r_left, .ref r_mostQueue, .ref r_sumQueue, .ref r_turned, .int 0, .ref r_flowFrom, .ref r_flowTo, .ref r_kind, .ref r_start, .ref r_period, .ref r_count, .int 0, .ref r_flow, .ref r_began, .ref r_state, .ref r_link, .ref r_end, .ref r_gone, .ref r_trip, .ref r_delay, .ref r_way]))] s.heap.size = A at hD hZ ⊢
  have hA : ∀ q : Nat, s.heap.size ≤ q → A q := fun q h => by rw [← hAe]; exact Or.inr h
  have hS : va_S A s.heap s.heap [] := va_S.rf
  have hl9 := lv_entry ([.ref w0]) (n := 2) (Nat.le_of_ble_eq_true rfl)
  rw [lg_entry_eq]
  generalize (lg_sl ([.ref w0]) ++ List.replicate (2 - (lg_sl ([.ref w0])).length) Slot.unset).toArray = ls at hl9 ⊢
  have hl : lv_has ls 2 [(0, .ref w0)] := hl9
  refine lv_iconst (v := 0) hx hb dX9_tick_0 (by decide) ?_
  refine lv_istore_n (lv' := [(1, .int 0), (0, .ref w0)]) hx hb dX9_tick_1 rfl hl (by decide) rfl (fun ls hl => ?_)
  refine lv_iload_n hx hb dX9_tick_2 rfl (lv_at hl 0 rfl) ?_
  refine lv_aload_n hx hb dX9_tick_3 rfl (lv_at hl 1 rfl) ?_
  refine va_get (D := (dC, dI)) (ci := 9) (v := .int 0) (C := RX9) (T := TX9) (N := 43) hx hb hts tl_X9 hown hK hP 0 rfl rfl 9 (by decide) (hts _ tw_1157) (fun _ h9 => h9) rfl dX9_tick_4 ?_
  refine lv_icmp_ge (tgt := 56) hx hb dX9_tick_7 (by decide) (fun _ => ?_) (fun c_1 => absurd (by decide) c_1)
  refine lv_aload_n hx hb dX9_tick_56 rfl (lv_at hl 1 rfl) ?_
  refine va_get (D := (dC, dI)) (ci := 9) (v := .int x) (C := RX9) (T := TX9) (N := 43) hx hb hts tl_X9 hown hK hP 0 rfl rfl 0 (by decide) (hts _ tw_1139) (fun _ h9 => h9) rfl dX9_tick_57 ?_
  refine lv_aload_n hx hb dX9_tick_60 rfl (lv_at hl 1 rfl) ?_
  refine va_get (D := (dC, dI)) (ci := 9) (v := .int 1) (C := RX9) (T := TX9) (N := 43) hx hb hts tl_X9 hown hK hP 0 rfl rfl 1 (by decide) (hts _ tw_1141) (fun _ h9 => h9) rfl dX9_tick_61 ?_
  refine lv_irem hx hb dX9_tick_64 (by decide) ?_
  refine lv_if_ne (tgt := 138) hx hb dX9_tick_65 (by decide) (fun c_2 => ?_) (fun c_2 => ?_)
  · refine lv_iconst (v := 0) hx hb dX9_tick_138 (by decide) ?_
    refine lv_istore_n (lv' := [(1, .int 0), (0, .ref w0)]) hx hb dX9_tick_139 rfl hl (by decide) rfl (fun ls hl => ?_)
    refine lv_iload_n hx hb dX9_tick_140 rfl (lv_at hl 0 rfl) ?_
    refine lv_aload_n hx hb dX9_tick_141 rfl (lv_at hl 1 rfl) ?_
    refine va_get (D := (dC, dI)) (ci := 9) (v := .int 0) (C := RX9) (T := TX9) (N := 43) hx hb hts tl_X9 hown hK hP 0 rfl rfl 26 (by decide) (hts _ tw_1190) (fun _ h9 => h9) rfl dX9_tick_142 ?_
    refine lv_icmp_ge (tgt := 159) hx hb dX9_tick_145 (by decide) (fun _ => ?_) (fun c_3 => absurd (by decide) c_3)
    refine lv_iconst (v := 0) hx hb dX9_tick_159 (by decide) ?_
    refine lv_istore_n (lv' := [(1, .int 0), (0, .ref w0)]) hx hb dX9_tick_160 rfl hl (by decide) rfl (fun ls hl => ?_)
    refine lv_iload_n hx hb dX9_tick_161 rfl (lv_at hl 0 rfl) ?_
    refine lv_aload_n hx hb dX9_tick_162 rfl (lv_at hl 1 rfl) ?_
    refine va_get (D := (dC, dI)) (ci := 9) (v := .int 0) (C := RX9) (T := TX9) (N := 43) hx hb hts tl_X9 hown hK hP 0 rfl rfl 2 (by decide) (hts _ tw_1143) (fun _ h9 => h9) rfl dX9_tick_163 ?_
    refine lv_icmp_ge (tgt := 189) hx hb dX9_tick_166 (by decide) (fun _ => ?_) (fun c_4 => absurd (by decide) c_4)
    refine lv_iconst (v := 0) hx hb dX9_tick_189 (by decide) ?_
    refine lv_istore_n (lv' := [(1, .int 0), (0, .ref w0)]) hx hb dX9_tick_190 rfl hl (by decide) rfl (fun ls hl => ?_)
    refine lv_iload_n hx hb dX9_tick_191 rfl (lv_at hl 0 rfl) ?_
    refine lv_aload_n hx hb dX9_tick_192 rfl (lv_at hl 1 rfl) ?_
    refine va_get (D := (dC, dI)) (ci := 9) (v := .int 0) (C := RX9) (T := TX9) (N := 43) hx hb hts tl_X9 hown hK hP 0 rfl rfl 9 (by decide) (hts _ tw_1157) (fun _ h9 => h9) rfl dX9_tick_193 ?_
    refine lv_icmp_ge (tgt := 220) hx hb dX9_tick_196 (by decide) (fun _ => ?_) (fun c_5 => absurd (by decide) c_5)
    refine lv_iconst (v := 0) hx hb dX9_tick_220 (by decide) ?_
    refine lv_istore_n (lv' := [(1, .int 0), (0, .ref w0)]) hx hb dX9_tick_221 rfl hl (by decide) rfl (fun ls hl => ?_)
    refine lv_iload_n hx hb dX9_tick_222 rfl (lv_at hl 0 rfl) ?_
    refine lv_aload_n hx hb dX9_tick_223 rfl (lv_at hl 1 rfl) ?_
    refine va_get (D := (dC, dI)) (ci := 9) (v := .int 0) (C := RX9) (T := TX9) (N := 43) hx hb hts tl_X9 hown hK hP 0 rfl rfl 2 (by decide) (hts _ tw_1143) (fun _ h9 => h9) rfl dX9_tick_224 ?_
    refine lv_icmp_ge (tgt := 267) hx hb dX9_tick_227 (by decide) (fun _ => ?_) (fun c_6 => absurd (by decide) c_6)
    refine lv_iconst (v := 0) hx hb dX9_tick_267 (by decide) ?_
    refine lv_istore_n (lv' := [(1, .int 0), (0, .ref w0)]) hx hb dX9_tick_268 rfl hl (by decide) rfl (fun ls hl => ?_)
    refine lv_iload_n hx hb dX9_tick_269 rfl (lv_at hl 0 rfl) ?_
    refine lv_aload_n hx hb dX9_tick_270 rfl (lv_at hl 1 rfl) ?_
    refine va_get (D := (dC, dI)) (ci := 9) (v := .int 0) (C := RX9) (T := TX9) (N := 43) hx hb hts tl_X9 hown hK hP 0 rfl rfl 9 (by decide) (hts _ tw_1157) (fun _ h9 => h9) rfl dX9_tick_271 ?_
    refine lv_icmp_ge (tgt := 317) hx hb dX9_tick_274 (by decide) (fun _ => ?_) (fun c_7 => absurd (by decide) c_7)
    refine lv_aload_n hx hb dX9_tick_317 rfl (lv_at hl 1 rfl) ?_
    refine lv_dup hx hb dX9_tick_318 rfl ?_
    refine va_get (D := (dC, dI)) (ci := 9) (v := .int x) (C := RX9) (T := TX9) (N := 43) hx hb hts tl_X9 hown hK hP 0 rfl rfl 0 (by decide) (hts _ tw_1139) (fun _ h9 => h9) rfl dX9_tick_319 ?_
    refine lv_iconst (v := 1) hx hb dX9_tick_322 (by decide) ?_
    refine lv_iadd hx hb dX9_tick_323 ?_
    rw [hxy]
    refine va_put (D := (dC, dI)) (ci := 9) (v := .int y) (ty := .int) (C := RX9) (T := TX9) (N := 43) hx hb hts tl_X9 tyX9 tyX9_ok nmX9 hown hK hP hD hS 0 rfl rfl 0 (by decide) (hts _ tw_1139) (fun _ h9 => h9) rfl (by decide +kernel) rfl rfl (Nat.le_of_ble_eq_true rfl) dX9_tick_324 (fun H locs hP hD hS => ?_)
    have hP : va_P (dC, dI) vwCl [(w0, .inr (9, [.int y, .int 1, .int 0, .ref r_phases, .ref r_phase, .ref r_phaseTicks, .ref r_set, .ref r_least, .ref r_greatest, .int 0, .ref r_from, .ref r_to, .ref r_time, .ref r_room, .ref r_first, .ref r_rate, .ref r_cost, .ref r_isShut, .ref r_slowed, .ref r_row, .ref r_size, .ref r_came, .ref r_left, .ref r_mostQueue, .ref r_sumQueue, .ref r_turned, .int 0, .ref r_flowFrom, .ref r_flowTo, .ref r_kind, .ref r_start, .ref r_period, .ref r_count, .int 0, .ref r_flow, .ref r_began, .ref r_state, .ref r_link, .ref r_end, .ref r_gone, .ref r_trip, .ref r_delay, .ref r_way]))] _ := hP
    have hD : va_D A [(w0, .inr (9, [.int y, .int 1, .int 0, .ref r_phases, .ref r_phase, .ref r_phaseTicks, .ref r_set, .ref r_least, .ref r_greatest, .int 0, .ref r_from, .ref r_to, .ref r_time, .ref r_room, .ref r_first, .ref r_rate, .ref r_cost, .ref r_isShut, .ref r_slowed, .ref r_row, .ref r_size, .ref r_came, .ref r_left, .ref r_mostQueue, .ref r_sumQueue, .ref r_turned, .int 0, .ref r_flowFrom, .ref r_flowTo, .ref r_kind, .ref r_start, .ref r_period, .ref r_count, .int 0, .ref r_flow, .ref r_began, .ref r_state, .ref r_link, .ref r_end, .ref r_gone, .ref r_trip, .ref r_delay, .ref r_way]))] := hD
    refine W.widen (k := 0) (n := 0) (Nat.le_of_ble_eq_true rfl) (Nat.le_of_ble_eq_true rfl) ?_
    have hP9 := hP.sub (ws' := [(w0, .inr (9, [.int y, .int 1, .int 0, .ref r_phases, .ref r_phase, .ref r_phaseTicks, .ref r_set, .ref r_least, .ref r_greatest, .int 0, .ref r_from, .ref r_to, .ref r_time, .ref r_room, .ref r_first, .ref r_rate, .ref r_cost, .ref r_isShut, .ref r_slowed, .ref r_row, .ref r_size, .ref r_came, .ref r_left, .ref r_mostQueue, .ref r_sumQueue, .ref r_turned, .int 0, .ref r_flowFrom, .ref r_flowTo, .ref r_kind, .ref r_start, .ref r_period, .ref r_count, .int 0, .ref r_flow, .ref r_began, .ref r_state, .ref r_link, .ref r_end, .ref r_gone, .ref r_trip, .ref r_delay, .ref r_way]))]) [0] rfl
    have hD9 := hD.sub (ws' := [(w0, .inr (9, [.int y, .int 1, .int 0, .ref r_phases, .ref r_phase, .ref r_phaseTicks, .ref r_set, .ref r_least, .ref r_greatest, .int 0, .ref r_from, .ref r_to, .ref r_time, .ref r_room, .ref r_first, .ref r_rate, .ref r_cost, .ref r_isShut, .ref r_slowed, .ref r_row, .ref r_size, .ref r_came, .ref r_left, .ref r_mostQueue, .ref r_sumQueue, .ref r_turned, .int 0, .ref r_flowFrom, .ref r_flowTo, .ref r_kind, .ref r_start, .ref r_period, .ref r_count, .int 0, .ref r_flow, .ref r_began, .ref r_state, .ref r_link, .ref r_end, .ref r_gone, .ref r_trip, .ref r_delay, .ref r_way]))]) [0] (by decide) rfl
    exact W.vret hx hb hr (fun t ht hW => ⟨⟨(), rfl, trivial, ⟨by rw [ht]; exact hP9, hD9⟩⟩, hS.F ht⟩) hS.2.2 dX9_tick_327
  · refine lv_iconst (v := 0) hx hb dX9_tick_68 (by decide) ?_
    refine lv_istore_n (lv' := [(1, .int 0), (0, .ref w0)]) hx hb dX9_tick_69 rfl hl (by decide) rfl (fun ls hl => ?_)
    refine lv_iload_n hx hb dX9_tick_70 rfl (lv_at hl 0 rfl) ?_
    refine lv_aload_n hx hb dX9_tick_71 rfl (lv_at hl 1 rfl) ?_
    refine va_get (D := (dC, dI)) (ci := 9) (v := .int 0) (C := RX9) (T := TX9) (N := 43) hx hb hts tl_X9 hown hK hP 0 rfl rfl 9 (by decide) (hts _ tw_1157) (fun _ h9 => h9) rfl dX9_tick_72 ?_
    refine lv_icmp_ge (tgt := 138) hx hb dX9_tick_75 (by decide) (fun _ => ?_) (fun c_8 => absurd (by decide) c_8)
    refine lv_iconst (v := 0) hx hb dX9_tick_138 (by decide) ?_
    refine lv_istore_n (lv' := [(1, .int 0), (0, .ref w0)]) hx hb dX9_tick_139 rfl hl (by decide) rfl (fun ls hl => ?_)
    refine lv_iload_n hx hb dX9_tick_140 rfl (lv_at hl 0 rfl) ?_
    refine lv_aload_n hx hb dX9_tick_141 rfl (lv_at hl 1 rfl) ?_
    refine va_get (D := (dC, dI)) (ci := 9) (v := .int 0) (C := RX9) (T := TX9) (N := 43) hx hb hts tl_X9 hown hK hP 0 rfl rfl 26 (by decide) (hts _ tw_1190) (fun _ h9 => h9) rfl dX9_tick_142 ?_
    refine lv_icmp_ge (tgt := 159) hx hb dX9_tick_145 (by decide) (fun _ => ?_) (fun c_9 => absurd (by decide) c_9)
    refine lv_iconst (v := 0) hx hb dX9_tick_159 (by decide) ?_
    refine lv_istore_n (lv' := [(1, .int 0), (0, .ref w0)]) hx hb dX9_tick_160 rfl hl (by decide) rfl (fun ls hl => ?_)
    refine lv_iload_n hx hb dX9_tick_161 rfl (lv_at hl 0 rfl) ?_
    refine lv_aload_n hx hb dX9_tick_162 rfl (lv_at hl 1 rfl) ?_
    refine va_get (D := (dC, dI)) (ci := 9) (v := .int 0) (C := RX9) (T := TX9) (N := 43) hx hb hts tl_X9 hown hK hP 0 rfl rfl 2 (by decide) (hts _ tw_1143) (fun _ h9 => h9) rfl dX9_tick_163 ?_
    refine lv_icmp_ge (tgt := 189) hx hb dX9_tick_166 (by decide) (fun _ => ?_) (fun c_10 => absurd (by decide) c_10)
    refine lv_iconst (v := 0) hx hb dX9_tick_189 (by decide) ?_
    refine lv_istore_n (lv' := [(1, .int 0), (0, .ref w0)]) hx hb dX9_tick_190 rfl hl (by decide) rfl (fun ls hl => ?_)
    refine lv_iload_n hx hb dX9_tick_191 rfl (lv_at hl 0 rfl) ?_
    refine lv_aload_n hx hb dX9_tick_192 rfl (lv_at hl 1 rfl) ?_
    refine va_get (D := (dC, dI)) (ci := 9) (v := .int 0) (C := RX9) (T := TX9) (N := 43) hx hb hts tl_X9 hown hK hP 0 rfl rfl 9 (by decide) (hts _ tw_1157) (fun _ h9 => h9) rfl dX9_tick_193 ?_
    refine lv_icmp_ge (tgt := 220) hx hb dX9_tick_196 (by decide) (fun _ => ?_) (fun c_11 => absurd (by decide) c_11)
    refine lv_iconst (v := 0) hx hb dX9_tick_220 (by decide) ?_
    refine lv_istore_n (lv' := [(1, .int 0), (0, .ref w0)]) hx hb dX9_tick_221 rfl hl (by decide) rfl (fun ls hl => ?_)
    refine lv_iload_n hx hb dX9_tick_222 rfl (lv_at hl 0 rfl) ?_
    refine lv_aload_n hx hb dX9_tick_223 rfl (lv_at hl 1 rfl) ?_
    refine va_get (D := (dC, dI)) (ci := 9) (v := .int 0) (C := RX9) (T := TX9) (N := 43) hx hb hts tl_X9 hown hK hP 0 rfl rfl 2 (by decide) (hts _ tw_1143) (fun _ h9 => h9) rfl dX9_tick_224 ?_
    refine lv_icmp_ge (tgt := 267) hx hb dX9_tick_227 (by decide) (fun _ => ?_) (fun c_12 => absurd (by decide) c_12)
    refine lv_iconst (v := 0) hx hb dX9_tick_267 (by decide) ?_
    refine lv_istore_n (lv' := [(1, .int 0), (0, .ref w0)]) hx hb dX9_tick_268 rfl hl (by decide) rfl (fun ls hl => ?_)
    refine lv_iload_n hx hb dX9_tick_269 rfl (lv_at hl 0 rfl) ?_
    refine lv_aload_n hx hb dX9_tick_270 rfl (lv_at hl 1 rfl) ?_
    refine va_get (D := (dC, dI)) (ci := 9) (v := .int 0) (C := RX9) (T := TX9) (N := 43) hx hb hts tl_X9 hown hK hP 0 rfl rfl 9 (by decide) (hts _ tw_1157) (fun _ h9 => h9) rfl dX9_tick_271 ?_
    refine lv_icmp_ge (tgt := 317) hx hb dX9_tick_274 (by decide) (fun _ => ?_) (fun c_13 => absurd (by decide) c_13)
    refine lv_aload_n hx hb dX9_tick_317 rfl (lv_at hl 1 rfl) ?_
    refine lv_dup hx hb dX9_tick_318 rfl ?_
    refine va_get (D := (dC, dI)) (ci := 9) (v := .int x) (C := RX9) (T := TX9) (N := 43) hx hb hts tl_X9 hown hK hP 0 rfl rfl 0 (by decide) (hts _ tw_1139) (fun _ h9 => h9) rfl dX9_tick_319 ?_
    refine lv_iconst (v := 1) hx hb dX9_tick_322 (by decide) ?_
    refine lv_iadd hx hb dX9_tick_323 ?_
    rw [hxy]
    refine va_put (D := (dC, dI)) (ci := 9) (v := .int y) (ty := .int) (C := RX9) (T := TX9) (N := 43) hx hb hts tl_X9 tyX9 tyX9_ok nmX9 hown hK hP hD hS 0 rfl rfl 0 (by decide) (hts _ tw_1139) (fun _ h9 => h9) rfl (by decide +kernel) rfl rfl (Nat.le_of_ble_eq_true rfl) dX9_tick_324 (fun H locs hP hD hS => ?_)
    have hP : va_P (dC, dI) vwCl [(w0, .inr (9, [.int y, .int 1, .int 0, .ref r_phases, .ref r_phase, .ref r_phaseTicks, .ref r_set, .ref r_least, .ref r_greatest, .int 0, .ref r_from, .ref r_to, .ref r_time, .ref r_room, .ref r_first, .ref r_rate, .ref r_cost, .ref r_isShut, .ref r_slowed, .ref r_row, .ref r_size, .ref r_came, .ref r_left, .ref r_mostQueue, .ref r_sumQueue, .ref r_turned, .int 0, .ref r_flowFrom, .ref r_flowTo, .ref r_kind, .ref r_start, .ref r_period, .ref r_count, .int 0, .ref r_flow, .ref r_began, .ref r_state, .ref r_link, .ref r_end, .ref r_gone, .ref r_trip, .ref r_delay, .ref r_way]))] _ := hP
    have hD : va_D A [(w0, .inr (9, [.int y, .int 1, .int 0, .ref r_phases, .ref r_phase, .ref r_phaseTicks, .ref r_set, .ref r_least, .ref r_greatest, .int 0, .ref r_from, .ref r_to, .ref r_time, .ref r_room, .ref r_first, .ref r_rate, .ref r_cost, .ref r_isShut, .ref r_slowed, .ref r_row, .ref r_size, .ref r_came, .ref r_left, .ref r_mostQueue, .ref r_sumQueue, .ref r_turned, .int 0, .ref r_flowFrom, .ref r_flowTo, .ref r_kind, .ref r_start, .ref r_period, .ref r_count, .int 0, .ref r_flow, .ref r_began, .ref r_state, .ref r_link, .ref r_end, .ref r_gone, .ref r_trip, .ref r_delay, .ref r_way]))] := hD
    refine W.widen (k := 0) (n := 0) (Nat.le_of_ble_eq_true rfl) (Nat.le_of_ble_eq_true rfl) ?_
    have hP9 := hP.sub (ws' := [(w0, .inr (9, [.int y, .int 1, .int 0, .ref r_phases, .ref r_phase, .ref r_phaseTicks, .ref r_set, .ref r_least, .ref r_greatest, .int 0, .ref r_from, .ref r_to, .ref r_time, .ref r_room, .ref r_first, .ref r_rate, .ref r_cost, .ref r_isShut, .ref r_slowed, .ref r_row, .ref r_size, .ref r_came, .ref r_left, .ref r_mostQueue, .ref r_sumQueue, .ref r_turned, .int 0, .ref r_flowFrom, .ref r_flowTo, .ref r_kind, .ref r_start, .ref r_period, .ref r_count, .int 0, .ref r_flow, .ref r_began, .ref r_state, .ref r_link, .ref r_end, .ref r_gone, .ref r_trip, .ref r_delay, .ref r_way]))]) [0] rfl
    have hD9 := hD.sub (ws' := [(w0, .inr (9, [.int y, .int 1, .int 0, .ref r_phases, .ref r_phase, .ref r_phaseTicks, .ref r_set, .ref r_least, .ref r_greatest, .int 0, .ref r_from, .ref r_to, .ref r_time, .ref r_room, .ref r_first, .ref r_rate, .ref r_cost, .ref r_isShut, .ref r_slowed, .ref r_row, .ref r_size, .ref r_came, .ref r_left, .ref r_mostQueue, .ref r_sumQueue, .ref r_turned, .int 0, .ref r_flowFrom, .ref r_flowTo, .ref r_kind, .ref r_start, .ref r_period, .ref r_count, .int 0, .ref r_flow, .ref r_began, .ref r_state, .ref r_link, .ref r_end, .ref r_gone, .ref r_trip, .ref r_delay, .ref r_way]))]) [0] (by decide) rfl
    exact W.vret hx hb hr (fun t ht hW => ⟨⟨(), rfl, trivial, ⟨by rw [ht]; exact hP9, hD9⟩⟩, hS.F ht⟩) hS.2.2 dX9_tick_327
set_option maxRecDepth 100000 in
set_option maxHeartbeats 4000000 in
/-- step -/
theorem tm_m_step_in (l : Launch) (hst : l.stackTraces = false) (dC : Nat → ClassId) (dI : Nat → Nat → Nat) (cy : Nat → ClassId) (m0 : Nat) (w0 : Nat) (tv : Int32) (r_phases : Nat) (r_phase : Nat) (r_phaseTicks : Nat) (r_set : Nat) (r_least : Nat) (r_greatest : Nat) (r_from : Nat) (r_to : Nat) (r_time : Nat) (r_room : Nat) (r_first : Nat) (r_rate : Nat) (r_cost : Nat) (r_isShut : Nat) (r_slowed : Nat) (r_row : Nat) (r_size : Nat) (r_came : Nat) (r_left : Nat) (r_mostQueue : Nat) (r_sumQueue : Nat) (r_turned : Nat) (r_flowFrom : Nat) (r_flowTo : Nat) (r_kind : Nat) (r_start : Nat) (r_period : Nat) (r_count : Nat) (r_flow : Nat) (r_began : Nat) (r_state : Nat) (r_link : Nat) (r_end : Nat) (r_gone : Nat) (r_trip : Nat) (r_delay : Nat) (r_way : Nat) (n : Nat) (sz : Nat) (hc : (1 : Int32) ≤ nI n ∧ nI n ≤ 60) (hn : n ≤ 60) : Met l yX10_step (tp_w yX10_step cX10_step 3 (some .int)) ({ frames := 1, cells := 0, slots := 0, locals := 22 }) (va_Pc [.ref m0, .int (nI n)] (tp_Pre dC dI cy [(m0, .inr (10, [.ref w0, .int tv])), (w0, .inr (9, [.int 0, .int 1, .int 0, .ref r_phases, .ref r_phase, .ref r_phaseTicks, .ref r_set, .ref r_least, .ref r_greatest, .int 0, .ref r_from, .ref r_to, .ref r_time, .ref r_room, .ref r_first, .ref r_rate, .ref r_cost, .ref r_isShut, .ref r_slowed, .ref r_row, .ref r_size, .ref r_came, .ref r_left, .ref r_mostQueue, .ref r_sumQueue, .ref r_turned, .int 0, .ref r_flowFrom, .ref r_flowTo, .ref r_kind, .ref r_start, .ref r_period, .ref r_count, .int 0, .ref r_flow, .ref r_began, .ref r_state, .ref r_link, .ref r_end, .ref r_gone, .ref r_trip, .ref r_delay, .ref r_way]))] sz)) (va_Qi (fun (r u : Int32) => r = u) (fun (u : Int32) (t : State) => (u = nI n) ∧ tp_Post dC dI (va_A [(m0, .inr (10, [.ref w0, .int tv])), (w0, .inr (9, [.int 0, .int 1, .int 0, .ref r_phases, .ref r_phase, .ref r_phaseTicks, .ref r_set, .ref r_least, .ref r_greatest, .int 0, .ref r_from, .ref r_to, .ref r_time, .ref r_room, .ref r_first, .ref r_rate, .ref r_cost, .ref r_isShut, .ref r_slowed, .ref r_row, .ref r_size, .ref r_came, .ref r_left, .ref r_mostQueue, .ref r_sumQueue, .ref r_turned, .int 0, .ref r_flowFrom, .ref r_flowTo, .ref r_kind, .ref r_start, .ref r_period, .ref r_count, .int 0, .ref r_flow, .ref r_began, .ref r_state, .ref r_link, .ref r_end, .ref r_gone, .ref r_trip, .ref r_delay, .ref r_way]))] sz) [(m0, .inr (10, [.ref w0, .int 0]))] t) (va_A [(m0, .inr (10, [.ref w0, .int tv])), (w0, .inr (9, [.int 0, .int 1, .int 0, .ref r_phases, .ref r_phase, .ref r_phaseTicks, .ref r_set, .ref r_least, .ref r_greatest, .int 0, .ref r_from, .ref r_to, .ref r_time, .ref r_room, .ref r_first, .ref r_rate, .ref r_cost, .ref r_isShut, .ref r_slowed, .ref r_row, .ref r_size, .ref r_came, .ref r_left, .ref r_mostQueue, .ref r_sumQueue, .ref r_turned, .int 0, .ref r_flowFrom, .ref r_flowTo, .ref r_kind, .ref r_start, .ref r_period, .ref r_count, .int 0, .ref r_flow, .ref r_began, .ref r_state, .ref r_link, .ref r_end, .ref r_gone, .ref r_trip, .ref r_delay, .ref r_way]))] sz)) 0 0 (va_A [(m0, .inr (10, [.ref w0, .int tv])), (w0, .inr (9, [.int 0, .int 1, .int 0, .ref r_phases, .ref r_phase, .ref r_phaseTicks, .ref r_set, .ref r_least, .ref r_greatest, .int 0, .ref r_from, .ref r_to, .ref r_time, .ref r_room, .ref r_first, .ref r_rate, .ref r_cost, .ref r_isShut, .ref r_slowed, .ref r_row, .ref r_size, .ref r_came, .ref r_left, .ref r_mostQueue, .ref r_sumQueue, .ref r_turned, .int 0, .ref r_flowFrom, .ref r_flowTo, .ref r_kind, .ref r_start, .ref r_period, .ref r_count, .int 0, .ref r_flow, .ref r_began, .ref r_state, .ref r_link, .ref r_end, .ref r_gone, .ref r_trip, .ref r_delay, .ref r_way]))] sz) := by
  refine Met.ofW (cc := cX10_step) (maxL := 3) (ret := (some .int)) (by decide) rfl ?_
  intro p e s m args below meth c s₁ B hml hv
  obtain ⟨rfl, hsz, hP, hK, hD0, hE, hZ⟩ := hv
  have hx := B.exec
  have hb := B.bytes
  have hr := B.returns
  have hts0 := atoms_spec (ws := tp_w yX10_step cX10_step 3 (some .int)) B.pre
  have hts : ∀ w ∈ tp_all, w.before _ s = true := fun w h => hts0 w (List.mem_cons_of_mem _ h)
  have hown : s.vm.findClass RX10 = some m.cls := findClass_of_methodNamed B.named
  have hlocks := B.notSynchronized
  subst hsz
  have hD := hD0.self (sz := s.heap.size)
  generalize hAe : va_A [(m0, .inr (10, [.ref w0, .int tv])), (w0, .inr (9, [.int 0, .int 1, .int 0, .ref r_phases, .ref r_phase, .ref r_phaseTicks, .ref r_set, .ref r_least, .ref r_greatest, .int 0, .ref r_from, .ref r_to, .ref r_time, .ref r_room, .ref r_first, .ref r_rate, .ref r_cost, .ref r_isShut, .ref r_slowed, .ref r_row, .ref r_size, .ref r_came, .ref r_left, .ref r_mostQueue, .ref r_sumQueue, .ref r_turned, .int 0, .ref r_flowFrom, .ref r_flowTo, .ref r_kind, .ref r_start, .ref r_period, .ref r_count, .int 0, .ref r_flow, .ref r_began, .ref r_state, .ref r_link, .ref r_end, .ref r_gone, .ref r_trip, .ref r_delay, .ref r_way]))] s.heap.size = A at hD hZ ⊢
  have hA : ∀ q : Nat, s.heap.size ≤ q → A q := fun q h => by rw [← hAe]; exact Or.inr h
  have hS : va_S A s.heap s.heap [] := va_S.rf
  have hl9 := lv_entry ([.ref m0, .int (nI n)]) (n := 3) (Nat.le_of_ble_eq_true rfl)
  rw [lg_entry_eq]
  generalize (lg_sl ([.ref m0, .int (nI n)]) ++ List.replicate (3 - (lg_sl ([.ref m0, .int (nI n)])).length) Slot.unset).toArray = ls at hl9 ⊢
  have hl : lv_has ls 3 [(0, .ref m0), (1, .int (nI n))] := hl9
  refine lv_aload_n hx hb dX10_step_0 rfl (lv_at hl 0 rfl) ?_
  refine lv_iconst (v := 0) hx hb dX10_step_1 (by decide) ?_
  refine va_put (D := (dC, dI)) (ci := 10) (v := .int 0) (ty := .int) (C := RX10) (T := TX10) (N := 2) hx hb hts tl_X10 tyX10 tyX10_ok nmX10 hown hK hP hD hS 0 rfl rfl 1 (by decide) (hts _ tw_1311) (fun _ h9 => h9) rfl (by decide +kernel) rfl rfl (Nat.le_of_ble_eq_true rfl) dX10_step_2 (fun H locs hP hD hS => ?_)
  have hP : va_P (dC, dI) vwCl [(m0, .inr (10, [.ref w0, .int 0])), (w0, .inr (9, [.int 0, .int 1, .int 0, .ref r_phases, .ref r_phase, .ref r_phaseTicks, .ref r_set, .ref r_least, .ref r_greatest, .int 0, .ref r_from, .ref r_to, .ref r_time, .ref r_room, .ref r_first, .ref r_rate, .ref r_cost, .ref r_isShut, .ref r_slowed, .ref r_row, .ref r_size, .ref r_came, .ref r_left, .ref r_mostQueue, .ref r_sumQueue, .ref r_turned, .int 0, .ref r_flowFrom, .ref r_flowTo, .ref r_kind, .ref r_start, .ref r_period, .ref r_count, .int 0, .ref r_flow, .ref r_began, .ref r_state, .ref r_link, .ref r_end, .ref r_gone, .ref r_trip, .ref r_delay, .ref r_way]))] _ := hP
  have hD : va_D A [(m0, .inr (10, [.ref w0, .int 0])), (w0, .inr (9, [.int 0, .int 1, .int 0, .ref r_phases, .ref r_phase, .ref r_phaseTicks, .ref r_set, .ref r_least, .ref r_greatest, .int 0, .ref r_from, .ref r_to, .ref r_time, .ref r_room, .ref r_first, .ref r_rate, .ref r_cost, .ref r_isShut, .ref r_slowed, .ref r_row, .ref r_size, .ref r_came, .ref r_left, .ref r_mostQueue, .ref r_sumQueue, .ref r_turned, .int 0, .ref r_flowFrom, .ref r_flowTo, .ref r_kind, .ref r_start, .ref r_period, .ref r_count, .int 0, .ref r_flow, .ref r_began, .ref r_state, .ref r_link, .ref r_end, .ref r_gone, .ref r_trip, .ref r_delay, .ref r_way]))] := hD
  refine lv_iload_n hx hb dX10_step_5 rfl (lv_at hl 1 rfl) ?_
  refine lv_iconst (v := 1) hx hb dX10_step_6 (by decide) ?_
  refine lv_bipush (v := 60) hx hb dX10_step_7 (by decide) ?_
  have hFc := va_free (wc := []) hD hS hA [] rfl
  refine va_calli (va_runS (As := [.int (nI n), .int 1, .int 60]) (rest := []) ⟨hx, hb, hml, hown, hts⟩ (tm_isIn_in l hst dC dI cy (nI n) 1 60 H.size (by first | assumption | omega)) (tp_cwS 3 hts tw_1337 tw_1338 tw_48 tw_1339 rfl rfl (by decide +kernel) ⟨Nat.le_of_ble_eq_true rfl, Nat.le_of_ble_eq_true rfl⟩) ⟨tp_blind, fun U hU hW => ⟨rfl, tp_pay hK hP hD hE hZ hS [] (by decide) rfl hFc U hU hW⟩⟩ rfl rfl hl.1 rfl (lv_room (Nat.le_of_ble_eq_true rfl)) dX10_step_9 ⟨(Nat.le_of_ble_eq_true rfl), (Nat.le_of_ble_eq_true rfl)⟩) hS (fun q _ h => hFc q h) hFc (fun r_1 u t H1 locs ht hvm hw hB hz1 hk1 hS => ?_)
  obtain rfl := hw
  obtain ⟨f_2, hP1, hD1⟩ := hB
  subst f_2
  rw [ht] at hP1
  obtain ⟨hP, hD⟩ := va_join (wr := [(m0, .inr (10, [.ref w0, .int 0])), (w0, .inr (9, [.int 0, .int 1, .int 0, .ref r_phases, .ref r_phase, .ref r_phaseTicks, .ref r_set, .ref r_least, .ref r_greatest, .int 0, .ref r_from, .ref r_to, .ref r_time, .ref r_room, .ref r_first, .ref r_rate, .ref r_cost, .ref r_isShut, .ref r_slowed, .ref r_row, .ref r_size, .ref r_came, .ref r_left, .ref r_mostQueue, .ref r_sumQueue, .ref r_turned, .int 0, .ref r_flowFrom, .ref r_flowTo, .ref r_kind, .ref r_start, .ref r_period, .ref r_count, .int 0, .ref r_flow, .ref r_began, .ref r_state, .ref r_link, .ref r_end, .ref r_gone, .ref r_trip, .ref r_delay, .ref r_way]))]) (w1 := []) hP hD [] [0, 1] rfl rfl (by decide) (by decide) hk1 hFc hP1 hD1
  generalize H1 = H at hP hS ⊢
  have hP : va_P (dC, dI) vwCl [(m0, .inr (10, [.ref w0, .int 0])), (w0, .inr (9, [.int 0, .int 1, .int 0, .ref r_phases, .ref r_phase, .ref r_phaseTicks, .ref r_set, .ref r_least, .ref r_greatest, .int 0, .ref r_from, .ref r_to, .ref r_time, .ref r_room, .ref r_first, .ref r_rate, .ref r_cost, .ref r_isShut, .ref r_slowed, .ref r_row, .ref r_size, .ref r_came, .ref r_left, .ref r_mostQueue, .ref r_sumQueue, .ref r_turned, .int 0, .ref r_flowFrom, .ref r_flowTo, .ref r_kind, .ref r_start, .ref r_period, .ref r_count, .int 0, .ref r_flow, .ref r_began, .ref r_state, .ref r_link, .ref r_end, .ref r_gone, .ref r_trip, .ref r_delay, .ref r_way]))] _ := hP
  have hD : va_D A [(m0, .inr (10, [.ref w0, .int 0])), (w0, .inr (9, [.int 0, .int 1, .int 0, .ref r_phases, .ref r_phase, .ref r_phaseTicks, .ref r_set, .ref r_least, .ref r_greatest, .int 0, .ref r_from, .ref r_to, .ref r_time, .ref r_room, .ref r_first, .ref r_rate, .ref r_cost, .ref r_isShut, .ref r_slowed, .ref r_row, .ref r_size, .ref r_came, .ref r_left, .ref r_mostQueue, .ref r_sumQueue, .ref r_turned, .int 0, .ref r_flowFrom, .ref r_flowTo, .ref r_kind, .ref r_start, .ref r_period, .ref r_count, .int 0, .ref r_flow, .ref r_began, .ref r_state, .ref r_link, .ref r_end, .ref r_gone, .ref r_trip, .ref r_delay, .ref r_way]))] := hD
  refine lv_if_ne (tgt := 21) hx hb dX10_step_12 (by decide) (fun _ => ?_) (fun c_3 => absurd c_3 (by decide))
  refine lv_iconst (v := 0) hx hb dX10_step_21 (by decide) ?_
  refine lv_istore_n (lv' := [(2, .int 0), (0, .ref m0), (1, .int (nI n))]) hx hb dX10_step_22 rfl hl (by decide) rfl (fun ls hl => ?_)
  refine W.widen (k := (0 + 0) + 0 * 0) (n := (0 + 0) + 0 * 0) (Nat.le_refl _) (Nat.le_refl _) ?_
  refine tp_for n (0 + 0) 0 (0 + 0) 0 (fun (i : Nat) (x : Unit) (H : Heap) (locs : List Loc) (ls : Array Slot) => va_P (dC, dI) vwCl [(m0, .inr (10, [.ref w0, .int 0])), (w0, .inr (9, [.int (nI i), .int 1, .int 0, .ref r_phases, .ref r_phase, .ref r_phaseTicks, .ref r_set, .ref r_least, .ref r_greatest, .int 0, .ref r_from, .ref r_to, .ref r_time, .ref r_room, .ref r_first, .ref r_rate, .ref r_cost, .ref r_isShut, .ref r_slowed, .ref r_row, .ref r_size, .ref r_came, .ref r_left, .ref r_mostQueue, .ref r_sumQueue, .ref r_turned, .int 0, .ref r_flowFrom, .ref r_flowTo, .ref r_kind, .ref r_start, .ref r_period, .ref r_count, .int 0, .ref r_flow, .ref r_began, .ref r_state, .ref r_link, .ref r_end, .ref r_gone, .ref r_trip, .ref r_delay, .ref r_way]))] H ∧ va_D A [(m0, .inr (10, [.ref w0, .int 0])), (w0, .inr (9, [.int (nI i), .int 1, .int 0, .ref r_phases, .ref r_phase, .ref r_phaseTicks, .ref r_set, .ref r_least, .ref r_greatest, .int 0, .ref r_from, .ref r_to, .ref r_time, .ref r_room, .ref r_first, .ref r_rate, .ref r_cost, .ref r_isShut, .ref r_slowed, .ref r_row, .ref r_size, .ref r_came, .ref r_left, .ref r_mostQueue, .ref r_sumQueue, .ref r_turned, .int 0, .ref r_flowFrom, .ref r_flowTo, .ref r_kind, .ref r_start, .ref r_period, .ref r_count, .int 0, .ref r_flow, .ref r_began, .ref r_state, .ref r_link, .ref r_end, .ref r_gone, .ref r_trip, .ref r_delay, .ref r_way]))] ∧ va_S A s.heap H locs ∧ lv_has ls 3 [(2, .int (nI i)), (0, .ref m0), (1, .int (nI n))]) ?_ ?_ n 0 (Nat.zero_add _) () _ _ ls ⟨hP.sub [0, 1] rfl, hD.sub [0, 1] (by decide) rfl, hS, lv_sub hl [0, 1, 2] rfl⟩
  · rintro _ H locs ls ⟨hP, hD, hS, hl⟩
    have hP : va_P (dC, dI) vwCl [(m0, .inr (10, [.ref w0, .int 0])), (w0, .inr (9, [.int (nI n), .int 1, .int 0, .ref r_phases, .ref r_phase, .ref r_phaseTicks, .ref r_set, .ref r_least, .ref r_greatest, .int 0, .ref r_from, .ref r_to, .ref r_time, .ref r_room, .ref r_first, .ref r_rate, .ref r_cost, .ref r_isShut, .ref r_slowed, .ref r_row, .ref r_size, .ref r_came, .ref r_left, .ref r_mostQueue, .ref r_sumQueue, .ref r_turned, .int 0, .ref r_flowFrom, .ref r_flowTo, .ref r_kind, .ref r_start, .ref r_period, .ref r_count, .int 0, .ref r_flow, .ref r_began, .ref r_state, .ref r_link, .ref r_end, .ref r_gone, .ref r_trip, .ref r_delay, .ref r_way]))] _ := hP
    have hD : va_D A [(m0, .inr (10, [.ref w0, .int 0])), (w0, .inr (9, [.int (nI n), .int 1, .int 0, .ref r_phases, .ref r_phase, .ref r_phaseTicks, .ref r_set, .ref r_least, .ref r_greatest, .int 0, .ref r_from, .ref r_to, .ref r_time, .ref r_room, .ref r_first, .ref r_rate, .ref r_cost, .ref r_isShut, .ref r_slowed, .ref r_row, .ref r_size, .ref r_came, .ref r_left, .ref r_mostQueue, .ref r_sumQueue, .ref r_turned, .int 0, .ref r_flowFrom, .ref r_flowTo, .ref r_kind, .ref r_start, .ref r_period, .ref r_count, .int 0, .ref r_flow, .ref r_began, .ref r_state, .ref r_link, .ref r_end, .ref r_gone, .ref r_trip, .ref r_delay, .ref r_way]))] := hD
    have hl : lv_has ls 3 [(2, .int (nI n)), (0, .ref m0), (1, .int (nI n))] := hl
    refine lv_iload_n hx hb dX10_step_23 rfl (lv_at hl 0 rfl) ?_
    refine lv_iload_n hx hb dX10_step_24 rfl (lv_at hl 2 rfl) ?_
    refine lv_icmp_ge (tgt := 41) hx hb dX10_step_25 (by decide) (fun _ => ?_) (fun c_4 => absurd (nI_le (Nat.le_refl _) (by omega)) c_4)
    refine lv_aload_n hx hb dX10_step_41 rfl (lv_at hl 1 rfl) ?_
    refine va_get (D := (dC, dI)) (ci := 10) (v := .ref w0) (C := RX10) (T := TX10) (N := 2) hx hb hts tl_X10 hown hK hP 0 rfl rfl 0 (by decide) (hts _ tw_1310) (fun _ h9 => h9) rfl dX10_step_42 ?_
    refine va_get (D := (dC, dI)) (ci := 9) (v := .int (nI n)) (C := RX9) (T := TX9) (N := 43) hx hb hts tl_X9 hown hK hP 1 rfl rfl 0 (by decide) (hts _ tw_1140) (fun _ h9 => h9) rfl dX10_step_45 ?_
    refine W.widen (k := 0) (n := 0) (by show (0 + 0) + 0 * n + 0 ≤ 0; omega) (by show (0 + 0) + 0 * n + 0 ≤ 0; omega) ?_
    have hP9 := hP.sub (ws' := [(m0, .inr (10, [.ref w0, .int 0]))]) [0] rfl
    have hD9 := hD.sub (ws' := [(m0, .inr (10, [.ref w0, .int 0]))]) [0] (by decide) rfl
    exact W.iret (v := nI n) hx hb hr (fun t ht hW => ⟨⟨(nI n), (nI n), rfl, rfl, ⟨(by first | rfl | assumption), by rw [ht]; exact hP9, hD9⟩⟩, hS.F ht⟩) hS.2.2 dX10_step_48
  · rintro i _ H locs ls hi ⟨hP, hD, hS, hl⟩ ih
    have hP : va_P (dC, dI) vwCl [(m0, .inr (10, [.ref w0, .int 0])), (w0, .inr (9, [.int (nI i), .int 1, .int 0, .ref r_phases, .ref r_phase, .ref r_phaseTicks, .ref r_set, .ref r_least, .ref r_greatest, .int 0, .ref r_from, .ref r_to, .ref r_time, .ref r_room, .ref r_first, .ref r_rate, .ref r_cost, .ref r_isShut, .ref r_slowed, .ref r_row, .ref r_size, .ref r_came, .ref r_left, .ref r_mostQueue, .ref r_sumQueue, .ref r_turned, .int 0, .ref r_flowFrom, .ref r_flowTo, .ref r_kind, .ref r_start, .ref r_period, .ref r_count, .int 0, .ref r_flow, .ref r_began, .ref r_state, .ref r_link, .ref r_end, .ref r_gone, .ref r_trip, .ref r_delay, .ref r_way]))] _ := hP
    have hD : va_D A [(m0, .inr (10, [.ref w0, .int 0])), (w0, .inr (9, [.int (nI i), .int 1, .int 0, .ref r_phases, .ref r_phase, .ref r_phaseTicks, .ref r_set, .ref r_least, .ref r_greatest, .int 0, .ref r_from, .ref r_to, .ref r_time, .ref r_room, .ref r_first, .ref r_rate, .ref r_cost, .ref r_isShut, .ref r_slowed, .ref r_row, .ref r_size, .ref r_came, .ref r_left, .ref r_mostQueue, .ref r_sumQueue, .ref r_turned, .int 0, .ref r_flowFrom, .ref r_flowTo, .ref r_kind, .ref r_start, .ref r_period, .ref r_count, .int 0, .ref r_flow, .ref r_began, .ref r_state, .ref r_link, .ref r_end, .ref r_gone, .ref r_trip, .ref r_delay, .ref r_way]))] := hD
    have hl : lv_has ls 3 [(2, .int (nI i)), (0, .ref m0), (1, .int (nI n))] := hl
    refine lv_iload_n hx hb dX10_step_23 rfl (lv_at hl 0 rfl) ?_
    refine lv_iload_n hx hb dX10_step_24 rfl (lv_at hl 2 rfl) ?_
    refine lv_icmp_ge (tgt := 41) hx hb dX10_step_25 (by decide) (fun c_5 => absurd c_5 (nI_ge hi (by omega))) (fun _ => ?_)
    refine lv_aload_n hx hb dX10_step_28 rfl (lv_at hl 1 rfl) ?_
    refine va_get (D := (dC, dI)) (ci := 10) (v := .ref w0) (C := RX10) (T := TX10) (N := 2) hx hb hts tl_X10 hown hK hP 0 rfl rfl 0 (by decide) (hts _ tw_1310) (fun _ h9 => h9) rfl dX10_step_29 ?_
    have hFc := va_free (wc := [(w0, .inr (9, [.int (nI i), .int 1, .int 0, .ref r_phases, .ref r_phase, .ref r_phaseTicks, .ref r_set, .ref r_least, .ref r_greatest, .int 0, .ref r_from, .ref r_to, .ref r_time, .ref r_room, .ref r_first, .ref r_rate, .ref r_cost, .ref r_isShut, .ref r_slowed, .ref r_row, .ref r_size, .ref r_came, .ref r_left, .ref r_mostQueue, .ref r_sumQueue, .ref r_turned, .int 0, .ref r_flowFrom, .ref r_flowTo, .ref r_kind, .ref r_start, .ref r_period, .ref r_count, .int 0, .ref r_flow, .ref r_began, .ref r_state, .ref r_link, .ref r_end, .ref r_gone, .ref r_trip, .ref r_delay, .ref r_way]))]) hD hS hA [1] rfl
    refine va_callv (va_runV (As := []) (rest := []) ⟨hx, hb, hml, hown, hts⟩ (tm_m_tick l hst dC dI cy w0 (nI i) (nI (i + 1)) r_phases r_phase r_phaseTicks r_set r_least r_greatest r_from r_to r_time r_room r_first r_rate r_cost r_isShut r_slowed r_row r_size r_came r_left r_mostQueue r_sumQueue r_turned r_flowFrom r_flowTo r_kind r_start r_period r_count r_flow r_began r_state r_link r_end r_gone r_trip r_delay r_way H.size (nI_1 i)) (tp_cwV 0 hts tw_1376 tw_1377 tw_1378 tw_49 tw_1379 rfl rfl (by decide +kernel) ⟨Nat.le_of_ble_eq_true rfl, Nat.le_of_ble_eq_true rfl⟩) ⟨tp_blind, va_recv hK hP (ci := 9) (q0 := 1) rfl rfl, fun U hU hW => ⟨rfl, tp_pay hK hP hD hE hZ hS [1] (by decide) rfl hFc U hU hW⟩⟩ rfl rfl hl.1 rfl (lv_room (Nat.le_of_ble_eq_true rfl)) dX10_step_32 ⟨(by show (0 + 0) + 0 * i + 0 ≤ 0; omega), (by show (0 + 0) + 0 * i + 0 ≤ 0; omega)⟩) hS (fun q _ h => hFc q h) hFc (fun u t H1 locs ht hvm hw hB hz1 hk1 hS => ?_)
    obtain ⟨hP1, hD1⟩ := hB
    rw [ht] at hP1
    obtain ⟨hP, hD⟩ := va_join (wr := [(m0, .inr (10, [.ref w0, .int 0]))]) (w1 := [(w0, .inr (9, [.int (nI (i + 1)), .int 1, .int 0, .ref r_phases, .ref r_phase, .ref r_phaseTicks, .ref r_set, .ref r_least, .ref r_greatest, .int 0, .ref r_from, .ref r_to, .ref r_time, .ref r_room, .ref r_first, .ref r_rate, .ref r_cost, .ref r_isShut, .ref r_slowed, .ref r_row, .ref r_size, .ref r_came, .ref r_left, .ref r_mostQueue, .ref r_sumQueue, .ref r_turned, .int 0, .ref r_flowFrom, .ref r_flowTo, .ref r_kind, .ref r_start, .ref r_period, .ref r_count, .int 0, .ref r_flow, .ref r_began, .ref r_state, .ref r_link, .ref r_end, .ref r_gone, .ref r_trip, .ref r_delay, .ref r_way]))]) hP hD [1] [0] rfl rfl (by decide) (by decide) hk1 hFc hP1 hD1
    generalize H1 = H at hP hS ⊢
    have hP : va_P (dC, dI) vwCl [(m0, .inr (10, [.ref w0, .int 0])), (w0, .inr (9, [.int (nI (i + 1)), .int 1, .int 0, .ref r_phases, .ref r_phase, .ref r_phaseTicks, .ref r_set, .ref r_least, .ref r_greatest, .int 0, .ref r_from, .ref r_to, .ref r_time, .ref r_room, .ref r_first, .ref r_rate, .ref r_cost, .ref r_isShut, .ref r_slowed, .ref r_row, .ref r_size, .ref r_came, .ref r_left, .ref r_mostQueue, .ref r_sumQueue, .ref r_turned, .int 0, .ref r_flowFrom, .ref r_flowTo, .ref r_kind, .ref r_start, .ref r_period, .ref r_count, .int 0, .ref r_flow, .ref r_began, .ref r_state, .ref r_link, .ref r_end, .ref r_gone, .ref r_trip, .ref r_delay, .ref r_way]))] _ := hP
    have hD : va_D A [(m0, .inr (10, [.ref w0, .int 0])), (w0, .inr (9, [.int (nI (i + 1)), .int 1, .int 0, .ref r_phases, .ref r_phase, .ref r_phaseTicks, .ref r_set, .ref r_least, .ref r_greatest, .int 0, .ref r_from, .ref r_to, .ref r_time, .ref r_room, .ref r_first, .ref r_rate, .ref r_cost, .ref r_isShut, .ref r_slowed, .ref r_row, .ref r_size, .ref r_came, .ref r_left, .ref r_mostQueue, .ref r_sumQueue, .ref r_turned, .int 0, .ref r_flowFrom, .ref r_flowTo, .ref r_kind, .ref r_start, .ref r_period, .ref r_count, .int 0, .ref r_flow, .ref r_began, .ref r_state, .ref r_link, .ref r_end, .ref r_gone, .ref r_trip, .ref r_delay, .ref r_way]))] := hD
    refine lv_iinc (v := nI (i + 1)) (lv' := [(2, .int (nI (i + 1))), (0, .ref m0), (1, .int (nI n))]) hx hb dX10_step_35 hl (k := 0) rfl (nI_1 i) (by decide) rfl (fun ls hl => ?_)
    refine lv_goto (tgt := 23) hx hb dX10_step_38 (by decide) ?_
    refine W.widen (k := (0 + 0) + 0 * (i + 1)) (n := (0 + 0) + 0 * (i + 1)) (by omega) (by omega) ?_
    exact ih () _ _ ls ⟨hP.sub [0, 1] rfl, hD.sub [0, 1] (by decide) rfl, hS, lv_sub hl [0, 1, 2] rfl⟩
set_option maxRecDepth 100000 in
set_option maxHeartbeats 4000000 in
/-- step refused -/
theorem tm_m_step_out (l : Launch) (hst : l.stackTraces = false) (dC : Nat → ClassId) (dI : Nat → Nat → Nat) (cy : Nat → ClassId) (m0 : Nat) (w0 : Nat) (tv : Int32) (r_phases : Nat) (r_phase : Nat) (r_phaseTicks : Nat) (r_set : Nat) (r_least : Nat) (r_greatest : Nat) (r_from : Nat) (r_to : Nat) (r_time : Nat) (r_room : Nat) (r_first : Nat) (r_rate : Nat) (r_cost : Nat) (r_isShut : Nat) (r_slowed : Nat) (r_row : Nat) (r_size : Nat) (r_came : Nat) (r_left : Nat) (r_mostQueue : Nat) (r_sumQueue : Nat) (r_turned : Nat) (r_flowFrom : Nat) (r_flowTo : Nat) (r_kind : Nat) (r_start : Nat) (r_period : Nat) (r_count : Nat) (r_flow : Nat) (r_began : Nat) (r_state : Nat) (r_link : Nat) (r_end : Nat) (r_gone : Nat) (r_trip : Nat) (r_delay : Nat) (r_way : Nat) (x : Int32) (sz : Nat) (hc : ¬ ((1 : Int32) ≤ x ∧ x ≤ 60)) : Met l yX10_step (tp_w yX10_step cX10_step 3 (some .int)) ({ frames := 1, cells := 0, slots := 0, locals := 22 }) (va_Pc [.ref m0, .int x] (tp_Pre dC dI cy [(m0, .inr (10, [.ref w0, .int tv])), (w0, .inr (9, [.int 0, .int 1, .int 0, .ref r_phases, .ref r_phase, .ref r_phaseTicks, .ref r_set, .ref r_least, .ref r_greatest, .int 0, .ref r_from, .ref r_to, .ref r_time, .ref r_room, .ref r_first, .ref r_rate, .ref r_cost, .ref r_isShut, .ref r_slowed, .ref r_row, .ref r_size, .ref r_came, .ref r_left, .ref r_mostQueue, .ref r_sumQueue, .ref r_turned, .int 0, .ref r_flowFrom, .ref r_flowTo, .ref r_kind, .ref r_start, .ref r_period, .ref r_count, .int 0, .ref r_flow, .ref r_began, .ref r_state, .ref r_link, .ref r_end, .ref r_gone, .ref r_trip, .ref r_delay, .ref r_way]))] sz)) (va_Qi (fun (r u : Int32) => r = u) (fun (u : Int32) (t : State) => (u = 0) ∧ tp_Post dC dI (va_A [(m0, .inr (10, [.ref w0, .int tv])), (w0, .inr (9, [.int 0, .int 1, .int 0, .ref r_phases, .ref r_phase, .ref r_phaseTicks, .ref r_set, .ref r_least, .ref r_greatest, .int 0, .ref r_from, .ref r_to, .ref r_time, .ref r_room, .ref r_first, .ref r_rate, .ref r_cost, .ref r_isShut, .ref r_slowed, .ref r_row, .ref r_size, .ref r_came, .ref r_left, .ref r_mostQueue, .ref r_sumQueue, .ref r_turned, .int 0, .ref r_flowFrom, .ref r_flowTo, .ref r_kind, .ref r_start, .ref r_period, .ref r_count, .int 0, .ref r_flow, .ref r_began, .ref r_state, .ref r_link, .ref r_end, .ref r_gone, .ref r_trip, .ref r_delay, .ref r_way]))] sz) [(m0, .inr (10, [.ref w0, .int 1]))] t) (va_A [(m0, .inr (10, [.ref w0, .int tv])), (w0, .inr (9, [.int 0, .int 1, .int 0, .ref r_phases, .ref r_phase, .ref r_phaseTicks, .ref r_set, .ref r_least, .ref r_greatest, .int 0, .ref r_from, .ref r_to, .ref r_time, .ref r_room, .ref r_first, .ref r_rate, .ref r_cost, .ref r_isShut, .ref r_slowed, .ref r_row, .ref r_size, .ref r_came, .ref r_left, .ref r_mostQueue, .ref r_sumQueue, .ref r_turned, .int 0, .ref r_flowFrom, .ref r_flowTo, .ref r_kind, .ref r_start, .ref r_period, .ref r_count, .int 0, .ref r_flow, .ref r_began, .ref r_state, .ref r_link, .ref r_end, .ref r_gone, .ref r_trip, .ref r_delay, .ref r_way]))] sz)) 0 0 (va_A [(m0, .inr (10, [.ref w0, .int tv])), (w0, .inr (9, [.int 0, .int 1, .int 0, .ref r_phases, .ref r_phase, .ref r_phaseTicks, .ref r_set, .ref r_least, .ref r_greatest, .int 0, .ref r_from, .ref r_to, .ref r_time, .ref r_room, .ref r_first, .ref r_rate, .ref r_cost, .ref r_isShut, .ref r_slowed, .ref r_row, .ref r_size, .ref r_came, .ref r_left, .ref r_mostQueue, .ref r_sumQueue, .ref r_turned, .int 0, .ref r_flowFrom, .ref r_flowTo, .ref r_kind, .ref r_start, .ref r_period, .ref r_count, .int 0, .ref r_flow, .ref r_began, .ref r_state, .ref r_link, .ref r_end, .ref r_gone, .ref r_trip, .ref r_delay, .ref r_way]))] sz) := by
  refine Met.ofW (cc := cX10_step) (maxL := 3) (ret := (some .int)) (by decide) rfl ?_
  intro p e s m args below meth c s₁ B hml hv
  obtain ⟨rfl, hsz, hP, hK, hD0, hE, hZ⟩ := hv
  have hx := B.exec
  have hb := B.bytes
  have hr := B.returns
  have hts0 := atoms_spec (ws := tp_w yX10_step cX10_step 3 (some .int)) B.pre
  have hts : ∀ w ∈ tp_all, w.before _ s = true := fun w h => hts0 w (List.mem_cons_of_mem _ h)
  have hown : s.vm.findClass RX10 = some m.cls := findClass_of_methodNamed B.named
  have hlocks := B.notSynchronized
  subst hsz
  have hD := hD0.self (sz := s.heap.size)
  generalize hAe : va_A [(m0, .inr (10, [.ref w0, .int tv])), (w0, .inr (9, [.int 0, .int 1, .int 0, .ref r_phases, .ref r_phase, .ref r_phaseTicks, .ref r_set, .ref r_least, .ref r_greatest, .int 0, .ref r_from, .ref r_to, .ref r_time, .ref r_room, .ref r_first, .ref r_rate, .ref r_cost, .ref r_isShut, .ref r_slowed, .ref r_row, .ref r_size, .ref r_came, .ref r_left, .ref r_mostQueue, .ref r_sumQueue, .ref r_turned, .int 0, .ref r_flowFrom, .ref r_flowTo, .ref r_kind, .ref r_start, .ref r_period, .ref r_count, .int 0, .ref r_flow, .ref r_began, .ref r_state, .ref r_link, .ref r_end, .ref r_gone, .ref r_trip, .ref r_delay, .ref r_way]))] s.heap.size = A at hD hZ ⊢
  have hA : ∀ q : Nat, s.heap.size ≤ q → A q := fun q h => by rw [← hAe]; exact Or.inr h
  have hS : va_S A s.heap s.heap [] := va_S.rf
  have hl9 := lv_entry ([.ref m0, .int x]) (n := 3) (Nat.le_of_ble_eq_true rfl)
  rw [lg_entry_eq]
  generalize (lg_sl ([.ref m0, .int x]) ++ List.replicate (3 - (lg_sl ([.ref m0, .int x])).length) Slot.unset).toArray = ls at hl9 ⊢
  have hl : lv_has ls 3 [(0, .ref m0), (1, .int x)] := hl9
  refine lv_aload_n hx hb dX10_step_0 rfl (lv_at hl 0 rfl) ?_
  refine lv_iconst (v := 0) hx hb dX10_step_1 (by decide) ?_
  refine va_put (D := (dC, dI)) (ci := 10) (v := .int 0) (ty := .int) (C := RX10) (T := TX10) (N := 2) hx hb hts tl_X10 tyX10 tyX10_ok nmX10 hown hK hP hD hS 0 rfl rfl 1 (by decide) (hts _ tw_1311) (fun _ h9 => h9) rfl (by decide +kernel) rfl rfl (Nat.le_of_ble_eq_true rfl) dX10_step_2 (fun H locs hP hD hS => ?_)
  have hP : va_P (dC, dI) vwCl [(m0, .inr (10, [.ref w0, .int 0])), (w0, .inr (9, [.int 0, .int 1, .int 0, .ref r_phases, .ref r_phase, .ref r_phaseTicks, .ref r_set, .ref r_least, .ref r_greatest, .int 0, .ref r_from, .ref r_to, .ref r_time, .ref r_room, .ref r_first, .ref r_rate, .ref r_cost, .ref r_isShut, .ref r_slowed, .ref r_row, .ref r_size, .ref r_came, .ref r_left, .ref r_mostQueue, .ref r_sumQueue, .ref r_turned, .int 0, .ref r_flowFrom, .ref r_flowTo, .ref r_kind, .ref r_start, .ref r_period, .ref r_count, .int 0, .ref r_flow, .ref r_began, .ref r_state, .ref r_link, .ref r_end, .ref r_gone, .ref r_trip, .ref r_delay, .ref r_way]))] _ := hP
  have hD : va_D A [(m0, .inr (10, [.ref w0, .int 0])), (w0, .inr (9, [.int 0, .int 1, .int 0, .ref r_phases, .ref r_phase, .ref r_phaseTicks, .ref r_set, .ref r_least, .ref r_greatest, .int 0, .ref r_from, .ref r_to, .ref r_time, .ref r_room, .ref r_first, .ref r_rate, .ref r_cost, .ref r_isShut, .ref r_slowed, .ref r_row, .ref r_size, .ref r_came, .ref r_left, .ref r_mostQueue, .ref r_sumQueue, .ref r_turned, .int 0, .ref r_flowFrom, .ref r_flowTo, .ref r_kind, .ref r_start, .ref r_period, .ref r_count, .int 0, .ref r_flow, .ref r_began, .ref r_state, .ref r_link, .ref r_end, .ref r_gone, .ref r_trip, .ref r_delay, .ref r_way]))] := hD
  refine lv_iload_n hx hb dX10_step_5 rfl (lv_at hl 1 rfl) ?_
  refine lv_iconst (v := 1) hx hb dX10_step_6 (by decide) ?_
  refine lv_bipush (v := 60) hx hb dX10_step_7 (by decide) ?_
  have hFc := va_free (wc := []) hD hS hA [] rfl
  refine va_calli (va_runS (As := [.int x, .int 1, .int 60]) (rest := []) ⟨hx, hb, hml, hown, hts⟩ (tm_isIn_out l hst dC dI cy x 1 60 H.size (by first | assumption | exact tp_none _ | decide | omega)) (tp_cwS 3 hts tw_1337 tw_1338 tw_48 tw_1339 rfl rfl (by decide +kernel) ⟨Nat.le_of_ble_eq_true rfl, Nat.le_of_ble_eq_true rfl⟩) ⟨tp_blind, fun U hU hW => ⟨rfl, tp_pay hK hP hD hE hZ hS [] (by decide) rfl hFc U hU hW⟩⟩ rfl rfl hl.1 rfl (lv_room (Nat.le_of_ble_eq_true rfl)) dX10_step_9 ⟨(Nat.le_of_ble_eq_true rfl), (Nat.le_of_ble_eq_true rfl)⟩) hS (fun q _ h => hFc q h) hFc (fun r_1 u t H1 locs ht hvm hw hB hz1 hk1 hS => ?_)
  obtain rfl := hw
  obtain ⟨f_2, hP1, hD1⟩ := hB
  subst f_2
  rw [ht] at hP1
  obtain ⟨hP, hD⟩ := va_join (wr := [(m0, .inr (10, [.ref w0, .int 0])), (w0, .inr (9, [.int 0, .int 1, .int 0, .ref r_phases, .ref r_phase, .ref r_phaseTicks, .ref r_set, .ref r_least, .ref r_greatest, .int 0, .ref r_from, .ref r_to, .ref r_time, .ref r_room, .ref r_first, .ref r_rate, .ref r_cost, .ref r_isShut, .ref r_slowed, .ref r_row, .ref r_size, .ref r_came, .ref r_left, .ref r_mostQueue, .ref r_sumQueue, .ref r_turned, .int 0, .ref r_flowFrom, .ref r_flowTo, .ref r_kind, .ref r_start, .ref r_period, .ref r_count, .int 0, .ref r_flow, .ref r_began, .ref r_state, .ref r_link, .ref r_end, .ref r_gone, .ref r_trip, .ref r_delay, .ref r_way]))]) (w1 := []) hP hD [] [0, 1] rfl rfl (by decide) (by decide) hk1 hFc hP1 hD1
  generalize H1 = H at hP hS ⊢
  have hP : va_P (dC, dI) vwCl [(m0, .inr (10, [.ref w0, .int 0])), (w0, .inr (9, [.int 0, .int 1, .int 0, .ref r_phases, .ref r_phase, .ref r_phaseTicks, .ref r_set, .ref r_least, .ref r_greatest, .int 0, .ref r_from, .ref r_to, .ref r_time, .ref r_room, .ref r_first, .ref r_rate, .ref r_cost, .ref r_isShut, .ref r_slowed, .ref r_row, .ref r_size, .ref r_came, .ref r_left, .ref r_mostQueue, .ref r_sumQueue, .ref r_turned, .int 0, .ref r_flowFrom, .ref r_flowTo, .ref r_kind, .ref r_start, .ref r_period, .ref r_count, .int 0, .ref r_flow, .ref r_began, .ref r_state, .ref r_link, .ref r_end, .ref r_gone, .ref r_trip, .ref r_delay, .ref r_way]))] _ := hP
  have hD : va_D A [(m0, .inr (10, [.ref w0, .int 0])), (w0, .inr (9, [.int 0, .int 1, .int 0, .ref r_phases, .ref r_phase, .ref r_phaseTicks, .ref r_set, .ref r_least, .ref r_greatest, .int 0, .ref r_from, .ref r_to, .ref r_time, .ref r_room, .ref r_first, .ref r_rate, .ref r_cost, .ref r_isShut, .ref r_slowed, .ref r_row, .ref r_size, .ref r_came, .ref r_left, .ref r_mostQueue, .ref r_sumQueue, .ref r_turned, .int 0, .ref r_flowFrom, .ref r_flowTo, .ref r_kind, .ref r_start, .ref r_period, .ref r_count, .int 0, .ref r_flow, .ref r_began, .ref r_state, .ref r_link, .ref r_end, .ref r_gone, .ref r_trip, .ref r_delay, .ref r_way]))] := hD
  refine lv_if_ne (tgt := 21) hx hb dX10_step_12 (by decide) (fun c_3 => absurd (by decide) c_3) (fun _ => ?_)
  refine lv_aload_n hx hb dX10_step_15 rfl (lv_at hl 0 rfl) ?_
  refine lv_iconst (v := 1) hx hb dX10_step_16 (by decide) ?_
  have hFc := va_free (wc := [(m0, .inr (10, [.ref w0, .int 0]))]) hD hS hA [0] rfl
  refine va_calli (va_runV (As := [.int 1]) (rest := []) ⟨hx, hb, hml, hown, hts⟩ (tm_m_no l hst dC dI cy m0 w0 0 1 H.size) (tp_cwV 1 hts tw_1325 tw_1327 tw_18 tw_48 tw_1328 rfl rfl (by decide +kernel) ⟨Nat.le_of_ble_eq_true rfl, Nat.le_of_ble_eq_true rfl⟩) ⟨tp_blind, va_recv hK hP (ci := 10) (q0 := 0) rfl rfl, fun U hU hW => ⟨rfl, tp_pay hK hP hD hE hZ hS [0] (by decide) rfl hFc U hU hW⟩⟩ rfl rfl hl.1 rfl (lv_room (Nat.le_of_ble_eq_true rfl)) dX10_step_17 ⟨(Nat.le_of_ble_eq_true rfl), (Nat.le_of_ble_eq_true rfl)⟩) hS (fun q _ h => hFc q h) hFc (fun r_4 u t H1 locs ht hvm hw hB hz1 hk1 hS => ?_)
  obtain rfl := hw
  obtain ⟨f_5, hP1, hD1⟩ := hB
  subst f_5
  rw [ht] at hP1
  obtain ⟨hP, hD⟩ := va_join (wr := [(w0, .inr (9, [.int 0, .int 1, .int 0, .ref r_phases, .ref r_phase, .ref r_phaseTicks, .ref r_set, .ref r_least, .ref r_greatest, .int 0, .ref r_from, .ref r_to, .ref r_time, .ref r_room, .ref r_first, .ref r_rate, .ref r_cost, .ref r_isShut, .ref r_slowed, .ref r_row, .ref r_size, .ref r_came, .ref r_left, .ref r_mostQueue, .ref r_sumQueue, .ref r_turned, .int 0, .ref r_flowFrom, .ref r_flowTo, .ref r_kind, .ref r_start, .ref r_period, .ref r_count, .int 0, .ref r_flow, .ref r_began, .ref r_state, .ref r_link, .ref r_end, .ref r_gone, .ref r_trip, .ref r_delay, .ref r_way]))]) (w1 := [(m0, .inr (10, [.ref w0, .int 1]))]) hP hD [0] [1] rfl rfl (by decide) (by decide) hk1 hFc hP1 hD1
  generalize H1 = H at hP hS ⊢
  have hP : va_P (dC, dI) vwCl [(w0, .inr (9, [.int 0, .int 1, .int 0, .ref r_phases, .ref r_phase, .ref r_phaseTicks, .ref r_set, .ref r_least, .ref r_greatest, .int 0, .ref r_from, .ref r_to, .ref r_time, .ref r_room, .ref r_first, .ref r_rate, .ref r_cost, .ref r_isShut, .ref r_slowed, .ref r_row, .ref r_size, .ref r_came, .ref r_left, .ref r_mostQueue, .ref r_sumQueue, .ref r_turned, .int 0, .ref r_flowFrom, .ref r_flowTo, .ref r_kind, .ref r_start, .ref r_period, .ref r_count, .int 0, .ref r_flow, .ref r_began, .ref r_state, .ref r_link, .ref r_end, .ref r_gone, .ref r_trip, .ref r_delay, .ref r_way])), (m0, .inr (10, [.ref w0, .int 1]))] _ := hP
  have hD : va_D A [(w0, .inr (9, [.int 0, .int 1, .int 0, .ref r_phases, .ref r_phase, .ref r_phaseTicks, .ref r_set, .ref r_least, .ref r_greatest, .int 0, .ref r_from, .ref r_to, .ref r_time, .ref r_room, .ref r_first, .ref r_rate, .ref r_cost, .ref r_isShut, .ref r_slowed, .ref r_row, .ref r_size, .ref r_came, .ref r_left, .ref r_mostQueue, .ref r_sumQueue, .ref r_turned, .int 0, .ref r_flowFrom, .ref r_flowTo, .ref r_kind, .ref r_start, .ref r_period, .ref r_count, .int 0, .ref r_flow, .ref r_began, .ref r_state, .ref r_link, .ref r_end, .ref r_gone, .ref r_trip, .ref r_delay, .ref r_way])), (m0, .inr (10, [.ref w0, .int 1]))] := hD
  refine W.widen (k := 0) (n := 0) (Nat.le_of_ble_eq_true rfl) (Nat.le_of_ble_eq_true rfl) ?_
  have hP9 := hP.sub (ws' := [(m0, .inr (10, [.ref w0, .int 1]))]) [1] rfl
  have hD9 := hD.sub (ws' := [(m0, .inr (10, [.ref w0, .int 1]))]) [1] (by decide) rfl
  exact W.iret (v := 0) hx hb hr (fun t ht hW => ⟨⟨0, 0, rfl, rfl, ⟨(by first | rfl | assumption), by rw [ht]; exact hP9, hD9⟩⟩, hS.F ht⟩) hS.2.2 dX10_step_20
set_option maxRecDepth 100000 in
set_option maxHeartbeats 4000000 in
/-- World.moving while no vehicle came -/
theorem tm_moving (l : Launch) (hst : l.stackTraces = false) (dC : Nat → ClassId) (dI : Nat → Nat → Nat) (cy : Nat → ClassId) (w0 : Nat) (r_phases : Nat) (r_phase : Nat) (r_phaseTicks : Nat) (r_set : Nat) (r_least : Nat) (r_greatest : Nat) (r_from : Nat) (r_to : Nat) (r_time : Nat) (r_room : Nat) (r_first : Nat) (r_rate : Nat) (r_cost : Nat) (r_isShut : Nat) (r_slowed : Nat) (r_row : Nat) (r_size : Nat) (r_came : Nat) (r_left : Nat) (r_mostQueue : Nat) (r_sumQueue : Nat) (r_turned : Nat) (r_flowFrom : Nat) (r_flowTo : Nat) (r_kind : Nat) (r_start : Nat) (r_period : Nat) (r_count : Nat) (r_flow : Nat) (r_began : Nat) (r_state : Nat) (r_link : Nat) (r_end : Nat) (r_gone : Nat) (r_trip : Nat) (r_delay : Nat) (r_way : Nat) (sz : Nat) : Met l yX9_moving (tp_w yX9_moving cX9_moving 3 (some .int)) ({ frames := 0, cells := 0, slots := 0, locals := 0 }) (va_Pc [.ref w0] (tp_Pre dC dI cy [(w0, .inr (9, [.int 0, .int 1, .int 0, .ref r_phases, .ref r_phase, .ref r_phaseTicks, .ref r_set, .ref r_least, .ref r_greatest, .int 0, .ref r_from, .ref r_to, .ref r_time, .ref r_room, .ref r_first, .ref r_rate, .ref r_cost, .ref r_isShut, .ref r_slowed, .ref r_row, .ref r_size, .ref r_came, .ref r_left, .ref r_mostQueue, .ref r_sumQueue, .ref r_turned, .int 0, .ref r_flowFrom, .ref r_flowTo, .ref r_kind, .ref r_start, .ref r_period, .ref r_count, .int 0, .ref r_flow, .ref r_began, .ref r_state, .ref r_link, .ref r_end, .ref r_gone, .ref r_trip, .ref r_delay, .ref r_way]))] sz)) (va_Qi (fun (r u : Int32) => r = u) (fun (u : Int32) (t : State) => (u = 0) ∧ tp_Post dC dI (va_A [(w0, .inr (9, [.int 0, .int 1, .int 0, .ref r_phases, .ref r_phase, .ref r_phaseTicks, .ref r_set, .ref r_least, .ref r_greatest, .int 0, .ref r_from, .ref r_to, .ref r_time, .ref r_room, .ref r_first, .ref r_rate, .ref r_cost, .ref r_isShut, .ref r_slowed, .ref r_row, .ref r_size, .ref r_came, .ref r_left, .ref r_mostQueue, .ref r_sumQueue, .ref r_turned, .int 0, .ref r_flowFrom, .ref r_flowTo, .ref r_kind, .ref r_start, .ref r_period, .ref r_count, .int 0, .ref r_flow, .ref r_began, .ref r_state, .ref r_link, .ref r_end, .ref r_gone, .ref r_trip, .ref r_delay, .ref r_way]))] sz) [] t) (va_A [(w0, .inr (9, [.int 0, .int 1, .int 0, .ref r_phases, .ref r_phase, .ref r_phaseTicks, .ref r_set, .ref r_least, .ref r_greatest, .int 0, .ref r_from, .ref r_to, .ref r_time, .ref r_room, .ref r_first, .ref r_rate, .ref r_cost, .ref r_isShut, .ref r_slowed, .ref r_row, .ref r_size, .ref r_came, .ref r_left, .ref r_mostQueue, .ref r_sumQueue, .ref r_turned, .int 0, .ref r_flowFrom, .ref r_flowTo, .ref r_kind, .ref r_start, .ref r_period, .ref r_count, .int 0, .ref r_flow, .ref r_began, .ref r_state, .ref r_link, .ref r_end, .ref r_gone, .ref r_trip, .ref r_delay, .ref r_way]))] sz)) 0 0 (va_A [(w0, .inr (9, [.int 0, .int 1, .int 0, .ref r_phases, .ref r_phase, .ref r_phaseTicks, .ref r_set, .ref r_least, .ref r_greatest, .int 0, .ref r_from, .ref r_to, .ref r_time, .ref r_room, .ref r_first, .ref r_rate, .ref r_cost, .ref r_isShut, .ref r_slowed, .ref r_row, .ref r_size, .ref r_came, .ref r_left, .ref r_mostQueue, .ref r_sumQueue, .ref r_turned, .int 0, .ref r_flowFrom, .ref r_flowTo, .ref r_kind, .ref r_start, .ref r_period, .ref r_count, .int 0, .ref r_flow, .ref r_began, .ref r_state, .ref r_link, .ref r_end, .ref r_gone, .ref r_trip, .ref r_delay, .ref r_way]))] sz) := by
  refine Met.ofW (cc := cX9_moving) (maxL := 3) (ret := (some .int)) (by decide) rfl ?_
  intro p e s m args below meth c s₁ B hml hv
  obtain ⟨rfl, hsz, hP, hK, hD0, hE, hZ⟩ := hv
  have hx := B.exec
  have hb := B.bytes
  have hr := B.returns
  have hts0 := atoms_spec (ws := tp_w yX9_moving cX9_moving 3 (some .int)) B.pre
  have hts : ∀ w ∈ tp_all, w.before _ s = true := fun w h => hts0 w (List.mem_cons_of_mem _ h)
  have hown : s.vm.findClass RX9 = some m.cls := findClass_of_methodNamed B.named
  have hlocks := B.notSynchronized
  subst hsz
  have hD := hD0.self (sz := s.heap.size)
  generalize hAe : va_A [(w0, .inr (9, [.int 0, .int 1, .int 0, .ref r_phases, .ref r_phase, .ref r_phaseTicks, .ref r_set, .ref r_least, .ref r_greatest, .int 0, .ref r_from, .ref r_to, .ref r_time, .ref r_room, .ref r_first, .ref r_rate, .ref r_cost, .ref r_isShut, .ref r_slowed, .ref r_row, .ref r_size, .ref r_came, .ref r_left, .ref r_mostQueue, .ref r_sumQueue, .ref r_turned, .int 0, .ref r_flowFrom, .ref r_flowTo, .ref r_kind, .ref r_start, .ref r_period, .ref r_count, .int 0, .ref r_flow, .ref r_began, .ref r_state, .ref r_link, .ref r_end, .ref r_gone, .ref r_trip, .ref r_delay, .ref r_way]))] s.heap.size = A at hD hZ ⊢
  have hA : ∀ q : Nat, s.heap.size ≤ q → A q := fun q h => by rw [← hAe]; exact Or.inr h
  have hS : va_S A s.heap s.heap [] := va_S.rf
  have hl9 := lv_entry ([.ref w0]) (n := 3) (Nat.le_of_ble_eq_true rfl)
  rw [lg_entry_eq]
  generalize (lg_sl ([.ref w0]) ++ List.replicate (3 - (lg_sl ([.ref w0])).length) Slot.unset).toArray = ls at hl9 ⊢
  have hl : lv_has ls 3 [(0, .ref w0)] := hl9
  refine lv_iconst (v := 0) hx hb dX9_moving_0 (by decide) ?_
  refine lv_istore_n (lv' := [(1, .int 0), (0, .ref w0)]) hx hb dX9_moving_1 rfl hl (by decide) rfl (fun ls hl => ?_)
  refine lv_iconst (v := 0) hx hb dX9_moving_2 (by decide) ?_
  refine lv_istore_n (lv' := [(2, .int 0), (1, .int 0), (0, .ref w0)]) hx hb dX9_moving_3 rfl hl (by decide) rfl (fun ls hl => ?_)
  refine lv_iload_n hx hb dX9_moving_4 rfl (lv_at hl 0 rfl) ?_
  refine lv_aload_n hx hb dX9_moving_5 rfl (lv_at hl 2 rfl) ?_
  refine va_get (D := (dC, dI)) (ci := 9) (v := .int 0) (C := RX9) (T := TX9) (N := 43) hx hb hts tl_X9 hown hK hP 0 rfl rfl 33 (by decide) (hts _ tw_1204) (fun _ h9 => h9) rfl dX9_moving_6 ?_
  refine lv_icmp_ge (tgt := 45) hx hb dX9_moving_9 (by decide) (fun _ => ?_) (fun c_1 => absurd (by decide) c_1)
  refine lv_iload_n hx hb dX9_moving_45 rfl (lv_at hl 1 rfl) ?_
  refine W.widen (k := 0) (n := 0) (Nat.le_of_ble_eq_true rfl) (Nat.le_of_ble_eq_true rfl) ?_
  have hP9 := hP.sub (ws' := []) [] rfl
  have hD9 := hD.sub (ws' := []) [] (by decide) rfl
  exact W.iret (v := 0) hx hb hr (fun t ht hW => ⟨⟨0, 0, rfl, rfl, ⟨(by first | rfl | assumption), by rw [ht]; exact hP9, hD9⟩⟩, hS.F ht⟩) hS.2.2 dX9_moving_46
set_option maxRecDepth 100000 in
set_option maxHeartbeats 4000000 in
/-- emptyIn -/
theorem tm_m_emptyIn_in (l : Launch) (hst : l.stackTraces = false) (dC : Nat → ClassId) (dI : Nat → Nat → Nat) (cy : Nat → ClassId) (m0 : Nat) (w0 : Nat) (tv : Int32) (r_phases : Nat) (r_phase : Nat) (r_phaseTicks : Nat) (r_set : Nat) (r_least : Nat) (r_greatest : Nat) (r_from : Nat) (r_to : Nat) (r_time : Nat) (r_room : Nat) (r_first : Nat) (r_rate : Nat) (r_cost : Nat) (r_isShut : Nat) (r_slowed : Nat) (r_row : Nat) (r_size : Nat) (r_came : Nat) (r_left : Nat) (r_mostQueue : Nat) (r_sumQueue : Nat) (r_turned : Nat) (r_flowFrom : Nat) (r_flowTo : Nat) (r_kind : Nat) (r_start : Nat) (r_period : Nat) (r_count : Nat) (r_flow : Nat) (r_began : Nat) (r_state : Nat) (r_link : Nat) (r_end : Nat) (r_gone : Nat) (r_trip : Nat) (r_delay : Nat) (r_way : Nat) (g_phases : Nat → Int32) (g_phase : Nat → Int32) (g_phaseTicks : Nat → Int32) (g_set : Nat → Int32) (g_least : Nat → Int32) (g_greatest : Nat → Int32) (g_from : Nat → Int32) (g_to : Nat → Int32) (g_time : Nat → Int32) (g_room : Nat → Int32) (g_first : Nat → Int32) (g_rate : Nat → Int32) (g_cost : Nat → Int32) (g_slowed : Nat → Int32) (g_row : Nat → Int32) (g_size : Nat → Int32) (g_came : Nat → Int32) (g_left : Nat → Int32) (g_mostQueue : Nat → Int32) (g_sumQueue : Nat → Int32) (g_turned : Nat → Int32) (g_flowFrom : Nat → Int32) (g_flowTo : Nat → Int32) (g_kind : Nat → Int32) (g_start : Nat → Int32) (g_period : Nat → Int32) (g_count : Nat → Int32) (g_flow : Nat → Int32) (g_began : Nat → Int32) (g_state : Nat → Int32) (g_link : Nat → Int32) (g_end : Nat → Int32) (g_gone : Nat → Int32) (g_trip : Nat → Int32) (g_delay : Nat → Int32) (x : Int32) (sz : Nat) (hc : (1 : Int32) ≤ x ∧ x ≤ 60) : Met l yX10_emptyIn (tp_w yX10_emptyIn cX10_emptyIn 4 (some .int)) ({ frames := 3, cells := 73, slots := 20147, locals := 64 }) (va_Pc [.ref m0, .int x] (tp_Pre dC dI cy [(m0, .inr (10, [.ref w0, .int tv])), (w0, .inr (9, [.int 0, .int 1, .int 0, .ref r_phases, .ref r_phase, .ref r_phaseTicks, .ref r_set, .ref r_least, .ref r_greatest, .int 0, .ref r_from, .ref r_to, .ref r_time, .ref r_room, .ref r_first, .ref r_rate, .ref r_cost, .ref r_isShut, .ref r_slowed, .ref r_row, .ref r_size, .ref r_came, .ref r_left, .ref r_mostQueue, .ref r_sumQueue, .ref r_turned, .int 0, .ref r_flowFrom, .ref r_flowTo, .ref r_kind, .ref r_start, .ref r_period, .ref r_count, .int 0, .ref r_flow, .ref r_began, .ref r_state, .ref r_link, .ref r_end, .ref r_gone, .ref r_trip, .ref r_delay, .ref r_way])), (r_phases, .inl (cy 0, 12, .inl g_phases)), (r_phase, .inl (cy 0, 12, .inl g_phase)), (r_phaseTicks, .inl (cy 0, 12, .inl g_phaseTicks)), (r_set, .inl (cy 0, 48, .inl g_set)), (r_least, .inl (cy 0, 48, .inl g_least)), (r_greatest, .inl (cy 0, 48, .inl g_greatest)), (r_from, .inl (cy 0, 24, .inl g_from)), (r_to, .inl (cy 0, 24, .inl g_to)), (r_time, .inl (cy 0, 24, .inl g_time)), (r_room, .inl (cy 0, 24, .inl g_room)), (r_first, .inl (cy 0, 24, .inl g_first)), (r_rate, .inl (cy 0, 24, .inl g_rate)), (r_cost, .inl (cy 0, 24, .inl g_cost)), (r_slowed, .inl (cy 0, 24, .inl g_slowed)), (r_row, .inl (cy 0, 7200, .inl g_row)), (r_size, .inl (cy 0, 36, .inl g_size)), (r_came, .inl (cy 0, 24, .inl g_came)), (r_left, .inl (cy 0, 24, .inl g_left)), (r_mostQueue, .inl (cy 0, 24, .inl g_mostQueue)), (r_sumQueue, .inl (cy 0, 24, .inl g_sumQueue)), (r_turned, .inl (cy 0, 576, .inl g_turned)), (r_flowFrom, .inl (cy 0, 10, .inl g_flowFrom)), (r_flowTo, .inl (cy 0, 10, .inl g_flowTo)), (r_kind, .inl (cy 0, 10, .inl g_kind)), (r_start, .inl (cy 0, 10, .inl g_start)), (r_period, .inl (cy 0, 10, .inl g_period)), (r_count, .inl (cy 0, 10, .inl g_count)), (r_flow, .inl (cy 0, 200, .inl g_flow)), (r_began, .inl (cy 0, 200, .inl g_began)), (r_state, .inl (cy 0, 200, .inl g_state)), (r_link, .inl (cy 0, 200, .inl g_link)), (r_end, .inl (cy 0, 200, .inl g_end)), (r_gone, .inl (cy 0, 200, .inl g_gone)), (r_trip, .inl (cy 0, 200, .inl g_trip)), (r_delay, .inl (cy 0, 200, .inl g_delay)), (r_isShut, .inl (cy 2, 24, .inl ((fun _ => 0))))] sz)) (va_Qi (fun (r u : Int32) => r = u) (fun (u : Int32) (t : State) => (u = 0) ∧ tp_Post dC dI (va_A [(m0, .inr (10, [.ref w0, .int tv])), (w0, .inr (9, [.int 0, .int 1, .int 0, .ref r_phases, .ref r_phase, .ref r_phaseTicks, .ref r_set, .ref r_least, .ref r_greatest, .int 0, .ref r_from, .ref r_to, .ref r_time, .ref r_room, .ref r_first, .ref r_rate, .ref r_cost, .ref r_isShut, .ref r_slowed, .ref r_row, .ref r_size, .ref r_came, .ref r_left, .ref r_mostQueue, .ref r_sumQueue, .ref r_turned, .int 0, .ref r_flowFrom, .ref r_flowTo, .ref r_kind, .ref r_start, .ref r_period, .ref r_count, .int 0, .ref r_flow, .ref r_began, .ref r_state, .ref r_link, .ref r_end, .ref r_gone, .ref r_trip, .ref r_delay, .ref r_way])), (r_phases, .inl (cy 0, 12, .inl g_phases)), (r_phase, .inl (cy 0, 12, .inl g_phase)), (r_phaseTicks, .inl (cy 0, 12, .inl g_phaseTicks)), (r_set, .inl (cy 0, 48, .inl g_set)), (r_least, .inl (cy 0, 48, .inl g_least)), (r_greatest, .inl (cy 0, 48, .inl g_greatest)), (r_from, .inl (cy 0, 24, .inl g_from)), (r_to, .inl (cy 0, 24, .inl g_to)), (r_time, .inl (cy 0, 24, .inl g_time)), (r_room, .inl (cy 0, 24, .inl g_room)), (r_first, .inl (cy 0, 24, .inl g_first)), (r_rate, .inl (cy 0, 24, .inl g_rate)), (r_cost, .inl (cy 0, 24, .inl g_cost)), (r_slowed, .inl (cy 0, 24, .inl g_slowed)), (r_row, .inl (cy 0, 7200, .inl g_row)), (r_size, .inl (cy 0, 36, .inl g_size)), (r_came, .inl (cy 0, 24, .inl g_came)), (r_left, .inl (cy 0, 24, .inl g_left)), (r_mostQueue, .inl (cy 0, 24, .inl g_mostQueue)), (r_sumQueue, .inl (cy 0, 24, .inl g_sumQueue)), (r_turned, .inl (cy 0, 576, .inl g_turned)), (r_flowFrom, .inl (cy 0, 10, .inl g_flowFrom)), (r_flowTo, .inl (cy 0, 10, .inl g_flowTo)), (r_kind, .inl (cy 0, 10, .inl g_kind)), (r_start, .inl (cy 0, 10, .inl g_start)), (r_period, .inl (cy 0, 10, .inl g_period)), (r_count, .inl (cy 0, 10, .inl g_count)), (r_flow, .inl (cy 0, 200, .inl g_flow)), (r_began, .inl (cy 0, 200, .inl g_began)), (r_state, .inl (cy 0, 200, .inl g_state)), (r_link, .inl (cy 0, 200, .inl g_link)), (r_end, .inl (cy 0, 200, .inl g_end)), (r_gone, .inl (cy 0, 200, .inl g_gone)), (r_trip, .inl (cy 0, 200, .inl g_trip)), (r_delay, .inl (cy 0, 200, .inl g_delay)), (r_isShut, .inl (cy 2, 24, .inl ((fun _ => 0))))] sz) [(m0, .inr (10, [.ref w0, .int 0]))] t) (va_A [(m0, .inr (10, [.ref w0, .int tv])), (w0, .inr (9, [.int 0, .int 1, .int 0, .ref r_phases, .ref r_phase, .ref r_phaseTicks, .ref r_set, .ref r_least, .ref r_greatest, .int 0, .ref r_from, .ref r_to, .ref r_time, .ref r_room, .ref r_first, .ref r_rate, .ref r_cost, .ref r_isShut, .ref r_slowed, .ref r_row, .ref r_size, .ref r_came, .ref r_left, .ref r_mostQueue, .ref r_sumQueue, .ref r_turned, .int 0, .ref r_flowFrom, .ref r_flowTo, .ref r_kind, .ref r_start, .ref r_period, .ref r_count, .int 0, .ref r_flow, .ref r_began, .ref r_state, .ref r_link, .ref r_end, .ref r_gone, .ref r_trip, .ref r_delay, .ref r_way])), (r_phases, .inl (cy 0, 12, .inl g_phases)), (r_phase, .inl (cy 0, 12, .inl g_phase)), (r_phaseTicks, .inl (cy 0, 12, .inl g_phaseTicks)), (r_set, .inl (cy 0, 48, .inl g_set)), (r_least, .inl (cy 0, 48, .inl g_least)), (r_greatest, .inl (cy 0, 48, .inl g_greatest)), (r_from, .inl (cy 0, 24, .inl g_from)), (r_to, .inl (cy 0, 24, .inl g_to)), (r_time, .inl (cy 0, 24, .inl g_time)), (r_room, .inl (cy 0, 24, .inl g_room)), (r_first, .inl (cy 0, 24, .inl g_first)), (r_rate, .inl (cy 0, 24, .inl g_rate)), (r_cost, .inl (cy 0, 24, .inl g_cost)), (r_slowed, .inl (cy 0, 24, .inl g_slowed)), (r_row, .inl (cy 0, 7200, .inl g_row)), (r_size, .inl (cy 0, 36, .inl g_size)), (r_came, .inl (cy 0, 24, .inl g_came)), (r_left, .inl (cy 0, 24, .inl g_left)), (r_mostQueue, .inl (cy 0, 24, .inl g_mostQueue)), (r_sumQueue, .inl (cy 0, 24, .inl g_sumQueue)), (r_turned, .inl (cy 0, 576, .inl g_turned)), (r_flowFrom, .inl (cy 0, 10, .inl g_flowFrom)), (r_flowTo, .inl (cy 0, 10, .inl g_flowTo)), (r_kind, .inl (cy 0, 10, .inl g_kind)), (r_start, .inl (cy 0, 10, .inl g_start)), (r_period, .inl (cy 0, 10, .inl g_period)), (r_count, .inl (cy 0, 10, .inl g_count)), (r_flow, .inl (cy 0, 200, .inl g_flow)), (r_began, .inl (cy 0, 200, .inl g_began)), (r_state, .inl (cy 0, 200, .inl g_state)), (r_link, .inl (cy 0, 200, .inl g_link)), (r_end, .inl (cy 0, 200, .inl g_end)), (r_gone, .inl (cy 0, 200, .inl g_gone)), (r_trip, .inl (cy 0, 200, .inl g_trip)), (r_delay, .inl (cy 0, 200, .inl g_delay)), (r_isShut, .inl (cy 2, 24, .inl ((fun _ => 0))))] sz)) 73 20147 (va_A [(m0, .inr (10, [.ref w0, .int tv])), (w0, .inr (9, [.int 0, .int 1, .int 0, .ref r_phases, .ref r_phase, .ref r_phaseTicks, .ref r_set, .ref r_least, .ref r_greatest, .int 0, .ref r_from, .ref r_to, .ref r_time, .ref r_room, .ref r_first, .ref r_rate, .ref r_cost, .ref r_isShut, .ref r_slowed, .ref r_row, .ref r_size, .ref r_came, .ref r_left, .ref r_mostQueue, .ref r_sumQueue, .ref r_turned, .int 0, .ref r_flowFrom, .ref r_flowTo, .ref r_kind, .ref r_start, .ref r_period, .ref r_count, .int 0, .ref r_flow, .ref r_began, .ref r_state, .ref r_link, .ref r_end, .ref r_gone, .ref r_trip, .ref r_delay, .ref r_way])), (r_phases, .inl (cy 0, 12, .inl g_phases)), (r_phase, .inl (cy 0, 12, .inl g_phase)), (r_phaseTicks, .inl (cy 0, 12, .inl g_phaseTicks)), (r_set, .inl (cy 0, 48, .inl g_set)), (r_least, .inl (cy 0, 48, .inl g_least)), (r_greatest, .inl (cy 0, 48, .inl g_greatest)), (r_from, .inl (cy 0, 24, .inl g_from)), (r_to, .inl (cy 0, 24, .inl g_to)), (r_time, .inl (cy 0, 24, .inl g_time)), (r_room, .inl (cy 0, 24, .inl g_room)), (r_first, .inl (cy 0, 24, .inl g_first)), (r_rate, .inl (cy 0, 24, .inl g_rate)), (r_cost, .inl (cy 0, 24, .inl g_cost)), (r_slowed, .inl (cy 0, 24, .inl g_slowed)), (r_row, .inl (cy 0, 7200, .inl g_row)), (r_size, .inl (cy 0, 36, .inl g_size)), (r_came, .inl (cy 0, 24, .inl g_came)), (r_left, .inl (cy 0, 24, .inl g_left)), (r_mostQueue, .inl (cy 0, 24, .inl g_mostQueue)), (r_sumQueue, .inl (cy 0, 24, .inl g_sumQueue)), (r_turned, .inl (cy 0, 576, .inl g_turned)), (r_flowFrom, .inl (cy 0, 10, .inl g_flowFrom)), (r_flowTo, .inl (cy 0, 10, .inl g_flowTo)), (r_kind, .inl (cy 0, 10, .inl g_kind)), (r_start, .inl (cy 0, 10, .inl g_start)), (r_period, .inl (cy 0, 10, .inl g_period)), (r_count, .inl (cy 0, 10, .inl g_count)), (r_flow, .inl (cy 0, 200, .inl g_flow)), (r_began, .inl (cy 0, 200, .inl g_began)), (r_state, .inl (cy 0, 200, .inl g_state)), (r_link, .inl (cy 0, 200, .inl g_link)), (r_end, .inl (cy 0, 200, .inl g_end)), (r_gone, .inl (cy 0, 200, .inl g_gone)), (r_trip, .inl (cy 0, 200, .inl g_trip)), (r_delay, .inl (cy 0, 200, .inl g_delay)), (r_isShut, .inl (cy 2, 24, .inl ((fun _ => 0))))] sz) := by
  refine Met.ofW (cc := cX10_emptyIn) (maxL := 4) (ret := (some .int)) (by decide) rfl ?_
  intro p e s m args below meth c s₁ B hml hv
  obtain ⟨rfl, hsz, hP, hK, hD0, hE, hZ⟩ := hv
  have hx := B.exec
  have hb := B.bytes
  have hr := B.returns
  have hts0 := atoms_spec (ws := tp_w yX10_emptyIn cX10_emptyIn 4 (some .int)) B.pre
  have hts : ∀ w ∈ tp_all, w.before _ s = true := fun w h => hts0 w (List.mem_cons_of_mem _ h)
  have hown : s.vm.findClass RX10 = some m.cls := findClass_of_methodNamed B.named
  have hlocks := B.notSynchronized
  subst hsz
  have hD := hD0.self (sz := s.heap.size)
  generalize hAe : va_A [(m0, .inr (10, [.ref w0, .int tv])), (w0, .inr (9, [.int 0, .int 1, .int 0, .ref r_phases, .ref r_phase, .ref r_phaseTicks, .ref r_set, .ref r_least, .ref r_greatest, .int 0, .ref r_from, .ref r_to, .ref r_time, .ref r_room, .ref r_first, .ref r_rate, .ref r_cost, .ref r_isShut, .ref r_slowed, .ref r_row, .ref r_size, .ref r_came, .ref r_left, .ref r_mostQueue, .ref r_sumQueue, .ref r_turned, .int 0, .ref r_flowFrom, .ref r_flowTo, .ref r_kind, .ref r_start, .ref r_period, .ref r_count, .int 0, .ref r_flow, .ref r_began, .ref r_state, .ref r_link, .ref r_end, .ref r_gone, .ref r_trip, .ref r_delay, .ref r_way])), (r_phases, .inl (cy 0, 12, .inl g_phases)), (r_phase, .inl (cy 0, 12, .inl g_phase)), (r_phaseTicks, .inl (cy 0, 12, .inl g_phaseTicks)), (r_set, .inl (cy 0, 48, .inl g_set)), (r_least, .inl (cy 0, 48, .inl g_least)), (r_greatest, .inl (cy 0, 48, .inl g_greatest)), (r_from, .inl (cy 0, 24, .inl g_from)), (r_to, .inl (cy 0, 24, .inl g_to)), (r_time, .inl (cy 0, 24, .inl g_time)), (r_room, .inl (cy 0, 24, .inl g_room)), (r_first, .inl (cy 0, 24, .inl g_first)), (r_rate, .inl (cy 0, 24, .inl g_rate)), (r_cost, .inl (cy 0, 24, .inl g_cost)), (r_slowed, .inl (cy 0, 24, .inl g_slowed)), (r_row, .inl (cy 0, 7200, .inl g_row)), (r_size, .inl (cy 0, 36, .inl g_size)), (r_came, .inl (cy 0, 24, .inl g_came)), (r_left, .inl (cy 0, 24, .inl g_left)), (r_mostQueue, .inl (cy 0, 24, .inl g_mostQueue)), (r_sumQueue, .inl (cy 0, 24, .inl g_sumQueue)), (r_turned, .inl (cy 0, 576, .inl g_turned)), (r_flowFrom, .inl (cy 0, 10, .inl g_flowFrom)), (r_flowTo, .inl (cy 0, 10, .inl g_flowTo)), (r_kind, .inl (cy 0, 10, .inl g_kind)), (r_start, .inl (cy 0, 10, .inl g_start)), (r_period, .inl (cy 0, 10, .inl g_period)), (r_count, .inl (cy 0, 10, .inl g_count)), (r_flow, .inl (cy 0, 200, .inl g_flow)), (r_began, .inl (cy 0, 200, .inl g_began)), (r_state, .inl (cy 0, 200, .inl g_state)), (r_link, .inl (cy 0, 200, .inl g_link)), (r_end, .inl (cy 0, 200, .inl g_end)), (r_gone, .inl (cy 0, 200, .inl g_gone)), (r_trip, .inl (cy 0, 200, .inl g_trip)), (r_delay, .inl (cy 0, 200, .inl g_delay)), (r_isShut, .inl (cy 2, 24, .inl ((fun _ => 0))))] s.heap.size = A at hD hZ ⊢
  have hA : ∀ q : Nat, s.heap.size ≤ q → A q := fun q h => by rw [← hAe]; exact Or.inr h
  have hS : va_S A s.heap s.heap [] := va_S.rf
  have hl9 := lv_entry ([.ref m0, .int x]) (n := 4) (Nat.le_of_ble_eq_true rfl)
  rw [lg_entry_eq]
  generalize (lg_sl ([.ref m0, .int x]) ++ List.replicate (4 - (lg_sl ([.ref m0, .int x])).length) Slot.unset).toArray = ls at hl9 ⊢
  have hl : lv_has ls 4 [(0, .ref m0), (1, .int x)] := hl9
  refine lv_aload_n hx hb dX10_emptyIn_0 rfl (lv_at hl 0 rfl) ?_
  refine lv_iconst (v := 0) hx hb dX10_emptyIn_1 (by decide) ?_
  refine va_put (D := (dC, dI)) (ci := 10) (v := .int 0) (ty := .int) (C := RX10) (T := TX10) (N := 2) hx hb hts tl_X10 tyX10 tyX10_ok nmX10 hown hK hP hD hS 0 rfl rfl 1 (by decide) (hts _ tw_1311) (fun _ h9 => h9) rfl (by decide +kernel) rfl rfl (Nat.le_of_ble_eq_true rfl) dX10_emptyIn_2 (fun H locs hP hD hS => ?_)
  have hP : va_P (dC, dI) vwCl [(m0, .inr (10, [.ref w0, .int 0])), (w0, .inr (9, [.int 0, .int 1, .int 0, .ref r_phases, .ref r_phase, .ref r_phaseTicks, .ref r_set, .ref r_least, .ref r_greatest, .int 0, .ref r_from, .ref r_to, .ref r_time, .ref r_room, .ref r_first, .ref r_rate, .ref r_cost, .ref r_isShut, .ref r_slowed, .ref r_row, .ref r_size, .ref r_came, .ref r_left, .ref r_mostQueue, .ref r_sumQueue, .ref r_turned, .int 0, .ref r_flowFrom, .ref r_flowTo, .ref r_kind, .ref r_start, .ref r_period, .ref r_count, .int 0, .ref r_flow, .ref r_began, .ref r_state, .ref r_link, .ref r_end, .ref r_gone, .ref r_trip, .ref r_delay, .ref r_way])), (r_phases, .inl (cy 0, 12, .inl g_phases)), (r_phase, .inl (cy 0, 12, .inl g_phase)), (r_phaseTicks, .inl (cy 0, 12, .inl g_phaseTicks)), (r_set, .inl (cy 0, 48, .inl g_set)), (r_least, .inl (cy 0, 48, .inl g_least)), (r_greatest, .inl (cy 0, 48, .inl g_greatest)), (r_from, .inl (cy 0, 24, .inl g_from)), (r_to, .inl (cy 0, 24, .inl g_to)), (r_time, .inl (cy 0, 24, .inl g_time)), (r_room, .inl (cy 0, 24, .inl g_room)), (r_first, .inl (cy 0, 24, .inl g_first)), (r_rate, .inl (cy 0, 24, .inl g_rate)), (r_cost, .inl (cy 0, 24, .inl g_cost)), (r_slowed, .inl (cy 0, 24, .inl g_slowed)), (r_row, .inl (cy 0, 7200, .inl g_row)), (r_size, .inl (cy 0, 36, .inl g_size)), (r_came, .inl (cy 0, 24, .inl g_came)), (r_left, .inl (cy 0, 24, .inl g_left)), (r_mostQueue, .inl (cy 0, 24, .inl g_mostQueue)), (r_sumQueue, .inl (cy 0, 24, .inl g_sumQueue)), (r_turned, .inl (cy 0, 576, .inl g_turned)), (r_flowFrom, .inl (cy 0, 10, .inl g_flowFrom)), (r_flowTo, .inl (cy 0, 10, .inl g_flowTo)), (r_kind, .inl (cy 0, 10, .inl g_kind)), (r_start, .inl (cy 0, 10, .inl g_start)), (r_period, .inl (cy 0, 10, .inl g_period)), (r_count, .inl (cy 0, 10, .inl g_count)), (r_flow, .inl (cy 0, 200, .inl g_flow)), (r_began, .inl (cy 0, 200, .inl g_began)), (r_state, .inl (cy 0, 200, .inl g_state)), (r_link, .inl (cy 0, 200, .inl g_link)), (r_end, .inl (cy 0, 200, .inl g_end)), (r_gone, .inl (cy 0, 200, .inl g_gone)), (r_trip, .inl (cy 0, 200, .inl g_trip)), (r_delay, .inl (cy 0, 200, .inl g_delay)), (r_isShut, .inl (cy 2, 24, .inl ((fun _ => 0))))] _ := hP
  have hD : va_D A [(m0, .inr (10, [.ref w0, .int 0])), (w0, .inr (9, [.int 0, .int 1, .int 0, .ref r_phases, .ref r_phase, .ref r_phaseTicks, .ref r_set, .ref r_least, .ref r_greatest, .int 0, .ref r_from, .ref r_to, .ref r_time, .ref r_room, .ref r_first, .ref r_rate, .ref r_cost, .ref r_isShut, .ref r_slowed, .ref r_row, .ref r_size, .ref r_came, .ref r_left, .ref r_mostQueue, .ref r_sumQueue, .ref r_turned, .int 0, .ref r_flowFrom, .ref r_flowTo, .ref r_kind, .ref r_start, .ref r_period, .ref r_count, .int 0, .ref r_flow, .ref r_began, .ref r_state, .ref r_link, .ref r_end, .ref r_gone, .ref r_trip, .ref r_delay, .ref r_way])), (r_phases, .inl (cy 0, 12, .inl g_phases)), (r_phase, .inl (cy 0, 12, .inl g_phase)), (r_phaseTicks, .inl (cy 0, 12, .inl g_phaseTicks)), (r_set, .inl (cy 0, 48, .inl g_set)), (r_least, .inl (cy 0, 48, .inl g_least)), (r_greatest, .inl (cy 0, 48, .inl g_greatest)), (r_from, .inl (cy 0, 24, .inl g_from)), (r_to, .inl (cy 0, 24, .inl g_to)), (r_time, .inl (cy 0, 24, .inl g_time)), (r_room, .inl (cy 0, 24, .inl g_room)), (r_first, .inl (cy 0, 24, .inl g_first)), (r_rate, .inl (cy 0, 24, .inl g_rate)), (r_cost, .inl (cy 0, 24, .inl g_cost)), (r_slowed, .inl (cy 0, 24, .inl g_slowed)), (r_row, .inl (cy 0, 7200, .inl g_row)), (r_size, .inl (cy 0, 36, .inl g_size)), (r_came, .inl (cy 0, 24, .inl g_came)), (r_left, .inl (cy 0, 24, .inl g_left)), (r_mostQueue, .inl (cy 0, 24, .inl g_mostQueue)), (r_sumQueue, .inl (cy 0, 24, .inl g_sumQueue)), (r_turned, .inl (cy 0, 576, .inl g_turned)), (r_flowFrom, .inl (cy 0, 10, .inl g_flowFrom)), (r_flowTo, .inl (cy 0, 10, .inl g_flowTo)), (r_kind, .inl (cy 0, 10, .inl g_kind)), (r_start, .inl (cy 0, 10, .inl g_start)), (r_period, .inl (cy 0, 10, .inl g_period)), (r_count, .inl (cy 0, 10, .inl g_count)), (r_flow, .inl (cy 0, 200, .inl g_flow)), (r_began, .inl (cy 0, 200, .inl g_began)), (r_state, .inl (cy 0, 200, .inl g_state)), (r_link, .inl (cy 0, 200, .inl g_link)), (r_end, .inl (cy 0, 200, .inl g_end)), (r_gone, .inl (cy 0, 200, .inl g_gone)), (r_trip, .inl (cy 0, 200, .inl g_trip)), (r_delay, .inl (cy 0, 200, .inl g_delay)), (r_isShut, .inl (cy 2, 24, .inl ((fun _ => 0))))] := hD
  refine lv_iload_n hx hb dX10_emptyIn_5 rfl (lv_at hl 1 rfl) ?_
  refine lv_iconst (v := 1) hx hb dX10_emptyIn_6 (by decide) ?_
  refine lv_bipush (v := 60) hx hb dX10_emptyIn_7 (by decide) ?_
  have hFc := va_free (wc := []) hD hS hA [] rfl
  refine va_calli (va_runS (As := [.int x, .int 1, .int 60]) (rest := []) ⟨hx, hb, hml, hown, hts⟩ (tm_isIn_in l hst dC dI cy x 1 60 H.size (by first | assumption | exact tp_none _ | decide | omega)) (tp_cwS 3 hts tw_1337 tw_1338 tw_48 tw_1339 rfl rfl (by decide +kernel) ⟨Nat.le_of_ble_eq_true rfl, Nat.le_of_ble_eq_true rfl⟩) ⟨tp_blind, fun U hU hW => ⟨rfl, tp_pay hK hP hD hE hZ hS [] (by decide) rfl hFc U hU hW⟩⟩ rfl rfl hl.1 rfl (lv_room (Nat.le_of_ble_eq_true rfl)) dX10_emptyIn_9 ⟨(Nat.le_of_ble_eq_true rfl), (Nat.le_of_ble_eq_true rfl)⟩) hS (fun q _ h => hFc q h) hFc (fun r_1 u t H1 locs ht hvm hw hB hz1 hk1 hS => ?_)
  obtain rfl := hw
  obtain ⟨f_2, hP1, hD1⟩ := hB
  subst f_2
  rw [ht] at hP1
  obtain ⟨hP, hD⟩ := va_join (wr := [(m0, .inr (10, [.ref w0, .int 0])), (w0, .inr (9, [.int 0, .int 1, .int 0, .ref r_phases, .ref r_phase, .ref r_phaseTicks, .ref r_set, .ref r_least, .ref r_greatest, .int 0, .ref r_from, .ref r_to, .ref r_time, .ref r_room, .ref r_first, .ref r_rate, .ref r_cost, .ref r_isShut, .ref r_slowed, .ref r_row, .ref r_size, .ref r_came, .ref r_left, .ref r_mostQueue, .ref r_sumQueue, .ref r_turned, .int 0, .ref r_flowFrom, .ref r_flowTo, .ref r_kind, .ref r_start, .ref r_period, .ref r_count, .int 0, .ref r_flow, .ref r_began, .ref r_state, .ref r_link, .ref r_end, .ref r_gone, .ref r_trip, .ref r_delay, .ref r_way])), (r_phases, .inl (cy 0, 12, .inl g_phases)), (r_phase, .inl (cy 0, 12, .inl g_phase)), (r_phaseTicks, .inl (cy 0, 12, .inl g_phaseTicks)), (r_set, .inl (cy 0, 48, .inl g_set)), (r_least, .inl (cy 0, 48, .inl g_least)), (r_greatest, .inl (cy 0, 48, .inl g_greatest)), (r_from, .inl (cy 0, 24, .inl g_from)), (r_to, .inl (cy 0, 24, .inl g_to)), (r_time, .inl (cy 0, 24, .inl g_time)), (r_room, .inl (cy 0, 24, .inl g_room)), (r_first, .inl (cy 0, 24, .inl g_first)), (r_rate, .inl (cy 0, 24, .inl g_rate)), (r_cost, .inl (cy 0, 24, .inl g_cost)), (r_slowed, .inl (cy 0, 24, .inl g_slowed)), (r_row, .inl (cy 0, 7200, .inl g_row)), (r_size, .inl (cy 0, 36, .inl g_size)), (r_came, .inl (cy 0, 24, .inl g_came)), (r_left, .inl (cy 0, 24, .inl g_left)), (r_mostQueue, .inl (cy 0, 24, .inl g_mostQueue)), (r_sumQueue, .inl (cy 0, 24, .inl g_sumQueue)), (r_turned, .inl (cy 0, 576, .inl g_turned)), (r_flowFrom, .inl (cy 0, 10, .inl g_flowFrom)), (r_flowTo, .inl (cy 0, 10, .inl g_flowTo)), (r_kind, .inl (cy 0, 10, .inl g_kind)), (r_start, .inl (cy 0, 10, .inl g_start)), (r_period, .inl (cy 0, 10, .inl g_period)), (r_count, .inl (cy 0, 10, .inl g_count)), (r_flow, .inl (cy 0, 200, .inl g_flow)), (r_began, .inl (cy 0, 200, .inl g_began)), (r_state, .inl (cy 0, 200, .inl g_state)), (r_link, .inl (cy 0, 200, .inl g_link)), (r_end, .inl (cy 0, 200, .inl g_end)), (r_gone, .inl (cy 0, 200, .inl g_gone)), (r_trip, .inl (cy 0, 200, .inl g_trip)), (r_delay, .inl (cy 0, 200, .inl g_delay)), (r_isShut, .inl (cy 2, 24, .inl ((fun _ => 0))))]) (w1 := []) hP hD [] [0, 1, 2, 3, 4, 5, 6, 7, 8, 9, 10, 11, 12, 13, 14, 15, 16, 17, 18, 19, 20, 21, 22, 23, 24, 25, 26, 27, 28, 29, 30, 31, 32, 33, 34, 35, 36, 37] rfl rfl (by decide) (by decide) hk1 hFc hP1 hD1
  generalize H1 = H at hP hS ⊢
  have hP : va_P (dC, dI) vwCl [(m0, .inr (10, [.ref w0, .int 0])), (w0, .inr (9, [.int 0, .int 1, .int 0, .ref r_phases, .ref r_phase, .ref r_phaseTicks, .ref r_set, .ref r_least, .ref r_greatest, .int 0, .ref r_from, .ref r_to, .ref r_time, .ref r_room, .ref r_first, .ref r_rate, .ref r_cost, .ref r_isShut, .ref r_slowed, .ref r_row, .ref r_size, .ref r_came, .ref r_left, .ref r_mostQueue, .ref r_sumQueue, .ref r_turned, .int 0, .ref r_flowFrom, .ref r_flowTo, .ref r_kind, .ref r_start, .ref r_period, .ref r_count, .int 0, .ref r_flow, .ref r_began, .ref r_state, .ref r_link, .ref r_end, .ref r_gone, .ref r_trip, .ref r_delay, .ref r_way])), (r_phases, .inl (cy 0, 12, .inl g_phases)), (r_phase, .inl (cy 0, 12, .inl g_phase)), (r_phaseTicks, .inl (cy 0, 12, .inl g_phaseTicks)), (r_set, .inl (cy 0, 48, .inl g_set)), (r_least, .inl (cy 0, 48, .inl g_least)), (r_greatest, .inl (cy 0, 48, .inl g_greatest)), (r_from, .inl (cy 0, 24, .inl g_from)), (r_to, .inl (cy 0, 24, .inl g_to)), (r_time, .inl (cy 0, 24, .inl g_time)), (r_room, .inl (cy 0, 24, .inl g_room)), (r_first, .inl (cy 0, 24, .inl g_first)), (r_rate, .inl (cy 0, 24, .inl g_rate)), (r_cost, .inl (cy 0, 24, .inl g_cost)), (r_slowed, .inl (cy 0, 24, .inl g_slowed)), (r_row, .inl (cy 0, 7200, .inl g_row)), (r_size, .inl (cy 0, 36, .inl g_size)), (r_came, .inl (cy 0, 24, .inl g_came)), (r_left, .inl (cy 0, 24, .inl g_left)), (r_mostQueue, .inl (cy 0, 24, .inl g_mostQueue)), (r_sumQueue, .inl (cy 0, 24, .inl g_sumQueue)), (r_turned, .inl (cy 0, 576, .inl g_turned)), (r_flowFrom, .inl (cy 0, 10, .inl g_flowFrom)), (r_flowTo, .inl (cy 0, 10, .inl g_flowTo)), (r_kind, .inl (cy 0, 10, .inl g_kind)), (r_start, .inl (cy 0, 10, .inl g_start)), (r_period, .inl (cy 0, 10, .inl g_period)), (r_count, .inl (cy 0, 10, .inl g_count)), (r_flow, .inl (cy 0, 200, .inl g_flow)), (r_began, .inl (cy 0, 200, .inl g_began)), (r_state, .inl (cy 0, 200, .inl g_state)), (r_link, .inl (cy 0, 200, .inl g_link)), (r_end, .inl (cy 0, 200, .inl g_end)), (r_gone, .inl (cy 0, 200, .inl g_gone)), (r_trip, .inl (cy 0, 200, .inl g_trip)), (r_delay, .inl (cy 0, 200, .inl g_delay)), (r_isShut, .inl (cy 2, 24, .inl ((fun _ => 0))))] _ := hP
  have hD : va_D A [(m0, .inr (10, [.ref w0, .int 0])), (w0, .inr (9, [.int 0, .int 1, .int 0, .ref r_phases, .ref r_phase, .ref r_phaseTicks, .ref r_set, .ref r_least, .ref r_greatest, .int 0, .ref r_from, .ref r_to, .ref r_time, .ref r_room, .ref r_first, .ref r_rate, .ref r_cost, .ref r_isShut, .ref r_slowed, .ref r_row, .ref r_size, .ref r_came, .ref r_left, .ref r_mostQueue, .ref r_sumQueue, .ref r_turned, .int 0, .ref r_flowFrom, .ref r_flowTo, .ref r_kind, .ref r_start, .ref r_period, .ref r_count, .int 0, .ref r_flow, .ref r_began, .ref r_state, .ref r_link, .ref r_end, .ref r_gone, .ref r_trip, .ref r_delay, .ref r_way])), (r_phases, .inl (cy 0, 12, .inl g_phases)), (r_phase, .inl (cy 0, 12, .inl g_phase)), (r_phaseTicks, .inl (cy 0, 12, .inl g_phaseTicks)), (r_set, .inl (cy 0, 48, .inl g_set)), (r_least, .inl (cy 0, 48, .inl g_least)), (r_greatest, .inl (cy 0, 48, .inl g_greatest)), (r_from, .inl (cy 0, 24, .inl g_from)), (r_to, .inl (cy 0, 24, .inl g_to)), (r_time, .inl (cy 0, 24, .inl g_time)), (r_room, .inl (cy 0, 24, .inl g_room)), (r_first, .inl (cy 0, 24, .inl g_first)), (r_rate, .inl (cy 0, 24, .inl g_rate)), (r_cost, .inl (cy 0, 24, .inl g_cost)), (r_slowed, .inl (cy 0, 24, .inl g_slowed)), (r_row, .inl (cy 0, 7200, .inl g_row)), (r_size, .inl (cy 0, 36, .inl g_size)), (r_came, .inl (cy 0, 24, .inl g_came)), (r_left, .inl (cy 0, 24, .inl g_left)), (r_mostQueue, .inl (cy 0, 24, .inl g_mostQueue)), (r_sumQueue, .inl (cy 0, 24, .inl g_sumQueue)), (r_turned, .inl (cy 0, 576, .inl g_turned)), (r_flowFrom, .inl (cy 0, 10, .inl g_flowFrom)), (r_flowTo, .inl (cy 0, 10, .inl g_flowTo)), (r_kind, .inl (cy 0, 10, .inl g_kind)), (r_start, .inl (cy 0, 10, .inl g_start)), (r_period, .inl (cy 0, 10, .inl g_period)), (r_count, .inl (cy 0, 10, .inl g_count)), (r_flow, .inl (cy 0, 200, .inl g_flow)), (r_began, .inl (cy 0, 200, .inl g_began)), (r_state, .inl (cy 0, 200, .inl g_state)), (r_link, .inl (cy 0, 200, .inl g_link)), (r_end, .inl (cy 0, 200, .inl g_end)), (r_gone, .inl (cy 0, 200, .inl g_gone)), (r_trip, .inl (cy 0, 200, .inl g_trip)), (r_delay, .inl (cy 0, 200, .inl g_delay)), (r_isShut, .inl (cy 2, 24, .inl ((fun _ => 0))))] := hD
  refine lv_if_ne (tgt := 21) hx hb dX10_emptyIn_12 (by decide) (fun _ => ?_) (fun c_3 => absurd c_3 (by decide))
  refine lv_aload_n hx hb dX10_emptyIn_21 rfl (lv_at hl 0 rfl) ?_
  refine va_get (D := (dC, dI)) (ci := 10) (v := .ref w0) (C := RX10) (T := TX10) (N := 2) hx hb hts tl_X10 hown hK hP 0 rfl rfl 0 (by decide) (hts _ tw_1310) (fun _ h9 => h9) rfl dX10_emptyIn_22 ?_
  have hFc := va_free (wc := [(w0, .inr (9, [.int 0, .int 1, .int 0, .ref r_phases, .ref r_phase, .ref r_phaseTicks, .ref r_set, .ref r_least, .ref r_greatest, .int 0, .ref r_from, .ref r_to, .ref r_time, .ref r_room, .ref r_first, .ref r_rate, .ref r_cost, .ref r_isShut, .ref r_slowed, .ref r_row, .ref r_size, .ref r_came, .ref r_left, .ref r_mostQueue, .ref r_sumQueue, .ref r_turned, .int 0, .ref r_flowFrom, .ref r_flowTo, .ref r_kind, .ref r_start, .ref r_period, .ref r_count, .int 0, .ref r_flow, .ref r_began, .ref r_state, .ref r_link, .ref r_end, .ref r_gone, .ref r_trip, .ref r_delay, .ref r_way])), (r_phases, .inl (cy 0, 12, .inl g_phases)), (r_phase, .inl (cy 0, 12, .inl g_phase)), (r_phaseTicks, .inl (cy 0, 12, .inl g_phaseTicks)), (r_set, .inl (cy 0, 48, .inl g_set)), (r_least, .inl (cy 0, 48, .inl g_least)), (r_greatest, .inl (cy 0, 48, .inl g_greatest)), (r_from, .inl (cy 0, 24, .inl g_from)), (r_to, .inl (cy 0, 24, .inl g_to)), (r_time, .inl (cy 0, 24, .inl g_time)), (r_room, .inl (cy 0, 24, .inl g_room)), (r_first, .inl (cy 0, 24, .inl g_first)), (r_rate, .inl (cy 0, 24, .inl g_rate)), (r_cost, .inl (cy 0, 24, .inl g_cost)), (r_slowed, .inl (cy 0, 24, .inl g_slowed)), (r_row, .inl (cy 0, 7200, .inl g_row)), (r_size, .inl (cy 0, 36, .inl g_size)), (r_came, .inl (cy 0, 24, .inl g_came)), (r_left, .inl (cy 0, 24, .inl g_left)), (r_mostQueue, .inl (cy 0, 24, .inl g_mostQueue)), (r_sumQueue, .inl (cy 0, 24, .inl g_sumQueue)), (r_turned, .inl (cy 0, 576, .inl g_turned)), (r_flowFrom, .inl (cy 0, 10, .inl g_flowFrom)), (r_flowTo, .inl (cy 0, 10, .inl g_flowTo)), (r_kind, .inl (cy 0, 10, .inl g_kind)), (r_start, .inl (cy 0, 10, .inl g_start)), (r_period, .inl (cy 0, 10, .inl g_period)), (r_count, .inl (cy 0, 10, .inl g_count)), (r_flow, .inl (cy 0, 200, .inl g_flow)), (r_began, .inl (cy 0, 200, .inl g_began)), (r_state, .inl (cy 0, 200, .inl g_state)), (r_link, .inl (cy 0, 200, .inl g_link)), (r_end, .inl (cy 0, 200, .inl g_end)), (r_gone, .inl (cy 0, 200, .inl g_gone)), (r_trip, .inl (cy 0, 200, .inl g_trip)), (r_delay, .inl (cy 0, 200, .inl g_delay)), (r_isShut, .inl (cy 2, 24, .inl ((fun _ => 0))))]) hD hS hA [1, 2, 3, 4, 5, 6, 7, 8, 9, 10, 11, 12, 13, 14, 15, 16, 17, 18, 19, 20, 21, 22, 23, 24, 25, 26, 27, 28, 29, 30, 31, 32, 33, 34, 35, 36, 37] rfl
  refine va_callr (va_runV (As := []) (rest := []) ⟨hx, hb, hml, hown, hts⟩ (tm_copy l hst dC dI cy w0 r_phases r_phase r_phaseTicks r_set r_least r_greatest r_from r_to r_time r_room r_first r_rate r_cost r_isShut r_slowed r_row r_size r_came r_left r_mostQueue r_sumQueue r_turned r_flowFrom r_flowTo r_kind r_start r_period r_count r_flow r_began r_state r_link r_end r_gone r_trip r_delay r_way g_phases g_phase g_phaseTicks g_set g_least g_greatest g_from g_to g_time g_room g_first g_rate g_cost g_slowed g_row g_size g_came g_left g_mostQueue g_sumQueue g_turned g_flowFrom g_flowTo g_kind g_start g_period g_count g_flow g_began g_state g_link g_end g_gone g_trip g_delay H.size) (tp_cwV 0 hts tw_1581 tw_1582 tw_1583 tw_49 tw_1584 rfl rfl (by decide +kernel) ⟨Nat.le_of_ble_eq_true rfl, Nat.le_of_ble_eq_true rfl⟩) ⟨tp_blind, va_recv hK hP (ci := 9) (q0 := 1) rfl rfl, fun U hU hW => ⟨rfl, tp_pay hK hP hD hE hZ hS [1, 2, 3, 4, 5, 6, 7, 8, 9, 10, 11, 12, 13, 14, 15, 16, 17, 18, 19, 20, 21, 22, 23, 24, 25, 26, 27, 28, 29, 30, 31, 32, 33, 34, 35, 36, 37] (by decide) rfl hFc U hU hW⟩⟩ rfl rfl hl.1 rfl (lv_room (Nat.le_of_ble_eq_true rfl)) dX10_emptyIn_25 ⟨(Nat.le_of_ble_eq_true rfl), (Nat.le_of_ble_eq_true rfl)⟩) hS (fun q _ h => hFc q h) hFc (fun u r_4 t H1 locs ht hvm hw hB hz1 hk1 hS => ?_)
  obtain ⟨z_5, z_6, z_7, z_8, z_9, z_10, z_11, z_12, z_13, z_14, z_15, z_16, z_17, z_18, z_19, z_20, z_21, z_22, z_23, z_24, z_25, z_26, z_27, z_28, z_29, z_30, z_31, z_32, z_33, z_34, z_35, z_36, z_37, z_38, z_39, z_40, z_41, hP1, hD1⟩ := hB
  rw [ht] at hP1
  obtain ⟨hP, hD⟩ := va_join (wr := [(m0, .inr (10, [.ref w0, .int 0]))]) (w1 := [(r_4, .inr (9, [.int 0, .int 1, .int 0, .ref z_5, .ref z_6, .ref z_7, .ref z_8, .ref z_9, .ref z_10, .int 0, .ref z_11, .ref z_12, .ref z_13, .ref z_14, .ref z_15, .ref z_16, .ref z_17, .ref z_18, .ref z_19, .ref z_20, .ref z_21, .ref z_22, .ref z_23, .ref z_24, .ref z_25, .ref z_26, .int 0, .ref z_27, .ref z_28, .ref z_29, .ref z_30, .ref z_31, .ref z_32, .int 0, .ref z_33, .ref z_34, .ref z_35, .ref z_36, .ref z_37, .ref z_38, .ref z_39, .ref z_40, .ref z_41]))]) hP hD [1, 2, 3, 4, 5, 6, 7, 8, 9, 10, 11, 12, 13, 14, 15, 16, 17, 18, 19, 20, 21, 22, 23, 24, 25, 26, 27, 28, 29, 30, 31, 32, 33, 34, 35, 36, 37] [0] rfl rfl (by decide) (by decide) hk1 hFc hP1 hD1
  generalize H1 = H at hP hS ⊢
  have hP : va_P (dC, dI) vwCl [(m0, .inr (10, [.ref w0, .int 0])), (r_4, .inr (9, [.int 0, .int 1, .int 0, .ref z_5, .ref z_6, .ref z_7, .ref z_8, .ref z_9, .ref z_10, .int 0, .ref z_11, .ref z_12, .ref z_13, .ref z_14, .ref z_15, .ref z_16, .ref z_17, .ref z_18, .ref z_19, .ref z_20, .ref z_21, .ref z_22, .ref z_23, .ref z_24, .ref z_25, .ref z_26, .int 0, .ref z_27, .ref z_28, .ref z_29, .ref z_30, .ref z_31, .ref z_32, .int 0, .ref z_33, .ref z_34, .ref z_35, .ref z_36, .ref z_37, .ref z_38, .ref z_39, .ref z_40, .ref z_41]))] _ := hP
  have hD : va_D A [(m0, .inr (10, [.ref w0, .int 0])), (r_4, .inr (9, [.int 0, .int 1, .int 0, .ref z_5, .ref z_6, .ref z_7, .ref z_8, .ref z_9, .ref z_10, .int 0, .ref z_11, .ref z_12, .ref z_13, .ref z_14, .ref z_15, .ref z_16, .ref z_17, .ref z_18, .ref z_19, .ref z_20, .ref z_21, .ref z_22, .ref z_23, .ref z_24, .ref z_25, .ref z_26, .int 0, .ref z_27, .ref z_28, .ref z_29, .ref z_30, .ref z_31, .ref z_32, .int 0, .ref z_33, .ref z_34, .ref z_35, .ref z_36, .ref z_37, .ref z_38, .ref z_39, .ref z_40, .ref z_41]))] := hD
  refine lv_astore_n (lv' := [(2, .ref r_4), (0, .ref m0), (1, .int x)]) hx hb dX10_emptyIn_28 rfl hl (by decide) rfl (fun ls hl => ?_)
  refine lv_iconst (v := 0) hx hb dX10_emptyIn_29 (by decide) ?_
  refine lv_istore_n (lv' := [(3, .int 0), (2, .ref r_4), (0, .ref m0), (1, .int x)]) hx hb dX10_emptyIn_30 rfl hl (by decide) rfl (fun ls hl => ?_)
  refine lv_iload_n hx hb dX10_emptyIn_31 rfl (lv_at hl 0 rfl) ?_
  refine lv_iload_n hx hb dX10_emptyIn_32 rfl (lv_at hl 3 rfl) ?_
  refine lv_icmp_gt (tgt := 60) hx hb dX10_emptyIn_33 (by decide) (fun c_42 => absurd c_42 (tp_nlt (Int32.le_trans (by decide) hc.1))) (fun _ => ?_)
  refine lv_aload_n hx hb dX10_emptyIn_36 rfl (lv_at hl 1 rfl) ?_
  have hFc := va_free (wc := [(r_4, .inr (9, [.int 0, .int 1, .int 0, .ref z_5, .ref z_6, .ref z_7, .ref z_8, .ref z_9, .ref z_10, .int 0, .ref z_11, .ref z_12, .ref z_13, .ref z_14, .ref z_15, .ref z_16, .ref z_17, .ref z_18, .ref z_19, .ref z_20, .ref z_21, .ref z_22, .ref z_23, .ref z_24, .ref z_25, .ref z_26, .int 0, .ref z_27, .ref z_28, .ref z_29, .ref z_30, .ref z_31, .ref z_32, .int 0, .ref z_33, .ref z_34, .ref z_35, .ref z_36, .ref z_37, .ref z_38, .ref z_39, .ref z_40, .ref z_41]))]) hD hS hA [1] rfl
  refine va_calli (va_runV (As := []) (rest := []) ⟨hx, hb, hml, hown, hts⟩ (tm_moving l hst dC dI cy r_4 z_5 z_6 z_7 z_8 z_9 z_10 z_11 z_12 z_13 z_14 z_15 z_16 z_17 z_18 z_19 z_20 z_21 z_22 z_23 z_24 z_25 z_26 z_27 z_28 z_29 z_30 z_31 z_32 z_33 z_34 z_35 z_36 z_37 z_38 z_39 z_40 z_41 H.size) (tp_cwV 0 hts tw_1595 tw_1596 tw_1597 tw_49 tw_1598 rfl rfl (by decide +kernel) ⟨Nat.le_of_ble_eq_true rfl, Nat.le_of_ble_eq_true rfl⟩) ⟨tp_blind, va_recv hK hP (ci := 9) (q0 := 1) rfl rfl, fun U hU hW => ⟨rfl, tp_pay hK hP hD hE hZ hS [1] (by decide) rfl hFc U hU hW⟩⟩ rfl rfl hl.1 rfl (lv_room (Nat.le_of_ble_eq_true rfl)) dX10_emptyIn_37 ⟨(Nat.le_of_ble_eq_true rfl), (Nat.le_of_ble_eq_true rfl)⟩) hS (fun q _ h => hFc q h) hFc (fun r_43 u t H1 locs ht hvm hw hB hz1 hk1 hS => ?_)
  obtain rfl := hw
  obtain ⟨f_44, hP1, hD1⟩ := hB
  subst f_44
  rw [ht] at hP1
  obtain ⟨hP, hD⟩ := va_join (wr := [(m0, .inr (10, [.ref w0, .int 0]))]) (w1 := []) hP hD [1] [0] rfl rfl (by decide) (by decide) hk1 hFc hP1 hD1
  generalize H1 = H at hP hS ⊢
  have hP : va_P (dC, dI) vwCl [(m0, .inr (10, [.ref w0, .int 0]))] _ := hP
  have hD : va_D A [(m0, .inr (10, [.ref w0, .int 0]))] := hD
  refine lv_if_ne (tgt := 45) hx hb dX10_emptyIn_40 (by decide) (fun c_45 => absurd (by decide) c_45) (fun _ => ?_)
  refine lv_iload_n hx hb dX10_emptyIn_43 rfl (lv_at hl 0 rfl) ?_
  refine W.widen (k := 73) (n := 20147) (Nat.le_of_ble_eq_true rfl) (Nat.le_of_ble_eq_true rfl) ?_
  have hP9 := hP.sub (ws' := [(m0, .inr (10, [.ref w0, .int 0]))]) [0] rfl
  have hD9 := hD.sub (ws' := [(m0, .inr (10, [.ref w0, .int 0]))]) [0] (by decide) rfl
  exact W.iret (v := 0) hx hb hr (fun t ht hW => ⟨⟨0, 0, rfl, rfl, ⟨(by first | rfl | assumption), by rw [ht]; exact hP9, hD9⟩⟩, hS.F ht⟩) hS.2.2 dX10_emptyIn_44
set_option maxRecDepth 100000 in
set_option maxHeartbeats 4000000 in
/-- emptyIn refused -/
theorem tm_m_emptyIn_out (l : Launch) (hst : l.stackTraces = false) (dC : Nat → ClassId) (dI : Nat → Nat → Nat) (cy : Nat → ClassId) (m0 : Nat) (w0 : Nat) (tv : Int32) (r_phases : Nat) (r_phase : Nat) (r_phaseTicks : Nat) (r_set : Nat) (r_least : Nat) (r_greatest : Nat) (r_from : Nat) (r_to : Nat) (r_time : Nat) (r_room : Nat) (r_first : Nat) (r_rate : Nat) (r_cost : Nat) (r_isShut : Nat) (r_slowed : Nat) (r_row : Nat) (r_size : Nat) (r_came : Nat) (r_left : Nat) (r_mostQueue : Nat) (r_sumQueue : Nat) (r_turned : Nat) (r_flowFrom : Nat) (r_flowTo : Nat) (r_kind : Nat) (r_start : Nat) (r_period : Nat) (r_count : Nat) (r_flow : Nat) (r_began : Nat) (r_state : Nat) (r_link : Nat) (r_end : Nat) (r_gone : Nat) (r_trip : Nat) (r_delay : Nat) (r_way : Nat) (x : Int32) (sz : Nat) (hc : ¬ ((1 : Int32) ≤ x ∧ x ≤ 60)) : Met l yX10_emptyIn (tp_w yX10_emptyIn cX10_emptyIn 4 (some .int)) ({ frames := 1, cells := 0, slots := 0, locals := 22 }) (va_Pc [.ref m0, .int x] (tp_Pre dC dI cy [(m0, .inr (10, [.ref w0, .int tv])), (w0, .inr (9, [.int 0, .int 1, .int 0, .ref r_phases, .ref r_phase, .ref r_phaseTicks, .ref r_set, .ref r_least, .ref r_greatest, .int 0, .ref r_from, .ref r_to, .ref r_time, .ref r_room, .ref r_first, .ref r_rate, .ref r_cost, .ref r_isShut, .ref r_slowed, .ref r_row, .ref r_size, .ref r_came, .ref r_left, .ref r_mostQueue, .ref r_sumQueue, .ref r_turned, .int 0, .ref r_flowFrom, .ref r_flowTo, .ref r_kind, .ref r_start, .ref r_period, .ref r_count, .int 0, .ref r_flow, .ref r_began, .ref r_state, .ref r_link, .ref r_end, .ref r_gone, .ref r_trip, .ref r_delay, .ref r_way]))] sz)) (va_Qi (fun (r u : Int32) => r = u) (fun (u : Int32) (t : State) => (u = 0) ∧ tp_Post dC dI (va_A [(m0, .inr (10, [.ref w0, .int tv])), (w0, .inr (9, [.int 0, .int 1, .int 0, .ref r_phases, .ref r_phase, .ref r_phaseTicks, .ref r_set, .ref r_least, .ref r_greatest, .int 0, .ref r_from, .ref r_to, .ref r_time, .ref r_room, .ref r_first, .ref r_rate, .ref r_cost, .ref r_isShut, .ref r_slowed, .ref r_row, .ref r_size, .ref r_came, .ref r_left, .ref r_mostQueue, .ref r_sumQueue, .ref r_turned, .int 0, .ref r_flowFrom, .ref r_flowTo, .ref r_kind, .ref r_start, .ref r_period, .ref r_count, .int 0, .ref r_flow, .ref r_began, .ref r_state, .ref r_link, .ref r_end, .ref r_gone, .ref r_trip, .ref r_delay, .ref r_way]))] sz) [(m0, .inr (10, [.ref w0, .int 1]))] t) (va_A [(m0, .inr (10, [.ref w0, .int tv])), (w0, .inr (9, [.int 0, .int 1, .int 0, .ref r_phases, .ref r_phase, .ref r_phaseTicks, .ref r_set, .ref r_least, .ref r_greatest, .int 0, .ref r_from, .ref r_to, .ref r_time, .ref r_room, .ref r_first, .ref r_rate, .ref r_cost, .ref r_isShut, .ref r_slowed, .ref r_row, .ref r_size, .ref r_came, .ref r_left, .ref r_mostQueue, .ref r_sumQueue, .ref r_turned, .int 0, .ref r_flowFrom, .ref r_flowTo, .ref r_kind, .ref r_start, .ref r_period, .ref r_count, .int 0, .ref r_flow, .ref r_began, .ref r_state, .ref r_link, .ref r_end, .ref r_gone, .ref r_trip, .ref r_delay, .ref r_way]))] sz)) 0 0 (va_A [(m0, .inr (10, [.ref w0, .int tv])), (w0, .inr (9, [.int 0, .int 1, .int 0, .ref r_phases, .ref r_phase, .ref r_phaseTicks, .ref r_set, .ref r_least, .ref r_greatest, .int 0, .ref r_from, .ref r_to, .ref r_time, .ref r_room, .ref r_first, .ref r_rate, .ref r_cost, .ref r_isShut, .ref r_slowed, .ref r_row, .ref r_size, .ref r_came, .ref r_left, .ref r_mostQueue, .ref r_sumQueue, .ref r_turned, .int 0, .ref r_flowFrom, .ref r_flowTo, .ref r_kind, .ref r_start, .ref r_period, .ref r_count, .int 0, .ref r_flow, .ref r_began, .ref r_state, .ref r_link, .ref r_end, .ref r_gone, .ref r_trip, .ref r_delay, .ref r_way]))] sz) := by
  refine Met.ofW (cc := cX10_emptyIn) (maxL := 4) (ret := (some .int)) (by decide) rfl ?_
  intro p e s m args below meth c s₁ B hml hv
  obtain ⟨rfl, hsz, hP, hK, hD0, hE, hZ⟩ := hv
  have hx := B.exec
  have hb := B.bytes
  have hr := B.returns
  have hts0 := atoms_spec (ws := tp_w yX10_emptyIn cX10_emptyIn 4 (some .int)) B.pre
  have hts : ∀ w ∈ tp_all, w.before _ s = true := fun w h => hts0 w (List.mem_cons_of_mem _ h)
  have hown : s.vm.findClass RX10 = some m.cls := findClass_of_methodNamed B.named
  have hlocks := B.notSynchronized
  subst hsz
  have hD := hD0.self (sz := s.heap.size)
  generalize hAe : va_A [(m0, .inr (10, [.ref w0, .int tv])), (w0, .inr (9, [.int 0, .int 1, .int 0, .ref r_phases, .ref r_phase, .ref r_phaseTicks, .ref r_set, .ref r_least, .ref r_greatest, .int 0, .ref r_from, .ref r_to, .ref r_time, .ref r_room, .ref r_first, .ref r_rate, .ref r_cost, .ref r_isShut, .ref r_slowed, .ref r_row, .ref r_size, .ref r_came, .ref r_left, .ref r_mostQueue, .ref r_sumQueue, .ref r_turned, .int 0, .ref r_flowFrom, .ref r_flowTo, .ref r_kind, .ref r_start, .ref r_period, .ref r_count, .int 0, .ref r_flow, .ref r_began, .ref r_state, .ref r_link, .ref r_end, .ref r_gone, .ref r_trip, .ref r_delay, .ref r_way]))] s.heap.size = A at hD hZ ⊢
  have hA : ∀ q : Nat, s.heap.size ≤ q → A q := fun q h => by rw [← hAe]; exact Or.inr h
  have hS : va_S A s.heap s.heap [] := va_S.rf
  have hl9 := lv_entry ([.ref m0, .int x]) (n := 4) (Nat.le_of_ble_eq_true rfl)
  rw [lg_entry_eq]
  generalize (lg_sl ([.ref m0, .int x]) ++ List.replicate (4 - (lg_sl ([.ref m0, .int x])).length) Slot.unset).toArray = ls at hl9 ⊢
  have hl : lv_has ls 4 [(0, .ref m0), (1, .int x)] := hl9
  refine lv_aload_n hx hb dX10_emptyIn_0 rfl (lv_at hl 0 rfl) ?_
  refine lv_iconst (v := 0) hx hb dX10_emptyIn_1 (by decide) ?_
  refine va_put (D := (dC, dI)) (ci := 10) (v := .int 0) (ty := .int) (C := RX10) (T := TX10) (N := 2) hx hb hts tl_X10 tyX10 tyX10_ok nmX10 hown hK hP hD hS 0 rfl rfl 1 (by decide) (hts _ tw_1311) (fun _ h9 => h9) rfl (by decide +kernel) rfl rfl (Nat.le_of_ble_eq_true rfl) dX10_emptyIn_2 (fun H locs hP hD hS => ?_)
  have hP : va_P (dC, dI) vwCl [(m0, .inr (10, [.ref w0, .int 0])), (w0, .inr (9, [.int 0, .int 1, .int 0, .ref r_phases, .ref r_phase, .ref r_phaseTicks, .ref r_set, .ref r_least, .ref r_greatest, .int 0, .ref r_from, .ref r_to, .ref r_time, .ref r_room, .ref r_first, .ref r_rate, .ref r_cost, .ref r_isShut, .ref r_slowed, .ref r_row, .ref r_size, .ref r_came, .ref r_left, .ref r_mostQueue, .ref r_sumQueue, .ref r_turned, .int 0, .ref r_flowFrom, .ref r_flowTo, .ref r_kind, .ref r_start, .ref r_period, .ref r_count, .int 0, .ref r_flow, .ref r_began, .ref r_state, .ref r_link, .ref r_end, .ref r_gone, .ref r_trip, .ref r_delay, .ref r_way]))] _ := hP
  have hD : va_D A [(m0, .inr (10, [.ref w0, .int 0])), (w0, .inr (9, [.int 0, .int 1, .int 0, .ref r_phases, .ref r_phase, .ref r_phaseTicks, .ref r_set, .ref r_least, .ref r_greatest, .int 0, .ref r_from, .ref r_to, .ref r_time, .ref r_room, .ref r_first, .ref r_rate, .ref r_cost, .ref r_isShut, .ref r_slowed, .ref r_row, .ref r_size, .ref r_came, .ref r_left, .ref r_mostQueue, .ref r_sumQueue, .ref r_turned, .int 0, .ref r_flowFrom, .ref r_flowTo, .ref r_kind, .ref r_start, .ref r_period, .ref r_count, .int 0, .ref r_flow, .ref r_began, .ref r_state, .ref r_link, .ref r_end, .ref r_gone, .ref r_trip, .ref r_delay, .ref r_way]))] := hD
  refine lv_iload_n hx hb dX10_emptyIn_5 rfl (lv_at hl 1 rfl) ?_
  refine lv_iconst (v := 1) hx hb dX10_emptyIn_6 (by decide) ?_
  refine lv_bipush (v := 60) hx hb dX10_emptyIn_7 (by decide) ?_
  have hFc := va_free (wc := []) hD hS hA [] rfl
  refine va_calli (va_runS (As := [.int x, .int 1, .int 60]) (rest := []) ⟨hx, hb, hml, hown, hts⟩ (tm_isIn_out l hst dC dI cy x 1 60 H.size (by first | assumption | exact tp_none _ | decide | omega)) (tp_cwS 3 hts tw_1337 tw_1338 tw_48 tw_1339 rfl rfl (by decide +kernel) ⟨Nat.le_of_ble_eq_true rfl, Nat.le_of_ble_eq_true rfl⟩) ⟨tp_blind, fun U hU hW => ⟨rfl, tp_pay hK hP hD hE hZ hS [] (by decide) rfl hFc U hU hW⟩⟩ rfl rfl hl.1 rfl (lv_room (Nat.le_of_ble_eq_true rfl)) dX10_emptyIn_9 ⟨(Nat.le_of_ble_eq_true rfl), (Nat.le_of_ble_eq_true rfl)⟩) hS (fun q _ h => hFc q h) hFc (fun r_1 u t H1 locs ht hvm hw hB hz1 hk1 hS => ?_)
  obtain rfl := hw
  obtain ⟨f_2, hP1, hD1⟩ := hB
  subst f_2
  rw [ht] at hP1
  obtain ⟨hP, hD⟩ := va_join (wr := [(m0, .inr (10, [.ref w0, .int 0])), (w0, .inr (9, [.int 0, .int 1, .int 0, .ref r_phases, .ref r_phase, .ref r_phaseTicks, .ref r_set, .ref r_least, .ref r_greatest, .int 0, .ref r_from, .ref r_to, .ref r_time, .ref r_room, .ref r_first, .ref r_rate, .ref r_cost, .ref r_isShut, .ref r_slowed, .ref r_row, .ref r_size, .ref r_came, .ref r_left, .ref r_mostQueue, .ref r_sumQueue, .ref r_turned, .int 0, .ref r_flowFrom, .ref r_flowTo, .ref r_kind, .ref r_start, .ref r_period, .ref r_count, .int 0, .ref r_flow, .ref r_began, .ref r_state, .ref r_link, .ref r_end, .ref r_gone, .ref r_trip, .ref r_delay, .ref r_way]))]) (w1 := []) hP hD [] [0, 1] rfl rfl (by decide) (by decide) hk1 hFc hP1 hD1
  generalize H1 = H at hP hS ⊢
  have hP : va_P (dC, dI) vwCl [(m0, .inr (10, [.ref w0, .int 0])), (w0, .inr (9, [.int 0, .int 1, .int 0, .ref r_phases, .ref r_phase, .ref r_phaseTicks, .ref r_set, .ref r_least, .ref r_greatest, .int 0, .ref r_from, .ref r_to, .ref r_time, .ref r_room, .ref r_first, .ref r_rate, .ref r_cost, .ref r_isShut, .ref r_slowed, .ref r_row, .ref r_size, .ref r_came, .ref r_left, .ref r_mostQueue, .ref r_sumQueue, .ref r_turned, .int 0, .ref r_flowFrom, .ref r_flowTo, .ref r_kind, .ref r_start, .ref r_period, .ref r_count, .int 0, .ref r_flow, .ref r_began, .ref r_state, .ref r_link, .ref r_end, .ref r_gone, .ref r_trip, .ref r_delay, .ref r_way]))] _ := hP
  have hD : va_D A [(m0, .inr (10, [.ref w0, .int 0])), (w0, .inr (9, [.int 0, .int 1, .int 0, .ref r_phases, .ref r_phase, .ref r_phaseTicks, .ref r_set, .ref r_least, .ref r_greatest, .int 0, .ref r_from, .ref r_to, .ref r_time, .ref r_room, .ref r_first, .ref r_rate, .ref r_cost, .ref r_isShut, .ref r_slowed, .ref r_row, .ref r_size, .ref r_came, .ref r_left, .ref r_mostQueue, .ref r_sumQueue, .ref r_turned, .int 0, .ref r_flowFrom, .ref r_flowTo, .ref r_kind, .ref r_start, .ref r_period, .ref r_count, .int 0, .ref r_flow, .ref r_began, .ref r_state, .ref r_link, .ref r_end, .ref r_gone, .ref r_trip, .ref r_delay, .ref r_way]))] := hD
  refine lv_if_ne (tgt := 21) hx hb dX10_emptyIn_12 (by decide) (fun c_3 => absurd (by decide) c_3) (fun _ => ?_)
  refine lv_aload_n hx hb dX10_emptyIn_15 rfl (lv_at hl 0 rfl) ?_
  refine lv_iconst (v := 1) hx hb dX10_emptyIn_16 (by decide) ?_
  have hFc := va_free (wc := [(m0, .inr (10, [.ref w0, .int 0]))]) hD hS hA [0] rfl
  refine va_calli (va_runV (As := [.int 1]) (rest := []) ⟨hx, hb, hml, hown, hts⟩ (tm_m_no l hst dC dI cy m0 w0 0 1 H.size) (tp_cwV 1 hts tw_1325 tw_1327 tw_18 tw_48 tw_1328 rfl rfl (by decide +kernel) ⟨Nat.le_of_ble_eq_true rfl, Nat.le_of_ble_eq_true rfl⟩) ⟨tp_blind, va_recv hK hP (ci := 10) (q0 := 0) rfl rfl, fun U hU hW => ⟨rfl, tp_pay hK hP hD hE hZ hS [0] (by decide) rfl hFc U hU hW⟩⟩ rfl rfl hl.1 rfl (lv_room (Nat.le_of_ble_eq_true rfl)) dX10_emptyIn_17 ⟨(Nat.le_of_ble_eq_true rfl), (Nat.le_of_ble_eq_true rfl)⟩) hS (fun q _ h => hFc q h) hFc (fun r_4 u t H1 locs ht hvm hw hB hz1 hk1 hS => ?_)
  obtain rfl := hw
  obtain ⟨f_5, hP1, hD1⟩ := hB
  subst f_5
  rw [ht] at hP1
  obtain ⟨hP, hD⟩ := va_join (wr := [(w0, .inr (9, [.int 0, .int 1, .int 0, .ref r_phases, .ref r_phase, .ref r_phaseTicks, .ref r_set, .ref r_least, .ref r_greatest, .int 0, .ref r_from, .ref r_to, .ref r_time, .ref r_room, .ref r_first, .ref r_rate, .ref r_cost, .ref r_isShut, .ref r_slowed, .ref r_row, .ref r_size, .ref r_came, .ref r_left, .ref r_mostQueue, .ref r_sumQueue, .ref r_turned, .int 0, .ref r_flowFrom, .ref r_flowTo, .ref r_kind, .ref r_start, .ref r_period, .ref r_count, .int 0, .ref r_flow, .ref r_began, .ref r_state, .ref r_link, .ref r_end, .ref r_gone, .ref r_trip, .ref r_delay, .ref r_way]))]) (w1 := [(m0, .inr (10, [.ref w0, .int 1]))]) hP hD [0] [1] rfl rfl (by decide) (by decide) hk1 hFc hP1 hD1
  generalize H1 = H at hP hS ⊢
  have hP : va_P (dC, dI) vwCl [(w0, .inr (9, [.int 0, .int 1, .int 0, .ref r_phases, .ref r_phase, .ref r_phaseTicks, .ref r_set, .ref r_least, .ref r_greatest, .int 0, .ref r_from, .ref r_to, .ref r_time, .ref r_room, .ref r_first, .ref r_rate, .ref r_cost, .ref r_isShut, .ref r_slowed, .ref r_row, .ref r_size, .ref r_came, .ref r_left, .ref r_mostQueue, .ref r_sumQueue, .ref r_turned, .int 0, .ref r_flowFrom, .ref r_flowTo, .ref r_kind, .ref r_start, .ref r_period, .ref r_count, .int 0, .ref r_flow, .ref r_began, .ref r_state, .ref r_link, .ref r_end, .ref r_gone, .ref r_trip, .ref r_delay, .ref r_way])), (m0, .inr (10, [.ref w0, .int 1]))] _ := hP
  have hD : va_D A [(w0, .inr (9, [.int 0, .int 1, .int 0, .ref r_phases, .ref r_phase, .ref r_phaseTicks, .ref r_set, .ref r_least, .ref r_greatest, .int 0, .ref r_from, .ref r_to, .ref r_time, .ref r_room, .ref r_first, .ref r_rate, .ref r_cost, .ref r_isShut, .ref r_slowed, .ref r_row, .ref r_size, .ref r_came, .ref r_left, .ref r_mostQueue, .ref r_sumQueue, .ref r_turned, .int 0, .ref r_flowFrom, .ref r_flowTo, .ref r_kind, .ref r_start, .ref r_period, .ref r_count, .int 0, .ref r_flow, .ref r_began, .ref r_state, .ref r_link, .ref r_end, .ref r_gone, .ref r_trip, .ref r_delay, .ref r_way])), (m0, .inr (10, [.ref w0, .int 1]))] := hD
  refine W.widen (k := 0) (n := 0) (Nat.le_of_ble_eq_true rfl) (Nat.le_of_ble_eq_true rfl) ?_
  have hP9 := hP.sub (ws' := [(m0, .inr (10, [.ref w0, .int 1]))]) [1] rfl
  have hD9 := hD.sub (ws' := [(m0, .inr (10, [.ref w0, .int 1]))]) [1] (by decide) rfl
  exact W.iret (v := 0) hx hb hr (fun t ht hW => ⟨⟨0, 0, rfl, rfl, ⟨(by first | rfl | assumption), by rw [ht]; exact hP9, hD9⟩⟩, hS.F ht⟩) hS.2.2 dX10_emptyIn_20
set_option maxRecDepth 100000 in
set_option maxHeartbeats 4000000 in
/-- digest -/
theorem tm_m_digest (l : Launch) (hst : l.stackTraces = false) (dC : Nat → ClassId) (dI : Nat → Nat → Nat) (cy : Nat → ClassId) (m0 : Nat) (w0 : Nat) (tv : Int32) (r_phases : Nat) (r_phase : Nat) (r_phaseTicks : Nat) (r_set : Nat) (r_least : Nat) (r_greatest : Nat) (r_from : Nat) (r_to : Nat) (r_time : Nat) (r_room : Nat) (r_first : Nat) (r_rate : Nat) (r_cost : Nat) (r_isShut : Nat) (r_slowed : Nat) (r_row : Nat) (r_size : Nat) (r_came : Nat) (r_left : Nat) (r_mostQueue : Nat) (r_sumQueue : Nat) (r_turned : Nat) (r_flowFrom : Nat) (r_flowTo : Nat) (r_kind : Nat) (r_start : Nat) (r_period : Nat) (r_count : Nat) (r_flow : Nat) (r_began : Nat) (r_state : Nat) (r_link : Nat) (r_end : Nat) (r_gone : Nat) (r_trip : Nat) (r_delay : Nat) (r_way : Nat) (sz : Nat) : Met l yX10_digest (tp_w yX10_digest cX10_digest 5 (some .long)) ({ frames := 0, cells := 0, slots := 0, locals := 0 }) (va_Pc [.ref m0] (tp_Pre dC dI cy [(m0, .inr (10, [.ref w0, .int tv])), (w0, .inr (9, [.int 0, .int 1, .int 0, .ref r_phases, .ref r_phase, .ref r_phaseTicks, .ref r_set, .ref r_least, .ref r_greatest, .int 0, .ref r_from, .ref r_to, .ref r_time, .ref r_room, .ref r_first, .ref r_rate, .ref r_cost, .ref r_isShut, .ref r_slowed, .ref r_row, .ref r_size, .ref r_came, .ref r_left, .ref r_mostQueue, .ref r_sumQueue, .ref r_turned, .int 0, .ref r_flowFrom, .ref r_flowTo, .ref r_kind, .ref r_start, .ref r_period, .ref r_count, .int 0, .ref r_flow, .ref r_began, .ref r_state, .ref r_link, .ref r_end, .ref r_gone, .ref r_trip, .ref r_delay, .ref r_way]))] sz)) (va_Ql (fun (r u : Int64) => r = u) (fun (u : Int64) (t : State) => (u = 1661578665738) ∧ tp_Post dC dI (va_A [(m0, .inr (10, [.ref w0, .int tv])), (w0, .inr (9, [.int 0, .int 1, .int 0, .ref r_phases, .ref r_phase, .ref r_phaseTicks, .ref r_set, .ref r_least, .ref r_greatest, .int 0, .ref r_from, .ref r_to, .ref r_time, .ref r_room, .ref r_first, .ref r_rate, .ref r_cost, .ref r_isShut, .ref r_slowed, .ref r_row, .ref r_size, .ref r_came, .ref r_left, .ref r_mostQueue, .ref r_sumQueue, .ref r_turned, .int 0, .ref r_flowFrom, .ref r_flowTo, .ref r_kind, .ref r_start, .ref r_period, .ref r_count, .int 0, .ref r_flow, .ref r_began, .ref r_state, .ref r_link, .ref r_end, .ref r_gone, .ref r_trip, .ref r_delay, .ref r_way]))] sz) [(m0, .inr (10, [.ref w0, .int 0]))] t) (va_A [(m0, .inr (10, [.ref w0, .int tv])), (w0, .inr (9, [.int 0, .int 1, .int 0, .ref r_phases, .ref r_phase, .ref r_phaseTicks, .ref r_set, .ref r_least, .ref r_greatest, .int 0, .ref r_from, .ref r_to, .ref r_time, .ref r_room, .ref r_first, .ref r_rate, .ref r_cost, .ref r_isShut, .ref r_slowed, .ref r_row, .ref r_size, .ref r_came, .ref r_left, .ref r_mostQueue, .ref r_sumQueue, .ref r_turned, .int 0, .ref r_flowFrom, .ref r_flowTo, .ref r_kind, .ref r_start, .ref r_period, .ref r_count, .int 0, .ref r_flow, .ref r_began, .ref r_state, .ref r_link, .ref r_end, .ref r_gone, .ref r_trip, .ref r_delay, .ref r_way]))] sz)) 0 0 (va_A [(m0, .inr (10, [.ref w0, .int tv])), (w0, .inr (9, [.int 0, .int 1, .int 0, .ref r_phases, .ref r_phase, .ref r_phaseTicks, .ref r_set, .ref r_least, .ref r_greatest, .int 0, .ref r_from, .ref r_to, .ref r_time, .ref r_room, .ref r_first, .ref r_rate, .ref r_cost, .ref r_isShut, .ref r_slowed, .ref r_row, .ref r_size, .ref r_came, .ref r_left, .ref r_mostQueue, .ref r_sumQueue, .ref r_turned, .int 0, .ref r_flowFrom, .ref r_flowTo, .ref r_kind, .ref r_start, .ref r_period, .ref r_count, .int 0, .ref r_flow, .ref r_began, .ref r_state, .ref r_link, .ref r_end, .ref r_gone, .ref r_trip, .ref r_delay, .ref r_way]))] sz) := by
  refine Met.ofW (cc := cX10_digest) (maxL := 5) (ret := (some .long)) (by decide) rfl ?_
  intro p e s m args below meth c s₁ B hml hv
  obtain ⟨rfl, hsz, hP, hK, hD0, hE, hZ⟩ := hv
  have hx := B.exec
  have hb := B.bytes
  have hr := B.returns
  have hts0 := atoms_spec (ws := tp_w yX10_digest cX10_digest 5 (some .long)) B.pre
  have hts : ∀ w ∈ tp_all, w.before _ s = true := fun w h => hts0 w (List.mem_cons_of_mem _ h)
  have hown : s.vm.findClass RX10 = some m.cls := findClass_of_methodNamed B.named
  have hlocks := B.notSynchronized
  subst hsz
  have hD := hD0.self (sz := s.heap.size)
  generalize hAe : va_A [(m0, .inr (10, [.ref w0, .int tv])), (w0, .inr (9, [.int 0, .int 1, .int 0, .ref r_phases, .ref r_phase, .ref r_phaseTicks, .ref r_set, .ref r_least, .ref r_greatest, .int 0, .ref r_from, .ref r_to, .ref r_time, .ref r_room, .ref r_first, .ref r_rate, .ref r_cost, .ref r_isShut, .ref r_slowed, .ref r_row, .ref r_size, .ref r_came, .ref r_left, .ref r_mostQueue, .ref r_sumQueue, .ref r_turned, .int 0, .ref r_flowFrom, .ref r_flowTo, .ref r_kind, .ref r_start, .ref r_period, .ref r_count, .int 0, .ref r_flow, .ref r_began, .ref r_state, .ref r_link, .ref r_end, .ref r_gone, .ref r_trip, .ref r_delay, .ref r_way]))] s.heap.size = A at hD hZ ⊢
  have hA : ∀ q : Nat, s.heap.size ≤ q → A q := fun q h => by rw [← hAe]; exact Or.inr h
  have hS : va_S A s.heap s.heap [] := va_S.rf
  have hl9 := lv_entry ([.ref m0]) (n := 5) (Nat.le_of_ble_eq_true rfl)
  rw [lg_entry_eq]
  generalize (lg_sl ([.ref m0]) ++ List.replicate (5 - (lg_sl ([.ref m0])).length) Slot.unset).toArray = ls at hl9 ⊢
  have hl : lv_has ls 5 [(0, .ref m0)] := hl9
  refine lv_aload_n hx hb dX10_digest_0 rfl (lv_at hl 0 rfl) ?_
  refine lv_iconst (v := 0) hx hb dX10_digest_1 (by decide) ?_
  refine va_put (D := (dC, dI)) (ci := 10) (v := .int 0) (ty := .int) (C := RX10) (T := TX10) (N := 2) hx hb hts tl_X10 tyX10 tyX10_ok nmX10 hown hK hP hD hS 0 rfl rfl 1 (by decide) (hts _ tw_1311) (fun _ h9 => h9) rfl (by decide +kernel) rfl rfl (Nat.le_of_ble_eq_true rfl) dX10_digest_2 (fun H locs hP hD hS => ?_)
  have hP : va_P (dC, dI) vwCl [(m0, .inr (10, [.ref w0, .int 0])), (w0, .inr (9, [.int 0, .int 1, .int 0, .ref r_phases, .ref r_phase, .ref r_phaseTicks, .ref r_set, .ref r_least, .ref r_greatest, .int 0, .ref r_from, .ref r_to, .ref r_time, .ref r_room, .ref r_first, .ref r_rate, .ref r_cost, .ref r_isShut, .ref r_slowed, .ref r_row, .ref r_size, .ref r_came, .ref r_left, .ref r_mostQueue, .ref r_sumQueue, .ref r_turned, .int 0, .ref r_flowFrom, .ref r_flowTo, .ref r_kind, .ref r_start, .ref r_period, .ref r_count, .int 0, .ref r_flow, .ref r_began, .ref r_state, .ref r_link, .ref r_end, .ref r_gone, .ref r_trip, .ref r_delay, .ref r_way]))] _ := hP
  have hD : va_D A [(m0, .inr (10, [.ref w0, .int 0])), (w0, .inr (9, [.int 0, .int 1, .int 0, .ref r_phases, .ref r_phase, .ref r_phaseTicks, .ref r_set, .ref r_least, .ref r_greatest, .int 0, .ref r_from, .ref r_to, .ref r_time, .ref r_room, .ref r_first, .ref r_rate, .ref r_cost, .ref r_isShut, .ref r_slowed, .ref r_row, .ref r_size, .ref r_came, .ref r_left, .ref r_mostQueue, .ref r_sumQueue, .ref r_turned, .int 0, .ref r_flowFrom, .ref r_flowTo, .ref r_kind, .ref r_start, .ref r_period, .ref r_count, .int 0, .ref r_flow, .ref r_began, .ref r_state, .ref r_link, .ref r_end, .ref r_gone, .ref r_trip, .ref r_delay, .ref r_way]))] := hD
  refine lv_ldc2 (v := 1799178) hx hb hown (hts _ tw_1607) dX10_digest_5 ?_
  refine lv_aload_n hx hb dX10_digest_8 rfl (lv_at hl 0 rfl) ?_
  refine va_get (D := (dC, dI)) (ci := 10) (v := .ref w0) (C := RX10) (T := TX10) (N := 2) hx hb hts tl_X10 hown hK hP 0 rfl rfl 0 (by decide) (hts _ tw_1310) (fun _ h9 => h9) rfl dX10_digest_9 ?_
  refine va_get (D := (dC, dI)) (ci := 9) (v := .int 0) (C := RX9) (T := TX9) (N := 43) hx hb hts tl_X9 hown hK hP 1 rfl rfl 0 (by decide) (hts _ tw_1140) (fun _ h9 => h9) rfl dX10_digest_12 ?_
  refine lv_i2l (v := 0) hx hb dX10_digest_15 (by decide) ?_
  refine lv_ladd hx hb dX10_digest_16 ?_
  refine lv_ldc2 (v := 31) hx hb hown (hts _ tw_1608) dX10_digest_17 ?_
  refine lv_lmul hx hb dX10_digest_20 ?_
  refine lv_aload_n hx hb dX10_digest_21 rfl (lv_at hl 0 rfl) ?_
  refine va_get (D := (dC, dI)) (ci := 10) (v := .ref w0) (C := RX10) (T := TX10) (N := 2) hx hb hts tl_X10 hown hK hP 0 rfl rfl 0 (by decide) (hts _ tw_1310) (fun _ h9 => h9) rfl dX10_digest_22 ?_
  refine va_get (D := (dC, dI)) (ci := 9) (v := .int 0) (C := RX9) (T := TX9) (N := 43) hx hb hts tl_X9 hown hK hP 1 rfl rfl 2 (by decide) (hts _ tw_1144) (fun _ h9 => h9) rfl dX10_digest_25 ?_
  refine lv_i2l (v := 0) hx hb dX10_digest_28 (by decide) ?_
  refine lv_ladd hx hb dX10_digest_29 ?_
  refine lv_ldc2 (v := 31) hx hb hown (hts _ tw_1608) dX10_digest_30 ?_
  refine lv_lmul hx hb dX10_digest_33 ?_
  refine lv_aload_n hx hb dX10_digest_34 rfl (lv_at hl 0 rfl) ?_
  refine va_get (D := (dC, dI)) (ci := 10) (v := .ref w0) (C := RX10) (T := TX10) (N := 2) hx hb hts tl_X10 hown hK hP 0 rfl rfl 0 (by decide) (hts _ tw_1310) (fun _ h9 => h9) rfl dX10_digest_35 ?_
  refine va_get (D := (dC, dI)) (ci := 9) (v := .int 0) (C := RX9) (T := TX9) (N := 43) hx hb hts tl_X9 hown hK hP 1 rfl rfl 9 (by decide) (hts _ tw_1158) (fun _ h9 => h9) rfl dX10_digest_38 ?_
  refine lv_i2l (v := 0) hx hb dX10_digest_41 (by decide) ?_
  refine lv_ladd hx hb dX10_digest_42 ?_
  refine lv_ldc2 (v := 31) hx hb hown (hts _ tw_1608) dX10_digest_43 ?_
  refine lv_lmul hx hb dX10_digest_46 ?_
  refine lv_aload_n hx hb dX10_digest_47 rfl (lv_at hl 0 rfl) ?_
  refine va_get (D := (dC, dI)) (ci := 10) (v := .ref w0) (C := RX10) (T := TX10) (N := 2) hx hb hts tl_X10 hown hK hP 0 rfl rfl 0 (by decide) (hts _ tw_1310) (fun _ h9 => h9) rfl dX10_digest_48 ?_
  refine va_get (D := (dC, dI)) (ci := 9) (v := .int 0) (C := RX9) (T := TX9) (N := 43) hx hb hts tl_X9 hown hK hP 1 rfl rfl 26 (by decide) (hts _ tw_1191) (fun _ h9 => h9) rfl dX10_digest_51 ?_
  refine lv_i2l (v := 0) hx hb dX10_digest_54 (by decide) ?_
  refine lv_ladd hx hb dX10_digest_55 ?_
  refine lv_ldc2 (v := 31) hx hb hown (hts _ tw_1608) dX10_digest_56 ?_
  refine lv_lmul hx hb dX10_digest_59 ?_
  refine lv_aload_n hx hb dX10_digest_60 rfl (lv_at hl 0 rfl) ?_
  refine va_get (D := (dC, dI)) (ci := 10) (v := .ref w0) (C := RX10) (T := TX10) (N := 2) hx hb hts tl_X10 hown hK hP 0 rfl rfl 0 (by decide) (hts _ tw_1310) (fun _ h9 => h9) rfl dX10_digest_61 ?_
  refine va_get (D := (dC, dI)) (ci := 9) (v := .int 0) (C := RX9) (T := TX9) (N := 43) hx hb hts tl_X9 hown hK hP 1 rfl rfl 33 (by decide) (hts _ tw_1205) (fun _ h9 => h9) rfl dX10_digest_64 ?_
  refine lv_i2l (v := 0) hx hb dX10_digest_67 (by decide) ?_
  refine lv_ladd hx hb dX10_digest_68 ?_
  refine lv_lstore_n (lv' := [(1, .long (((((((((1799178 + 0) * 31) + 0) * 31) + 0) * 31) + 0) * 31) + 0)), (0, .ref m0)]) hx hb dX10_digest_69 rfl hl (by decide) rfl (fun ls hl => ?_)
  refine lv_iconst (v := 0) hx hb dX10_digest_70 (by decide) ?_
  refine lv_istore_n (lv' := [(3, .int 0), (1, .long (((((((((1799178 + 0) * 31) + 0) * 31) + 0) * 31) + 0) * 31) + 0)), (0, .ref m0)]) hx hb dX10_digest_71 rfl hl (by decide) rfl (fun ls hl => ?_)
  refine lv_iload_n hx hb dX10_digest_72 rfl (lv_at hl 0 rfl) ?_
  refine lv_aload_n hx hb dX10_digest_73 rfl (lv_at hl 2 rfl) ?_
  refine va_get (D := (dC, dI)) (ci := 10) (v := .ref w0) (C := RX10) (T := TX10) (N := 2) hx hb hts tl_X10 hown hK hP 0 rfl rfl 0 (by decide) (hts _ tw_1310) (fun _ h9 => h9) rfl dX10_digest_74 ?_
  refine va_get (D := (dC, dI)) (ci := 9) (v := .int 0) (C := RX9) (T := TX9) (N := 43) hx hb hts tl_X9 hown hK hP 1 rfl rfl 2 (by decide) (hts _ tw_1144) (fun _ h9 => h9) rfl dX10_digest_77 ?_
  refine lv_icmp_ge (tgt := 192) hx hb dX10_digest_80 (by decide) (fun _ => ?_) (fun c_1 => absurd (by decide) c_1)
  refine lv_iconst (v := 0) hx hb dX10_digest_192 (by decide) ?_
  refine lv_istore_n (lv' := [(3, .int 0), (1, .long (((((((((1799178 + 0) * 31) + 0) * 31) + 0) * 31) + 0) * 31) + 0)), (0, .ref m0)]) hx hb dX10_digest_193 rfl hl (by decide) rfl (fun ls hl => ?_)
  refine lv_iload_n hx hb dX10_digest_194 rfl (lv_at hl 0 rfl) ?_
  refine lv_aload_n hx hb dX10_digest_195 rfl (lv_at hl 2 rfl) ?_
  refine va_get (D := (dC, dI)) (ci := 10) (v := .ref w0) (C := RX10) (T := TX10) (N := 2) hx hb hts tl_X10 hown hK hP 0 rfl rfl 0 (by decide) (hts _ tw_1310) (fun _ h9 => h9) rfl dX10_digest_196 ?_
  refine va_get (D := (dC, dI)) (ci := 9) (v := .int 0) (C := RX9) (T := TX9) (N := 43) hx hb hts tl_X9 hown hK hP 1 rfl rfl 9 (by decide) (hts _ tw_1158) (fun _ h9 => h9) rfl dX10_digest_199 ?_
  refine lv_icmp_ge (tgt := 412) hx hb dX10_digest_202 (by decide) (fun _ => ?_) (fun c_2 => absurd (by decide) c_2)
  refine lv_iconst (v := 0) hx hb dX10_digest_412 (by decide) ?_
  refine lv_istore_n (lv' := [(3, .int 0), (1, .long (((((((((1799178 + 0) * 31) + 0) * 31) + 0) * 31) + 0) * 31) + 0)), (0, .ref m0)]) hx hb dX10_digest_413 rfl hl (by decide) rfl (fun ls hl => ?_)
  refine lv_iload_n hx hb dX10_digest_414 rfl (lv_at hl 0 rfl) ?_
  refine lv_aload_n hx hb dX10_digest_415 rfl (lv_at hl 2 rfl) ?_
  refine va_get (D := (dC, dI)) (ci := 10) (v := .ref w0) (C := RX10) (T := TX10) (N := 2) hx hb hts tl_X10 hown hK hP 0 rfl rfl 0 (by decide) (hts _ tw_1310) (fun _ h9 => h9) rfl dX10_digest_416 ?_
  refine va_get (D := (dC, dI)) (ci := 9) (v := .int 0) (C := RX9) (T := TX9) (N := 43) hx hb hts tl_X9 hown hK hP 1 rfl rfl 26 (by decide) (hts _ tw_1191) (fun _ h9 => h9) rfl dX10_digest_419 ?_
  refine lv_icmp_ge (tgt := 465) hx hb dX10_digest_422 (by decide) (fun _ => ?_) (fun c_3 => absurd (by decide) c_3)
  refine lv_iconst (v := 0) hx hb dX10_digest_465 (by decide) ?_
  refine lv_istore_n (lv' := [(3, .int 0), (1, .long (((((((((1799178 + 0) * 31) + 0) * 31) + 0) * 31) + 0) * 31) + 0)), (0, .ref m0)]) hx hb dX10_digest_466 rfl hl (by decide) rfl (fun ls hl => ?_)
  refine lv_iload_n hx hb dX10_digest_467 rfl (lv_at hl 0 rfl) ?_
  refine lv_aload_n hx hb dX10_digest_468 rfl (lv_at hl 2 rfl) ?_
  refine va_get (D := (dC, dI)) (ci := 10) (v := .ref w0) (C := RX10) (T := TX10) (N := 2) hx hb hts tl_X10 hown hK hP 0 rfl rfl 0 (by decide) (hts _ tw_1310) (fun _ h9 => h9) rfl dX10_digest_469 ?_
  refine va_get (D := (dC, dI)) (ci := 9) (v := .int 0) (C := RX9) (T := TX9) (N := 43) hx hb hts tl_X9 hown hK hP 1 rfl rfl 33 (by decide) (hts _ tw_1205) (fun _ h9 => h9) rfl dX10_digest_472 ?_
  refine lv_icmp_ge (tgt := 578) hx hb dX10_digest_475 (by decide) (fun _ => ?_) (fun c_4 => absurd (by decide) c_4)
  refine lv_lload_n hx hb dX10_digest_578 rfl (lv_at hl 1 rfl) ?_
  refine W.widen (k := 0) (n := 0) (Nat.le_of_ble_eq_true rfl) (Nat.le_of_ble_eq_true rfl) ?_
  have hP9 := hP.sub (ws' := [(m0, .inr (10, [.ref w0, .int 0]))]) [0] rfl
  have hD9 := hD.sub (ws' := [(m0, .inr (10, [.ref w0, .int 0]))]) [0] (by decide) rfl
  exact W.lret (v := ((((((((1799178 + 0) * 31) + 0) * 31) + 0) * 31) + 0) * 31) + 0) hx hb hr (fun t ht hW => ⟨⟨(((((((((1799178 + 0) * 31) + 0) * 31) + 0) * 31) + 0) * 31) + 0), (((((((((1799178 + 0) * 31) + 0) * 31) + 0) * 31) + 0) * 31) + 0), rfl, rfl, ⟨(by decide), by rw [ht]; exact hP9, hD9⟩⟩, hS.F ht⟩) hS.2.2 dX10_digest_579

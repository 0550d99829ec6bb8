theorem tw_640 : Cond.fieldLink RX1 9 "Turnpike$Link" "slowTicks" "I" ∈ tp_all := tp_mem 640 (by decide +kernel) rfl
theorem tw_634 : Cond.fieldLink RX1 31 "Turnpike$Link" "firstRate" "I" ∈ tp_all := tp_mem 634 (by decide +kernel) rfl
theorem tw_636 : Cond.fieldLink RX1 34 "Turnpike$Link" "rate" "I" ∈ tp_all := tp_mem 636 (by decide +kernel) rfl
theorem tw_651 : Cond.fieldLink RX1 24 "Turnpike$Link" "ends" "LTurnpike$Row;" ∈ tp_all := tp_mem 651 (by decide +kernel) rfl
theorem tw_189 : Cond.code yX3_get cX3_get 2 (some .int) ∈ tp_all := tp_mem 189 (by decide +kernel) rfl
theorem tw_186 : Cond.methodLink RX1 40 yX3_get ∈ tp_all := tp_mem 186 (by decide +kernel) rfl
theorem tw_187 : Cond.instanceMethod yX3_get ∈ tp_all := tp_mem 187 (by decide +kernel) rfl
theorem tw_188 : Cond.selects RX3 yX3_get yX3_get ∈ tp_all := tp_mem 188 (by decide +kernel) rfl
theorem tw_24 : Cond.initialized RX3 ∈ tp_all := tp_mem 24 (by decide +kernel) rfl
theorem tw_185 : Cond.code yX1_queueIn cX1_queueIn 3 (some .int) ∈ tp_all := tp_mem 185 (by decide +kernel) rfl
theorem tw_182 : Cond.methodLink RX1 44 yX1_queueIn ∈ tp_all := tp_mem 182 (by decide +kernel) rfl
theorem tw_183 : Cond.instanceMethod yX1_queueIn ∈ tp_all := tp_mem 183 (by decide +kernel) rfl
theorem tw_184 : Cond.selects RX1 yX1_queueIn yX1_queueIn ∈ tp_all := tp_mem 184 (by decide +kernel) rfl
theorem tw_23 : Cond.initialized RX1 ∈ tp_all := tp_mem 23 (by decide +kernel) rfl
theorem tw_630 : Cond.fieldLink RX1 47 "Turnpike$Link" "time" "I" ∈ tp_all := tp_mem 630 (by decide +kernel) rfl
theorem tw_642 : Cond.fieldLink RX1 50 "Turnpike$Link" "shut" "Z" ∈ tp_all := tp_mem 642 (by decide +kernel) rfl
theorem tw_648 : Cond.fieldLink RX1 20 "Turnpike$Link" "row" "LTurnpike$Row;" ∈ tp_all := tp_mem 648 (by decide +kernel) rfl
theorem tw_633 : Cond.fieldLink RX1 54 "Turnpike$Link" "room" "I" ∈ tp_all := tp_mem 633 (by decide +kernel) rfl
theorem tw_231 : Cond.code yX3_append cX3_append 2 none ∈ tp_all := tp_mem 231 (by decide +kernel) rfl
theorem tw_320 : Cond.methodLink RX1 57 yX3_append ∈ tp_all := tp_mem 320 (by decide +kernel) rfl
theorem tw_229 : Cond.instanceMethod yX3_append ∈ tp_all := tp_mem 229 (by decide +kernel) rfl
theorem tw_230 : Cond.selects RX3 yX3_append yX3_append ∈ tp_all := tp_mem 230 (by decide +kernel) rfl
theorem tw_652 : Cond.fieldLink RX1 60 "Turnpike$Link" "came" "I" ∈ tp_all := tp_mem 652 (by decide +kernel) rfl
theorem tw_354 : Cond.code yX3_dropFirst cX3_dropFirst 1 none ∈ tp_all := tp_mem 354 (by decide +kernel) rfl
theorem tw_351 : Cond.methodLink RX1 63 yX3_dropFirst ∈ tp_all := tp_mem 351 (by decide +kernel) rfl
theorem tw_352 : Cond.instanceMethod yX3_dropFirst ∈ tp_all := tp_mem 352 (by decide +kernel) rfl
theorem tw_353 : Cond.selects RX3 yX3_dropFirst yX3_dropFirst ∈ tp_all := tp_mem 353 (by decide +kernel) rfl
theorem tw_654 : Cond.fieldLink RX1 66 "Turnpike$Link" "left" "I" ∈ tp_all := tp_mem 654 (by decide +kernel) rfl
theorem tw_660 : Cond.fieldLink RX1 27 "Turnpike$Link" "wentOnto" "[I" ∈ tp_all := tp_mem 660 (by decide +kernel) rfl
theorem tw_656 : Cond.fieldLink RX1 69 "Turnpike$Link" "greatestQueue" "I" ∈ tp_all := tp_mem 656 (by decide +kernel) rfl
theorem tw_369 : Cond.methodLink RX1 72 yJ9_max_7cf53 ∈ tp_all := tp_mem 369 (by decide +kernel) rfl
theorem tw_292 : Cond.static yJ9_max_7cf53 ∈ tp_all := tp_mem 292 (by decide +kernel) rfl
theorem tw_25 : Cond.initialized RJ9 ∈ tp_all := tp_mem 25 (by decide +kernel) rfl
theorem tw_293 : Cond.code yJ9_max_7cf53 cJ9_max_7cf53 2 (some .int) ∈ tp_all := tp_mem 293 (by decide +kernel) rfl
theorem tw_658 : Cond.fieldLink RX1 78 "Turnpike$Link" "sumOfQueues" "I" ∈ tp_all := tp_mem 658 (by decide +kernel) rfl
theorem te_f0 {U : State} (h : tp_E U) : va_Nw (.fieldLinkNest "Turnpike$Link" 37 "Turnpike$Row" "size" "I" "Turnpike") U := h.1 _ (List.mem_of_getElem? (i := 0) rfl)
theorem dX1_playSlowTick_0 : decode cX1_playSlowTick 0 = .ok (.aload_n 0, 1) := by decide +kernel
theorem dX1_playSlowTick_1 : decode cX1_playSlowTick 1 = .ok (.getfield 9, 3) := by decide +kernel
theorem dX1_playSlowTick_4 : decode cX1_playSlowTick 4 = .ok (.ifCond .le 16, 3) := by decide +kernel
theorem dX1_playSlowTick_20 : decode cX1_playSlowTick 20 = .ok (.aload_n 0, 1) := by decide +kernel
theorem dX1_playSlowTick_21 : decode cX1_playSlowTick 21 = .ok (.getfield 9, 3) := by decide +kernel
theorem dX1_playSlowTick_24 : decode cX1_playSlowTick 24 = .ok (.ifCond .ne 16, 3) := by decide +kernel
theorem dX1_playSlowTick_40 : decode cX1_playSlowTick 40 = .ok (.return_, 1) := by decide +kernel
theorem dX1_playSlowTick_27 : decode cX1_playSlowTick 27 = .ok (.aload_n 0, 1) := by decide +kernel
theorem dX1_playSlowTick_28 : decode cX1_playSlowTick 28 = .ok (.iconst (-1), 1) := by decide +kernel
theorem dX1_playSlowTick_29 : decode cX1_playSlowTick 29 = .ok (.putfield 9, 3) := by decide +kernel
theorem dX1_playSlowTick_32 : decode cX1_playSlowTick 32 = .ok (.aload_n 0, 1) := by decide +kernel
theorem dX1_playSlowTick_33 : decode cX1_playSlowTick 33 = .ok (.aload_n 0, 1) := by decide +kernel
theorem dX1_playSlowTick_34 : decode cX1_playSlowTick 34 = .ok (.getfield 31, 3) := by decide +kernel
theorem dX1_playSlowTick_37 : decode cX1_playSlowTick 37 = .ok (.putfield 34, 3) := by decide +kernel
theorem dX1_playSlowTick_7 : decode cX1_playSlowTick 7 = .ok (.aload_n 0, 1) := by decide +kernel
theorem dX1_playSlowTick_8 : decode cX1_playSlowTick 8 = .ok (.dup, 1) := by decide +kernel
theorem dX1_playSlowTick_9 : decode cX1_playSlowTick 9 = .ok (.getfield 9, 3) := by decide +kernel
theorem dX1_playSlowTick_12 : decode cX1_playSlowTick 12 = .ok (.iconst 1, 1) := by decide +kernel
theorem dX1_playSlowTick_13 : decode cX1_playSlowTick 13 = .ok (.isub, 1) := by decide +kernel
theorem dX1_playSlowTick_14 : decode cX1_playSlowTick 14 = .ok (.putfield 9, 3) := by decide +kernel
theorem dX1_playSlowTick_17 : decode cX1_playSlowTick 17 = .ok (.goto 23, 3) := by decide +kernel
theorem dX1_hasQueueIn_0 : decode cX1_hasQueueIn 0 = .ok (.aload_n 0, 1) := by decide +kernel
theorem dX1_hasQueueIn_1 : decode cX1_hasQueueIn 1 = .ok (.getfield 24, 3) := by decide +kernel
theorem dX1_hasQueueIn_4 : decode cX1_hasQueueIn 4 = .ok (.getfield 37, 3) := by decide +kernel
theorem dX1_hasQueueIn_7 : decode cX1_hasQueueIn 7 = .ok (.ifCond .le 19, 3) := by decide +kernel
theorem dX1_hasQueueIn_26 : decode cX1_hasQueueIn 26 = .ok (.iconst 0, 1) := by decide +kernel
theorem dX1_hasQueueIn_27 : decode cX1_hasQueueIn 27 = .ok (.ireturn, 1) := by decide +kernel
theorem dX1_hasQueueIn_10 : decode cX1_hasQueueIn 10 = .ok (.aload_n 0, 1) := by decide +kernel
theorem dX1_hasQueueIn_11 : decode cX1_hasQueueIn 11 = .ok (.getfield 24, 3) := by decide +kernel
theorem dX1_hasQueueIn_14 : decode cX1_hasQueueIn 14 = .ok (.iconst 0, 1) := by decide +kernel
theorem dX1_hasQueueIn_15 : decode cX1_hasQueueIn 15 = .ok (.invokevirtual 40, 3) := by decide +kernel
theorem dX1_hasQueueIn_18 : decode cX1_hasQueueIn 18 = .ok (.iload_n 1, 1) := by decide +kernel
theorem dX1_hasQueueIn_19 : decode cX1_hasQueueIn 19 = .ok (.if_icmp .gt 7, 3) := by decide +kernel
theorem dX1_hasQueueIn_22 : decode cX1_hasQueueIn 22 = .ok (.iconst 1, 1) := by decide +kernel
theorem dX1_hasQueueIn_23 : decode cX1_hasQueueIn 23 = .ok (.goto 4, 3) := by decide +kernel
theorem dX1_queueIn_0 : decode cX1_queueIn 0 = .ok (.iconst 0, 1) := by decide +kernel
theorem dX1_queueIn_1 : decode cX1_queueIn 1 = .ok (.istore_n 2, 1) := by decide +kernel
theorem dX1_queueIn_2 : decode cX1_queueIn 2 = .ok (.iload_n 2, 1) := by decide +kernel
theorem dX1_queueIn_3 : decode cX1_queueIn 3 = .ok (.aload_n 0, 1) := by decide +kernel
theorem dX1_queueIn_4 : decode cX1_queueIn 4 = .ok (.getfield 24, 3) := by decide +kernel
theorem dX1_queueIn_7 : decode cX1_queueIn 7 = .ok (.getfield 37, 3) := by decide +kernel
theorem dX1_queueIn_10 : decode cX1_queueIn 10 = .ok (.if_icmp .ge 21, 3) := by decide +kernel
theorem dX1_queueIn_31 : decode cX1_queueIn 31 = .ok (.iload_n 2, 1) := by decide +kernel
theorem dX1_queueIn_32 : decode cX1_queueIn 32 = .ok (.ireturn, 1) := by decide +kernel
theorem dX1_queueIn_13 : decode cX1_queueIn 13 = .ok (.aload_n 0, 1) := by decide +kernel
theorem dX1_queueIn_14 : decode cX1_queueIn 14 = .ok (.getfield 24, 3) := by decide +kernel
theorem dX1_queueIn_17 : decode cX1_queueIn 17 = .ok (.iload_n 2, 1) := by decide +kernel
theorem dX1_queueIn_18 : decode cX1_queueIn 18 = .ok (.invokevirtual 40, 3) := by decide +kernel
theorem dX1_queueIn_21 : decode cX1_queueIn 21 = .ok (.iload_n 1, 1) := by decide +kernel
theorem dX1_queueIn_22 : decode cX1_queueIn 22 = .ok (.if_icmp .gt 9, 3) := by decide +kernel
theorem dX1_queueIn_25 : decode cX1_queueIn 25 = .ok (.iinc 2 1, 3) := by decide +kernel
theorem dX1_queueIn_28 : decode cX1_queueIn 28 = .ok (.goto (-26), 3) := by decide +kernel
theorem dX1_costIn_0 : decode cX1_costIn 0 = .ok (.aload_n 0, 1) := by decide +kernel
theorem dX1_costIn_1 : decode cX1_costIn 1 = .ok (.iload_n 1, 1) := by decide +kernel
theorem dX1_costIn_2 : decode cX1_costIn 2 = .ok (.invokevirtual 44, 3) := by decide +kernel
theorem dX1_costIn_5 : decode cX1_costIn 5 = .ok (.istore_n 2, 1) := by decide +kernel
theorem dX1_costIn_6 : decode cX1_costIn 6 = .ok (.aload_n 0, 1) := by decide +kernel
theorem dX1_costIn_7 : decode cX1_costIn 7 = .ok (.getfield 47, 3) := by decide +kernel
theorem dX1_costIn_10 : decode cX1_costIn 10 = .ok (.aload_n 0, 1) := by decide +kernel
theorem dX1_costIn_11 : decode cX1_costIn 11 = .ok (.getfield 34, 3) := by decide +kernel
theorem dX1_costIn_14 : decode cX1_costIn 14 = .ok (.ifCond .le 19, 3) := by decide +kernel
theorem dX1_costIn_33 : decode cX1_costIn 33 = .ok (.bipush 10, 2) := by decide +kernel
theorem dX1_costIn_35 : decode cX1_costIn 35 = .ok (.iload_n 2, 1) := by decide +kernel
theorem dX1_costIn_36 : decode cX1_costIn 36 = .ok (.imul, 1) := by decide +kernel
theorem dX1_costIn_37 : decode cX1_costIn 37 = .ok (.iadd, 1) := by decide +kernel
theorem dX1_costIn_38 : decode cX1_costIn 38 = .ok (.ireturn, 1) := by decide +kernel
theorem dX1_costIn_17 : decode cX1_costIn 17 = .ok (.iload_n 2, 1) := by decide +kernel
theorem dX1_costIn_18 : decode cX1_costIn 18 = .ok (.aload_n 0, 1) := by decide +kernel
theorem dX1_costIn_19 : decode cX1_costIn 19 = .ok (.getfield 34, 3) := by decide +kernel
theorem dX1_costIn_22 : decode cX1_costIn 22 = .ok (.iadd, 1) := by decide +kernel
theorem dX1_costIn_23 : decode cX1_costIn 23 = .ok (.iconst 1, 1) := by decide +kernel
theorem dX1_costIn_24 : decode cX1_costIn 24 = .ok (.isub, 1) := by decide +kernel
theorem dX1_costIn_25 : decode cX1_costIn 25 = .ok (.aload_n 0, 1) := by decide +kernel
theorem dX1_costIn_26 : decode cX1_costIn 26 = .ok (.getfield 34, 3) := by decide +kernel
theorem dX1_costIn_29 : decode cX1_costIn 29 = .ok (.idiv, 1) := by decide +kernel
theorem dX1_costIn_30 : decode cX1_costIn 30 = .ok (.goto 7, 3) := by decide +kernel
theorem dX1_isOpen_0 : decode cX1_isOpen 0 = .ok (.aload_n 0, 1) := by decide +kernel
theorem dX1_isOpen_1 : decode cX1_isOpen 1 = .ok (.getfield 50, 3) := by decide +kernel
theorem dX1_isOpen_4 : decode cX1_isOpen 4 = .ok (.ifCond .ne 21, 3) := by decide +kernel
theorem dX1_isOpen_25 : decode cX1_isOpen 25 = .ok (.iconst 0, 1) := by decide +kernel
theorem dX1_isOpen_26 : decode cX1_isOpen 26 = .ok (.ireturn, 1) := by decide +kernel
theorem dX1_isOpen_7 : decode cX1_isOpen 7 = .ok (.aload_n 0, 1) := by decide +kernel
theorem dX1_isOpen_8 : decode cX1_isOpen 8 = .ok (.getfield 20, 3) := by decide +kernel
theorem dX1_isOpen_11 : decode cX1_isOpen 11 = .ok (.getfield 37, 3) := by decide +kernel
theorem dX1_isOpen_14 : decode cX1_isOpen 14 = .ok (.aload_n 0, 1) := by decide +kernel
theorem dX1_isOpen_15 : decode cX1_isOpen 15 = .ok (.getfield 54, 3) := by decide +kernel
theorem dX1_isOpen_18 : decode cX1_isOpen 18 = .ok (.if_icmp .ge 7, 3) := by decide +kernel
theorem dX1_isOpen_21 : decode cX1_isOpen 21 = .ok (.iconst 1, 1) := by decide +kernel
theorem dX1_isOpen_22 : decode cX1_isOpen 22 = .ok (.goto 4, 3) := by decide +kernel
theorem dX1_takeIn_0 : decode cX1_takeIn 0 = .ok (.aload_n 0, 1) := by decide +kernel
theorem dX1_takeIn_1 : decode cX1_takeIn 1 = .ok (.getfield 20, 3) := by decide +kernel
theorem dX1_takeIn_4 : decode cX1_takeIn 4 = .ok (.iload_n 1, 1) := by decide +kernel
theorem dX1_takeIn_5 : decode cX1_takeIn 5 = .ok (.invokevirtual 57, 3) := by decide +kernel
theorem dX1_takeIn_8 : decode cX1_takeIn 8 = .ok (.aload_n 0, 1) := by decide +kernel
theorem dX1_takeIn_9 : decode cX1_takeIn 9 = .ok (.getfield 24, 3) := by decide +kernel
theorem dX1_takeIn_12 : decode cX1_takeIn 12 = .ok (.iload_n 2, 1) := by decide +kernel
theorem dX1_takeIn_13 : decode cX1_takeIn 13 = .ok (.invokevirtual 57, 3) := by decide +kernel
theorem dX1_takeIn_16 : decode cX1_takeIn 16 = .ok (.aload_n 0, 1) := by decide +kernel
theorem dX1_takeIn_17 : decode cX1_takeIn 17 = .ok (.dup, 1) := by decide +kernel
theorem dX1_takeIn_18 : decode cX1_takeIn 18 = .ok (.getfield 60, 3) := by decide +kernel
theorem dX1_takeIn_21 : decode cX1_takeIn 21 = .ok (.iconst 1, 1) := by decide +kernel
theorem dX1_takeIn_22 : decode cX1_takeIn 22 = .ok (.iadd, 1) := by decide +kernel
theorem dX1_takeIn_23 : decode cX1_takeIn 23 = .ok (.putfield 60, 3) := by decide +kernel
theorem dX1_takeIn_26 : decode cX1_takeIn 26 = .ok (.return_, 1) := by decide +kernel
theorem dX1_letFirstGo_0 : decode cX1_letFirstGo 0 = .ok (.aload_n 0, 1) := by decide +kernel
theorem dX1_letFirstGo_1 : decode cX1_letFirstGo 1 = .ok (.getfield 20, 3) := by decide +kernel
theorem dX1_letFirstGo_4 : decode cX1_letFirstGo 4 = .ok (.invokevirtual 63, 3) := by decide +kernel
theorem dX1_letFirstGo_7 : decode cX1_letFirstGo 7 = .ok (.aload_n 0, 1) := by decide +kernel
theorem dX1_letFirstGo_8 : decode cX1_letFirstGo 8 = .ok (.getfield 24, 3) := by decide +kernel
theorem dX1_letFirstGo_11 : decode cX1_letFirstGo 11 = .ok (.invokevirtual 63, 3) := by decide +kernel
theorem dX1_letFirstGo_14 : decode cX1_letFirstGo 14 = .ok (.aload_n 0, 1) := by decide +kernel
theorem dX1_letFirstGo_15 : decode cX1_letFirstGo 15 = .ok (.dup, 1) := by decide +kernel
theorem dX1_letFirstGo_16 : decode cX1_letFirstGo 16 = .ok (.getfield 66, 3) := by decide +kernel
theorem dX1_letFirstGo_19 : decode cX1_letFirstGo 19 = .ok (.iconst 1, 1) := by decide +kernel
theorem dX1_letFirstGo_20 : decode cX1_letFirstGo 20 = .ok (.iadd, 1) := by decide +kernel
theorem dX1_letFirstGo_21 : decode cX1_letFirstGo 21 = .ok (.putfield 66, 3) := by decide +kernel
theorem dX1_letFirstGo_24 : decode cX1_letFirstGo 24 = .ok (.return_, 1) := by decide +kernel
theorem dX1_countTurn_0 : decode cX1_countTurn 0 = .ok (.iload_n 1, 1) := by decide +kernel
theorem dX1_countTurn_1 : decode cX1_countTurn 1 = .ok (.ifCond .lt 22, 3) := by decide +kernel
theorem dX1_countTurn_23 : decode cX1_countTurn 23 = .ok (.return_, 1) := by decide +kernel
theorem dX1_countTurn_4 : decode cX1_countTurn 4 = .ok (.iload_n 1, 1) := by decide +kernel
theorem dX1_countTurn_5 : decode cX1_countTurn 5 = .ok (.aload_n 0, 1) := by decide +kernel
theorem dX1_countTurn_6 : decode cX1_countTurn 6 = .ok (.getfield 27, 3) := by decide +kernel
theorem dX1_countTurn_9 : decode cX1_countTurn 9 = .ok (.arraylength, 1) := by decide +kernel
theorem dX1_countTurn_10 : decode cX1_countTurn 10 = .ok (.if_icmp .ge 13, 3) := by decide +kernel
theorem dX1_countTurn_13 : decode cX1_countTurn 13 = .ok (.aload_n 0, 1) := by decide +kernel
theorem dX1_countTurn_14 : decode cX1_countTurn 14 = .ok (.getfield 27, 3) := by decide +kernel
theorem dX1_countTurn_17 : decode cX1_countTurn 17 = .ok (.iload_n 1, 1) := by decide +kernel
theorem dX1_countTurn_18 : decode cX1_countTurn 18 = .ok (.dup2, 1) := by decide +kernel
theorem dX1_countTurn_19 : decode cX1_countTurn 19 = .ok (.iaload, 1) := by decide +kernel
theorem dX1_countTurn_20 : decode cX1_countTurn 20 = .ok (.iconst 1, 1) := by decide +kernel
theorem dX1_countTurn_21 : decode cX1_countTurn 21 = .ok (.iadd, 1) := by decide +kernel
theorem dX1_countTurn_22 : decode cX1_countTurn 22 = .ok (.iastore, 1) := by decide +kernel
theorem dX1_countQueueIn_0 : decode cX1_countQueueIn 0 = .ok (.aload_n 0, 1) := by decide +kernel
theorem dX1_countQueueIn_1 : decode cX1_countQueueIn 1 = .ok (.iload_n 1, 1) := by decide +kernel
theorem dX1_countQueueIn_2 : decode cX1_countQueueIn 2 = .ok (.invokevirtual 44, 3) := by decide +kernel
theorem dX1_countQueueIn_5 : decode cX1_countQueueIn 5 = .ok (.istore_n 2, 1) := by decide +kernel
theorem dX1_countQueueIn_6 : decode cX1_countQueueIn 6 = .ok (.aload_n 0, 1) := by decide +kernel
theorem dX1_countQueueIn_7 : decode cX1_countQueueIn 7 = .ok (.aload_n 0, 1) := by decide +kernel
theorem dX1_countQueueIn_8 : decode cX1_countQueueIn 8 = .ok (.getfield 69, 3) := by decide +kernel
theorem dX1_countQueueIn_11 : decode cX1_countQueueIn 11 = .ok (.iload_n 2, 1) := by decide +kernel
theorem dX1_countQueueIn_12 : decode cX1_countQueueIn 12 = .ok (.invokestatic 72, 3) := by decide +kernel
theorem dX1_countQueueIn_15 : decode cX1_countQueueIn 15 = .ok (.putfield 69, 3) := by decide +kernel
theorem dX1_countQueueIn_18 : decode cX1_countQueueIn 18 = .ok (.aload_n 0, 1) := by decide +kernel
theorem dX1_countQueueIn_19 : decode cX1_countQueueIn 19 = .ok (.dup, 1) := by decide +kernel
theorem dX1_countQueueIn_20 : decode cX1_countQueueIn 20 = .ok (.getfield 78, 3) := by decide +kernel
theorem dX1_countQueueIn_23 : decode cX1_countQueueIn 23 = .ok (.iload_n 2, 1) := by decide +kernel
theorem dX1_countQueueIn_24 : decode cX1_countQueueIn 24 = .ok (.iadd, 1) := by decide +kernel
theorem dX1_countQueueIn_25 : decode cX1_countQueueIn 25 = .ok (.putfield 78, 3) := by decide +kernel
theorem dX1_countQueueIn_28 : decode cX1_countQueueIn 28 = .ok (.return_, 1) := by decide +kernel
set_option maxRecDepth 100000 in
set_option maxHeartbeats 4000000 in
/-- Link.playSlowTick -/
theorem c_Link_playSlowTick (l : Launch) (dC : Nat → ClassId) (dI : Nat → Nat → Nat) (cy : Nat → ClassId) (L : Lay) (tr : Option Nat) (a : St) (κ : Kap) (τ : Tau) (i : Nat) (sz : Nat) (hT : TL L tr τ) (hi : i < 24) : Met l yX1_playSlowTick (tp_w yX1_playSlowTick cX1_playSlowTick 1 none) ({ frames := 0, cells := 0, slots := 0, locals := 0 }) (va_Pc [.ref (L 2 i)] (mPre dC dI cy (TW cy L tr a κ τ) sz)) (va_Qv (fun _ : Unit => True) (fun (_ : Unit) (t : State) => mw (dC, dI) vwCl (mA (TW cy L tr a κ τ) sz) (TW cy L tr (L_slow a i) κ τ) t.heap) (mA (TW cy L tr a κ τ) sz)) (0) (0) (mA (TW cy L tr a κ τ) sz) := by
  refine Met.ofW (cc := cX1_playSlowTick) (maxL := 1) (ret := none) (by decide) rfl ?_
  intro p e s m args below meth c s₁ B hml hv
  obtain ⟨rfl, hsz, hP, hK, hE⟩ := hv
  have hx := B.exec
  have hb := B.bytes
  have hr := B.returns
  have hts0 := atoms_spec (ws := tp_w yX1_playSlowTick cX1_playSlowTick 1 none) B.pre
  have hts : ∀ w ∈ tp_all, w.before _ s = true := fun w h => hts0 w (List.mem_cons_of_mem _ h)
  have hown : s.vm.findClass RX1 = some m.cls := findClass_of_methodNamed B.named
  have hlocks := B.notSynchronized
  subst hsz
  have hP := hP.self s.heap.size
  generalize hAe : mA (TW cy L tr a κ τ) s.heap.size = A at hP ⊢
  have hA : ∀ q : Nat, s.heap.size ≤ q → A q := fun q h => by rw [← hAe]; exact Or.inr h
  have hS : va_S A s.heap s.heap [] := va_S.rf
  have hl9 := lv_entry ([.ref (L 2 i)]) (n := 1) (Nat.le_of_ble_eq_true rfl)
  rw [lg_entry_eq]
  generalize (lg_sl ([.ref (L 2 i)]) ++ List.replicate (1 - (lg_sl ([.ref (L 2 i)])).length) Slot.unset).toArray = ls at hl9 ⊢
  have hl : lv_has ls 1 [(0, .ref (L 2 i))] := hl9
  refine lv_aload_n hx hb dX1_playSlowTick_0 rfl (lv_at hl 0 rfl) ?_
  refine va_get (D := (dC, dI)) (ws := [(L 2 i, .inr (1, [.int ((a 2 i) 0), .int ((a 2 i) 1), .int ((a 2 i) 2), .int ((a 2 i) 3), .int ((a 2 i) 4), .int ((a 2 i) 5), .int ((a 2 i) 6), .int ((a 2 i) 7), .int ((a 2 i) 8), .ref (L 3 i), .ref (L 5 i), .int ((a 2 i) 9), .int ((a 2 i) 10), .int ((a 2 i) 11), .int ((a 2 i) 12), .ref (L 7 i)]))]) (ci := 1) (v := .int ((a 2 i) 6)) (C := RX1) (T := TX1) (N := 16) hx hb hts tl_X1 hown hK (hP.one (tw_mem (f := 2) (i := i) hi rfl)) 0 rfl rfl 6 (by decide) (hts _ tw_640) (fun _ h9 => h9) rfl dX1_playSlowTick_1 ?_
  refine lv_if_le (tgt := 20) hx hb dX1_playSlowTick_4 (by decide) (fun c_1 => ?_) (fun c_1 => ?_)
  · refine lv_aload_n hx hb dX1_playSlowTick_20 rfl (lv_at hl 0 rfl) ?_
    refine va_get (D := (dC, dI)) (ws := [(L 2 i, .inr (1, [.int ((a 2 i) 0), .int ((a 2 i) 1), .int ((a 2 i) 2), .int ((a 2 i) 3), .int ((a 2 i) 4), .int ((a 2 i) 5), .int ((a 2 i) 6), .int ((a 2 i) 7), .int ((a 2 i) 8), .ref (L 3 i), .ref (L 5 i), .int ((a 2 i) 9), .int ((a 2 i) 10), .int ((a 2 i) 11), .int ((a 2 i) 12), .ref (L 7 i)]))]) (ci := 1) (v := .int ((a 2 i) 6)) (C := RX1) (T := TX1) (N := 16) hx hb hts tl_X1 hown hK (hP.one (tw_mem (f := 2) (i := i) hi rfl)) 0 rfl rfl 6 (by decide) (hts _ tw_640) (fun _ h9 => h9) rfl dX1_playSlowTick_21 ?_
    refine lv_if_ne (tgt := 40) hx hb dX1_playSlowTick_24 (by decide) (fun c_2 => ?_) (fun c_2 => ?_)
    · refine W.widen (k := 0) (n := 0) (Nat.le_of_ble_eq_true rfl) (Nat.le_of_ble_eq_true rfl) ?_
      have s_1 : a = L_slow a i := by
        first | rfl | (simp only [L_slow, X_slow, S2_id, if_pos c_1, if_neg c_2])
      rw [s_1] at hP
      exact W.vret hx hb hr (fun t ht hW => ⟨⟨(), rfl, trivial, (by show mw _ _ _ _ t.heap; rw [ht]; exact hP)⟩, hS.F ht⟩) hS.2.2 dX1_playSlowTick_40
    · refine lv_aload_n hx hb dX1_playSlowTick_27 rfl (lv_at hl 0 rfl) ?_
      refine lv_iconst (v := -1) hx hb dX1_playSlowTick_28 (by decide) ?_
      obtain ⟨ws9, k9, hPw, hDw, hk9, -, hbk⟩ := hP.cut (e := .inr (1, [.int ((a 2 i) 0), .int ((a 2 i) 1), .int ((a 2 i) 2), .int ((a 2 i) 3), .int ((a 2 i) 4), .int ((a 2 i) 5), .int ((a 2 i) 6), .int ((a 2 i) 7), .int ((a 2 i) 8), .ref (L 3 i), .ref (L 5 i), .int ((a 2 i) 9), .int ((a 2 i) 10), .int ((a 2 i) 11), .int ((a 2 i) 12), .ref (L 7 i)])) (tw_mem (f := 2) (i := i) hi rfl)
      refine va_put (D := (dC, dI)) (ci := 1) (v := .int ((-1))) (ty := .int) (C := RX1) (T := TX1) (N := 16) hx hb hts tl_X1 tyX1 tyX1_ok nmX1 hown hK hPw hDw hS k9 hk9 rfl 6 (by decide) (hts _ tw_640) (fun _ h9 => h9) rfl (by decide +kernel) rfl rfl (Nat.le_of_ble_eq_true rfl) dX1_playSlowTick_29 (fun H locs hPw hDw hS => ?_)
      have hP : mw (dC, dI) vwCl A (TW cy L tr (S2 a 2 i (upd (a 2 i) 6 ((-1)))) κ τ) H := (hbk _ _ hPw hDw).sub (tw_set (b := S2 a 2 i (upd (a 2 i) 6 ((-1)))) (f := 2) (i := i) (x := upd (a 2 i) 6 ((-1))) hT hi (by decide) rfl)
      clear hbk hPw hDw hk9
      refine lv_aload_n hx hb dX1_playSlowTick_32 rfl (lv_at hl 0 rfl) ?_
      refine lv_aload_n hx hb dX1_playSlowTick_33 rfl (lv_at hl 0 rfl) ?_
      refine va_get (D := (dC, dI)) (ws := [(L 2 i, .inr (1, [.int ((a 2 i) 0), .int ((a 2 i) 1), .int ((a 2 i) 2), .int ((a 2 i) 3), .int ((a 2 i) 4), .int ((a 2 i) 5), .int ((-1)), .int ((a 2 i) 7), .int ((a 2 i) 8), .ref (L 3 i), .ref (L 5 i), .int ((a 2 i) 9), .int ((a 2 i) 10), .int ((a 2 i) 11), .int ((a 2 i) 12), .ref (L 7 i)]))]) (ci := 1) (v := .int ((a 2 i) 4)) (C := RX1) (T := TX1) (N := 16) hx hb hts tl_X1 hown hK (hP.one (tw_mem (f := 2) (i := i) hi S2_eq)) 0 rfl rfl 4 (by decide) (hts _ tw_634) (fun _ h9 => h9) rfl dX1_playSlowTick_34 ?_
      obtain ⟨ws9, k9, hPw, hDw, hk9, -, hbk⟩ := hP.cut (e := .inr (1, [.int ((a 2 i) 0), .int ((a 2 i) 1), .int ((a 2 i) 2), .int ((a 2 i) 3), .int ((a 2 i) 4), .int ((a 2 i) 5), .int ((-1)), .int ((a 2 i) 7), .int ((a 2 i) 8), .ref (L 3 i), .ref (L 5 i), .int ((a 2 i) 9), .int ((a 2 i) 10), .int ((a 2 i) 11), .int ((a 2 i) 12), .ref (L 7 i)])) (tw_mem (f := 2) (i := i) hi S2_eq)
      refine va_put (D := (dC, dI)) (ci := 1) (v := .int ((a 2 i) 4)) (ty := .int) (C := RX1) (T := TX1) (N := 16) hx hb hts tl_X1 tyX1 tyX1_ok nmX1 hown hK hPw hDw hS k9 hk9 rfl 5 (by decide) (hts _ tw_636) (fun _ h9 => h9) rfl (by decide +kernel) rfl rfl (Nat.le_of_ble_eq_true rfl) dX1_playSlowTick_37 (fun H locs hPw hDw hS => ?_)
      have hP : mw (dC, dI) vwCl A (TW cy L tr (S2 a 2 i (upd (upd (a 2 i) 6 ((-1))) 5 ((a 2 i) 4))) κ τ) H := (hbk _ _ hPw hDw).sub (tw_set (b := S2 a 2 i (upd (upd (a 2 i) 6 ((-1))) 5 ((a 2 i) 4))) (f := 2) (i := i) (x := upd (upd (a 2 i) 6 ((-1))) 5 ((a 2 i) 4)) hT hi (by decide) S2_S2.symm)
      clear hbk hPw hDw hk9
      refine W.widen (k := 0) (n := 0) (Nat.le_of_ble_eq_true rfl) (Nat.le_of_ble_eq_true rfl) ?_
      have s_2 : S2 a 2 i (upd (upd (a 2 i) 6 ((-1))) 5 ((a 2 i) 4)) = L_slow a i := by
        first | rfl | (simp only [L_slow, X_slow, S2_id, if_pos c_1, if_pos c_2])
      rw [s_2] at hP
      exact W.vret hx hb hr (fun t ht hW => ⟨⟨(), rfl, trivial, (by show mw _ _ _ _ t.heap; rw [ht]; exact hP)⟩, hS.F ht⟩) hS.2.2 dX1_playSlowTick_40
  · refine lv_aload_n hx hb dX1_playSlowTick_7 rfl (lv_at hl 0 rfl) ?_
    refine lv_dup hx hb dX1_playSlowTick_8 rfl ?_
    refine va_get (D := (dC, dI)) (ws := [(L 2 i, .inr (1, [.int ((a 2 i) 0), .int ((a 2 i) 1), .int ((a 2 i) 2), .int ((a 2 i) 3), .int ((a 2 i) 4), .int ((a 2 i) 5), .int ((a 2 i) 6), .int ((a 2 i) 7), .int ((a 2 i) 8), .ref (L 3 i), .ref (L 5 i), .int ((a 2 i) 9), .int ((a 2 i) 10), .int ((a 2 i) 11), .int ((a 2 i) 12), .ref (L 7 i)]))]) (ci := 1) (v := .int ((a 2 i) 6)) (C := RX1) (T := TX1) (N := 16) hx hb hts tl_X1 hown hK (hP.one (tw_mem (f := 2) (i := i) hi rfl)) 0 rfl rfl 6 (by decide) (hts _ tw_640) (fun _ h9 => h9) rfl dX1_playSlowTick_9 ?_
    refine lv_iconst (v := 1) hx hb dX1_playSlowTick_12 (by decide) ?_
    refine lv_isub hx hb dX1_playSlowTick_13 ?_
    obtain ⟨ws9, k9, hPw, hDw, hk9, -, hbk⟩ := hP.cut (e := .inr (1, [.int ((a 2 i) 0), .int ((a 2 i) 1), .int ((a 2 i) 2), .int ((a 2 i) 3), .int ((a 2 i) 4), .int ((a 2 i) 5), .int ((a 2 i) 6), .int ((a 2 i) 7), .int ((a 2 i) 8), .ref (L 3 i), .ref (L 5 i), .int ((a 2 i) 9), .int ((a 2 i) 10), .int ((a 2 i) 11), .int ((a 2 i) 12), .ref (L 7 i)])) (tw_mem (f := 2) (i := i) hi rfl)
    refine va_put (D := (dC, dI)) (ci := 1) (v := .int (((a 2 i) 6) - 1)) (ty := .int) (C := RX1) (T := TX1) (N := 16) hx hb hts tl_X1 tyX1 tyX1_ok nmX1 hown hK hPw hDw hS k9 hk9 rfl 6 (by decide) (hts _ tw_640) (fun _ h9 => h9) rfl (by decide +kernel) rfl rfl (Nat.le_of_ble_eq_true rfl) dX1_playSlowTick_14 (fun H locs hPw hDw hS => ?_)
    have hP : mw (dC, dI) vwCl A (TW cy L tr (S2 a 2 i (upd (a 2 i) 6 (((a 2 i) 6) - 1))) κ τ) H := (hbk _ _ hPw hDw).sub (tw_set (b := S2 a 2 i (upd (a 2 i) 6 (((a 2 i) 6) - 1))) (f := 2) (i := i) (x := upd (a 2 i) 6 (((a 2 i) 6) - 1)) hT hi (by decide) rfl)
    clear hbk hPw hDw hk9
    refine lv_goto (tgt := 40) hx hb dX1_playSlowTick_17 (by decide) ?_
    refine W.widen (k := 0) (n := 0) (Nat.le_of_ble_eq_true rfl) (Nat.le_of_ble_eq_true rfl) ?_
    have s_3 : S2 a 2 i (upd (a 2 i) 6 (((a 2 i) 6) - 1)) = L_slow a i := by
      first | rfl | (simp only [L_slow, X_slow, S2_id, if_neg c_1])
    rw [s_3] at hP
    exact W.vret hx hb hr (fun t ht hW => ⟨⟨(), rfl, trivial, (by show mw _ _ _ _ t.heap; rw [ht]; exact hP)⟩, hS.F ht⟩) hS.2.2 dX1_playSlowTick_40
set_option maxRecDepth 100000 in
set_option maxHeartbeats 4000000 in
/-- Link.hasQueueIn -/
theorem c_Link_hasQueueIn (l : Launch) (dC : Nat → ClassId) (dI : Nat → Nat → Nat) (cy : Nat → ClassId) (L : Lay) (tr : Option Nat) (a : St) (κ : Kap) (τ : Tau) (i : Nat) (tk : Int32) (sz : Nat) (hT : TL L tr τ) (hi : i < 24) (h5 : (a 5 i 0).toInt ≤ 30) : Met l yX1_hasQueueIn (tp_w yX1_hasQueueIn cX1_hasQueueIn 2 (some .boolean)) ({ frames := 1, cells := 0, slots := 0, locals := 21 }) (va_Pc [.ref (L 2 i), .int tk] (mPre dC dI cy (TW cy L tr a κ τ) sz)) (va_Qi (fun (r u : Int32) => r = u) (fun (u : Int32) (t : State) => (u = L_has a i tk) ∧ mw (dC, dI) vwCl (mA (TW cy L tr a κ τ) sz) (TW cy L tr a κ τ) t.heap) (mA (TW cy L tr a κ τ) sz)) (0) (0) (mA (TW cy L tr a κ τ) sz) := by
  refine Met.ofW (cc := cX1_hasQueueIn) (maxL := 2) (ret := (some .boolean)) (by decide) rfl ?_
  intro p e s m args below meth c s₁ B hml hv
  obtain ⟨rfl, hsz, hP, hK, hE⟩ := hv
  have hx := B.exec
  have hb := B.bytes
  have hr := B.returns
  have hts0 := atoms_spec (ws := tp_w yX1_hasQueueIn cX1_hasQueueIn 2 (some .boolean)) B.pre
  have hts : ∀ w ∈ tp_all, w.before _ s = true := fun w h => hts0 w (List.mem_cons_of_mem _ h)
  have hown : s.vm.findClass RX1 = some m.cls := findClass_of_methodNamed B.named
  have hlocks := B.notSynchronized
  subst hsz
  have hP := hP.self s.heap.size
  generalize hAe : mA (TW cy L tr a κ τ) s.heap.size = A at hP ⊢
  have hA : ∀ q : Nat, s.heap.size ≤ q → A q := fun q h => by rw [← hAe]; exact Or.inr h
  have hS : va_S A s.heap s.heap [] := va_S.rf
  have hl9 := lv_entry ([.ref (L 2 i), .int tk]) (n := 2) (Nat.le_of_ble_eq_true rfl)
  rw [lg_entry_eq]
  generalize (lg_sl ([.ref (L 2 i), .int tk]) ++ List.replicate (2 - (lg_sl ([.ref (L 2 i), .int tk])).length) Slot.unset).toArray = ls at hl9 ⊢
  have hl : lv_has ls 2 [(0, .ref (L 2 i)), (1, .int tk)] := hl9
  refine lv_aload_n hx hb dX1_hasQueueIn_0 rfl (lv_at hl 0 rfl) ?_
  refine va_get (D := (dC, dI)) (ws := [(L 2 i, .inr (1, [.int ((a 2 i) 0), .int ((a 2 i) 1), .int ((a 2 i) 2), .int ((a 2 i) 3), .int ((a 2 i) 4), .int ((a 2 i) 5), .int ((a 2 i) 6), .int ((a 2 i) 7), .int ((a 2 i) 8), .ref (L 3 i), .ref (L 5 i), .int ((a 2 i) 9), .int ((a 2 i) 10), .int ((a 2 i) 11), .int ((a 2 i) 12), .ref (L 7 i)]))]) (ci := 1) (v := .ref (L 5 i)) (C := RX1) (T := TX1) (N := 16) hx hb hts tl_X1 hown hK (hP.one (tw_mem (f := 2) (i := i) hi rfl)) 0 rfl rfl 10 (by decide) (hts _ tw_651) (fun _ h9 => h9) rfl dX1_hasQueueIn_1 ?_
  refine va_getN (D := (dC, dI)) (ws := [(L 5 i, .inr (3, [.ref (L 6 i), .int ((a 5 i) 0)]))]) (ci := 3) (v := .int ((a 5 i) 0)) (C := RX3) (T := TX3) (N := 2) hx hb hts tl_X3 hown hK (hP.one (tw_mem (f := 5) (i := i) hi rfl)) 0 rfl rfl 1 (by decide) (va_Nw.use rfl (te_f0 hE)) (fun _ h9 => h9) rfl dX1_hasQueueIn_4 ?_
  refine lv_if_le (tgt := 26) hx hb dX1_hasQueueIn_7 (by decide) (fun c_1 => ?_) (fun c_1 => ?_)
  · refine lv_iconst (v := 0) hx hb dX1_hasQueueIn_26 (by decide) ?_
    refine W.widen (k := 0) (n := 0) (Nat.le_of_ble_eq_true rfl) (Nat.le_of_ble_eq_true rfl) ?_
    have g_1 : 0 = L_has a i tk := by
      first | rfl | assumption | (simp only [L_has, if_pos c_1])
    exact W.zret (v := 0) hx hb hr rfl (fun t ht hW => ⟨⟨0, 0, rfl, rfl, ⟨g_1, by show mw _ _ _ _ t.heap; rw [ht]; exact hP⟩⟩, hS.F ht⟩) hS.2.2 dX1_hasQueueIn_27
  · refine lv_aload_n hx hb dX1_hasQueueIn_10 rfl (lv_at hl 0 rfl) ?_
    refine va_get (D := (dC, dI)) (ws := [(L 2 i, .inr (1, [.int ((a 2 i) 0), .int ((a 2 i) 1), .int ((a 2 i) 2), .int ((a 2 i) 3), .int ((a 2 i) 4), .int ((a 2 i) 5), .int ((a 2 i) 6), .int ((a 2 i) 7), .int ((a 2 i) 8), .ref (L 3 i), .ref (L 5 i), .int ((a 2 i) 9), .int ((a 2 i) 10), .int ((a 2 i) 11), .int ((a 2 i) 12), .ref (L 7 i)]))]) (ci := 1) (v := .ref (L 5 i)) (C := RX1) (T := TX1) (N := 16) hx hb hts tl_X1 hown hK (hP.one (tw_mem (f := 2) (i := i) hi rfl)) 0 rfl rfl 10 (by decide) (hts _ tw_651) (fun _ h9 => h9) rfl dX1_hasQueueIn_11 ?_
    refine lv_iconst (v := 0) hx hb dX1_hasQueueIn_14 (by decide) ?_
    have hFc := m_free (C := (TW cy L tr a κ τ)) hP hS hA (fun _ _ h => h)
    refine va_calli (va_runV (As := [.int 0]) (rest := []) ⟨hx, hb, hml, hown, hts⟩ (c_Row_get_ends l dC dI cy L tr a κ τ i 0 s.heap.size hT hi h5) (tp_cwV 1 hts tw_186 tw_187 tw_188 tw_24 tw_189 rfl rfl (by decide +kernel) ⟨Nat.le_of_ble_eq_true rfl, Nat.le_of_ble_eq_true rfl⟩) ⟨m_blind, va_recv hK (hP.one (e := .inr (3, [.ref (L 6 i), .int ((a 5 i) 0)])) (tw_mem (f := 5) (i := i) hi rfl)) (ci := 3) (q0 := 0) rfl rfl, fun U hU hW => ⟨rfl, m_pay hK hP hE (fun _ _ h => h) U hU hW⟩⟩ rfl rfl hl.1 rfl (lv_room (Nat.le_of_ble_eq_true rfl)) dX1_hasQueueIn_15 ⟨(Nat.le_of_ble_eq_true rfl), (Nat.le_of_ble_eq_true rfl)⟩) hS (fun q _ h => hFc q h) hFc (fun r_1 u t H1 locs ht hvm hw hB hz1 hk1 hS => ?_)
    obtain rfl := hw
    obtain ⟨f_1, hP1⟩ := hB
    subst f_1
    rw [ht] at hP1
    have hP : mw (dC, dI) vwCl A (TW cy L tr a κ τ) H1 := hP.join (fun _ _ h => h) hk1 hFc hP1 (fun _ _ h => Or.inl h)
    generalize H1 = H at hP hS ⊢
    clear hP1 hk1 hFc
    refine lv_iload_n hx hb dX1_hasQueueIn_18 rfl (lv_at hl 1 rfl) ?_
    refine lv_icmp_gt (tgt := 26) hx hb dX1_hasQueueIn_19 (by decide) (fun c_2 => ?_) (fun c_2 => ?_)
    · refine lv_iconst (v := 0) hx hb dX1_hasQueueIn_26 (by decide) ?_
      refine W.widen (k := 0) (n := 0) (Nat.le_of_ble_eq_true rfl) (Nat.le_of_ble_eq_true rfl) ?_
      have g_2 : 0 = L_has a i tk := by
        first | rfl | assumption | (simp only [L_has, if_neg c_1, if_pos c_2])
      exact W.zret (v := 0) hx hb hr rfl (fun t ht hW => ⟨⟨0, 0, rfl, rfl, ⟨g_2, by show mw _ _ _ _ t.heap; rw [ht]; exact hP⟩⟩, hS.F ht⟩) hS.2.2 dX1_hasQueueIn_27
    · refine lv_iconst (v := 1) hx hb dX1_hasQueueIn_22 (by decide) ?_
      refine lv_goto (tgt := 27) hx hb dX1_hasQueueIn_23 (by decide) ?_
      refine W.widen (k := 0) (n := 0) (Nat.le_of_ble_eq_true rfl) (Nat.le_of_ble_eq_true rfl) ?_
      have g_3 : 1 = L_has a i tk := by
        first | rfl | assumption | (simp only [L_has, if_neg c_1, if_neg c_2])
      exact W.zret (v := 1) hx hb hr rfl (fun t ht hW => ⟨⟨1, 1, rfl, rfl, ⟨g_3, by show mw _ _ _ _ t.heap; rw [ht]; exact hP⟩⟩, hS.F ht⟩) hS.2.2 dX1_hasQueueIn_27
set_option maxRecDepth 100000 in
set_option maxHeartbeats 4000000 in
/-- Link.queueIn -/
theorem c_Link_queueIn (l : Launch) (dC : Nat → ClassId) (dI : Nat → Nat → Nat) (cy : Nat → ClassId) (L : Lay) (tr : Option Nat) (a : St) (κ : Kap) (τ : Tau) (i : Nat) (tk : Int32) (sz : Nat) (hT : TL L tr τ) (hi : i < 24) (h5l : 0 ≤ (a 5 i 0).toInt) (h5 : (a 5 i 0).toInt ≤ 30) : Met l yX1_queueIn (tp_w yX1_queueIn cX1_queueIn 3 (some .int)) ({ frames := 1, cells := 0, slots := 0, locals := 21 }) (va_Pc [.ref (L 2 i), .int tk] (mPre dC dI cy (TW cy L tr a κ τ) sz)) (va_Qi (fun (r u : Int32) => r = u) (fun (u : Int32) (t : State) => (u = L_q a i tk) ∧ mw (dC, dI) vwCl (mA (TW cy L tr a κ τ) sz) (TW cy L tr a κ τ) t.heap) (mA (TW cy L tr a κ τ) sz)) (0) (0) (mA (TW cy L tr a κ τ) sz) := by
  refine Met.ofW (cc := cX1_queueIn) (maxL := 3) (ret := (some .int)) (by decide) rfl ?_
  intro p e s m args below meth c s₁ B hml hv
  obtain ⟨rfl, hsz, hP, hK, hE⟩ := hv
  have hx := B.exec
  have hb := B.bytes
  have hr := B.returns
  have hts0 := atoms_spec (ws := tp_w yX1_queueIn cX1_queueIn 3 (some .int)) B.pre
  have hts : ∀ w ∈ tp_all, w.before _ s = true := fun w h => hts0 w (List.mem_cons_of_mem _ h)
  have hown : s.vm.findClass RX1 = some m.cls := findClass_of_methodNamed B.named
  have hlocks := B.notSynchronized
  subst hsz
  have hP := hP.self s.heap.size
  generalize hAe : mA (TW cy L tr a κ τ) s.heap.size = A at hP ⊢
  have hA : ∀ q : Nat, s.heap.size ≤ q → A q := fun q h => by rw [← hAe]; exact Or.inr h
  have hS : va_S A s.heap s.heap [] := va_S.rf
  have hl9 := lv_entry ([.ref (L 2 i), .int tk]) (n := 3) (Nat.le_of_ble_eq_true rfl)
  rw [lg_entry_eq]
  generalize (lg_sl ([.ref (L 2 i), .int tk]) ++ List.replicate (3 - (lg_sl ([.ref (L 2 i), .int tk])).length) Slot.unset).toArray = ls at hl9 ⊢
  have hl : lv_has ls 3 [(0, .ref (L 2 i)), (1, .int tk)] := hl9
  refine lv_iconst (v := 0) hx hb dX1_queueIn_0 (by decide) ?_
  refine lv_istore_n (lv' := [(2, .int 0), (0, .ref (L 2 i)), (1, .int tk)]) hx hb dX1_queueIn_1 rfl hl (by decide) rfl (fun ls hl => ?_)
  have hn : a 5 i 0 = nI (a 5 i 0).toNatClampNeg := m_n0 h5l
  generalize hN : (a 5 i 0).toNatClampNeg = N at hn
  have hN30 : N ≤ 30 := by have h9 := m_tn h5l; omega
  suffices hloop : ∀ (d k : Nat), k + d = N → Q_in (a 6 i) tk d k = Q_in (a 6 i) tk N 0 → ∀ ls : Array Slot, lv_has ls 3 [(2, .int (nI k)), (0, .ref (L 2 i)), (1, .int tk)] → ∀ (H : Heap) (locs : List Loc), mw (dC, dI) vwCl A (TW cy L tr a κ τ) H → va_S A s.heap H locs → W p l e _ s m _ below meth c H locs 0 0 _ (F0 m 2 ls []) from hloop N 0 (by omega) rfl ls (lv_sub hl [0, 1, 2] rfl) _ _ hP hS
  clear hP hS hl hl9 ls
  intro d
  induction d with
  | zero =>
    intro k hk hq ls hl H locs hP hS
    refine lv_iload_n hx hb dX1_queueIn_2 rfl (lv_at hl 0 rfl) ?_
    refine lv_aload_n hx hb dX1_queueIn_3 rfl (lv_at hl 1 rfl) ?_
    refine va_get (D := (dC, dI)) (ws := [(L 2 i, .inr (1, [.int ((a 2 i) 0), .int ((a 2 i) 1), .int ((a 2 i) 2), .int ((a 2 i) 3), .int ((a 2 i) 4), .int ((a 2 i) 5), .int ((a 2 i) 6), .int ((a 2 i) 7), .int ((a 2 i) 8), .ref (L 3 i), .ref (L 5 i), .int ((a 2 i) 9), .int ((a 2 i) 10), .int ((a 2 i) 11), .int ((a 2 i) 12), .ref (L 7 i)]))]) (ci := 1) (v := .ref (L 5 i)) (C := RX1) (T := TX1) (N := 16) hx hb hts tl_X1 hown hK (hP.one (tw_mem (f := 2) (i := i) hi rfl)) 0 rfl rfl 10 (by decide) (hts _ tw_651) (fun _ h9 => h9) rfl dX1_queueIn_4 ?_
    refine va_getN (D := (dC, dI)) (ws := [(L 5 i, .inr (3, [.ref (L 6 i), .int ((a 5 i) 0)]))]) (ci := 3) (v := .int ((a 5 i) 0)) (C := RX3) (T := TX3) (N := 2) hx hb hts tl_X3 hown hK (hP.one (tw_mem (f := 5) (i := i) hi rfl)) 0 rfl rfl 1 (by decide) (va_Nw.use rfl (te_f0 hE)) (fun _ h9 => h9) rfl dX1_queueIn_7 ?_
    refine W.eq (g2 := F0 m 10 ls [.int (nI N), .int (nI k)]) (by rw [hn]) ?_
    have e9 : k = N := by omega
    refine lv_icmp_ge (tgt := 31) hx hb dX1_queueIn_10 (by decide) (fun _ => ?_) (fun c_1 => absurd (by rw [e9]; exact Int32.le_refl _) c_1)
    refine lv_iload_n hx hb dX1_queueIn_31 rfl (lv_at hl 0 rfl) ?_
    refine W.widen (k := 0) (n := 0) (Nat.le_of_ble_eq_true rfl) (Nat.le_of_ble_eq_true rfl) ?_
    have g_1 : (nI k) = L_q a i tk := by
      show nI k = nI (Q_in (a 6 i) tk (a 5 i 0).toNatClampNeg 0)
      rw [hN, ← hq]
      rfl
    exact W.iret (v := nI k) hx hb hr (fun t ht hW => ⟨⟨(nI k), (nI k), rfl, rfl, ⟨g_1, by show mw _ _ _ _ t.heap; rw [ht]; exact hP⟩⟩, hS.F ht⟩) hS.2.2 dX1_queueIn_32
  | succ d ih =>
    intro k hk hq ls hl H locs hP hS
    refine lv_iload_n hx hb dX1_queueIn_2 rfl (lv_at hl 0 rfl) ?_
    refine lv_aload_n hx hb dX1_queueIn_3 rfl (lv_at hl 1 rfl) ?_
    refine va_get (D := (dC, dI)) (ws := [(L 2 i, .inr (1, [.int ((a 2 i) 0), .int ((a 2 i) 1), .int ((a 2 i) 2), .int ((a 2 i) 3), .int ((a 2 i) 4), .int ((a 2 i) 5), .int ((a 2 i) 6), .int ((a 2 i) 7), .int ((a 2 i) 8), .ref (L 3 i), .ref (L 5 i), .int ((a 2 i) 9), .int ((a 2 i) 10), .int ((a 2 i) 11), .int ((a 2 i) 12), .ref (L 7 i)]))]) (ci := 1) (v := .ref (L 5 i)) (C := RX1) (T := TX1) (N := 16) hx hb hts tl_X1 hown hK (hP.one (tw_mem (f := 2) (i := i) hi rfl)) 0 rfl rfl 10 (by decide) (hts _ tw_651) (fun _ h9 => h9) rfl dX1_queueIn_4 ?_
    refine va_getN (D := (dC, dI)) (ws := [(L 5 i, .inr (3, [.ref (L 6 i), .int ((a 5 i) 0)]))]) (ci := 3) (v := .int ((a 5 i) 0)) (C := RX3) (T := TX3) (N := 2) hx hb hts tl_X3 hown hK (hP.one (tw_mem (f := 5) (i := i) hi rfl)) 0 rfl rfl 1 (by decide) (va_Nw.use rfl (te_f0 hE)) (fun _ h9 => h9) rfl dX1_queueIn_7 ?_
    refine W.eq (g2 := F0 m 10 ls [.int (nI N), .int (nI k)]) (by rw [hn]) ?_
    refine lv_icmp_ge (tgt := 31) hx hb dX1_queueIn_10 (by decide) (fun c_2 => absurd c_2 (nI_ge (by omega : k < N) (by omega))) (fun _ => ?_)
    refine lv_aload_n hx hb dX1_queueIn_13 rfl (lv_at hl 1 rfl) ?_
    refine va_get (D := (dC, dI)) (ws := [(L 2 i, .inr (1, [.int ((a 2 i) 0), .int ((a 2 i) 1), .int ((a 2 i) 2), .int ((a 2 i) 3), .int ((a 2 i) 4), .int ((a 2 i) 5), .int ((a 2 i) 6), .int ((a 2 i) 7), .int ((a 2 i) 8), .ref (L 3 i), .ref (L 5 i), .int ((a 2 i) 9), .int ((a 2 i) 10), .int ((a 2 i) 11), .int ((a 2 i) 12), .ref (L 7 i)]))]) (ci := 1) (v := .ref (L 5 i)) (C := RX1) (T := TX1) (N := 16) hx hb hts tl_X1 hown hK (hP.one (tw_mem (f := 2) (i := i) hi rfl)) 0 rfl rfl 10 (by decide) (hts _ tw_651) (fun _ h9 => h9) rfl dX1_queueIn_14 ?_
    refine lv_iload_n hx hb dX1_queueIn_17 rfl (lv_at hl 0 rfl) ?_
    have hFc := m_free (C := (TW cy L tr a κ τ)) hP hS hA (fun _ _ h => h)
    refine va_calli (va_runV (As := [.int (nI k)]) (rest := []) ⟨hx, hb, hml, hown, hts⟩ (c_Row_get_ends l dC dI cy L tr a κ τ i (nI k) H.size hT hi h5) (tp_cwV 1 hts tw_186 tw_187 tw_188 tw_24 tw_189 rfl rfl (by decide +kernel) ⟨Nat.le_of_ble_eq_true rfl, Nat.le_of_ble_eq_true rfl⟩) ⟨m_blind, va_recv hK (hP.one (e := .inr (3, [.ref (L 6 i), .int ((a 5 i) 0)])) (tw_mem (f := 5) (i := i) hi rfl)) (ci := 3) (q0 := 0) rfl rfl, fun U hU hW => ⟨rfl, m_pay hK hP hE (fun _ _ h => h) U hU hW⟩⟩ rfl rfl hl.1 rfl (lv_room (Nat.le_of_ble_eq_true rfl)) dX1_queueIn_18 ⟨(Nat.le_of_ble_eq_true rfl), (Nat.le_of_ble_eq_true rfl)⟩) hS (fun q _ h => hFc q h) hFc (fun r_1 u t H1 locs ht hvm hw hB hz1 hk1 hS => ?_)
    obtain rfl := hw
    obtain ⟨f_1, hP1⟩ := hB
    subst f_1
    rw [ht] at hP1
    have hP : mw (dC, dI) vwCl A (TW cy L tr a κ τ) H1 := hP.join (fun _ _ h => h) hk1 hFc hP1 (fun _ _ h => Or.inl h)
    generalize H1 = H at hP hS ⊢
    clear hP1 hk1 hFc
    have hg : R_get (a 5 i 0) (a 6 i) (nI k) = a 6 i k := by
      unfold R_get
      rw [if_neg (nI_pos (by omega)), hn, if_neg (nI_ge (by omega : k < N) (by omega)), nI_clamp (by omega)]
    refine W.eq (g2 := F0 m 21 ls [.int (a 6 i k)]) (by rw [hg]) ?_
    refine lv_iload_n hx hb dX1_queueIn_21 rfl (lv_at hl 2 rfl) ?_
    refine lv_icmp_gt (tgt := 31) hx hb dX1_queueIn_22 (by decide) (fun c_3 => ?_) (fun c_3 => ?_)
    · refine lv_iload_n hx hb dX1_queueIn_31 rfl (lv_at hl 0 rfl) ?_
      refine W.widen (k := 0) (n := 0) (Nat.le_of_ble_eq_true rfl) (Nat.le_of_ble_eq_true rfl) ?_
      have g_2 : (nI k) = L_q a i tk := by
        show nI k = nI (Q_in (a 6 i) tk (a 5 i 0).toNatClampNeg 0)
        rw [hN, ← hq]
        show _ = nI (if tk < a 6 i k then k else _)
        rw [if_pos c_3]
      exact W.iret (v := nI k) hx hb hr (fun t ht hW => ⟨⟨(nI k), (nI k), rfl, rfl, ⟨g_2, by show mw _ _ _ _ t.heap; rw [ht]; exact hP⟩⟩, hS.F ht⟩) hS.2.2 dX1_queueIn_32
    · refine lv_iinc (v := nI (k + 1)) (lv' := [(2, .int (nI (k + 1))), (0, .ref (L 2 i)), (1, .int tk)]) hx hb dX1_queueIn_25 hl (k := 0) rfl (nI_1 k) (by decide) rfl (fun ls hl => ?_)
      refine lv_goto (tgt := 2) hx hb dX1_queueIn_28 (by decide) ?_
      exact ih (k + 1) (by omega) (by rw [← hq]; show _ = if tk < a 6 i k then k else _; rw [if_neg c_3]) ls hl H locs hP hS
set_option maxRecDepth 100000 in
set_option maxHeartbeats 4000000 in
/-- Link.costIn -/
theorem c_Link_costIn (l : Launch) (dC : Nat → ClassId) (dI : Nat → Nat → Nat) (cy : Nat → ClassId) (L : Lay) (tr : Option Nat) (a : St) (κ : Kap) (τ : Tau) (i : Nat) (tk : Int32) (sz : Nat) (hT : TL L tr τ) (hi : i < 24) (h5l : 0 ≤ (a 5 i 0).toInt) (h5 : (a 5 i 0).toInt ≤ 30) : Met l yX1_costIn (tp_w yX1_costIn cX1_costIn 3 (some .int)) ({ frames := 2, cells := 0, slots := 0, locals := 43 }) (va_Pc [.ref (L 2 i), .int tk] (mPre dC dI cy (TW cy L tr a κ τ) sz)) (va_Qi (fun (r u : Int32) => r = u) (fun (u : Int32) (t : State) => (u = L_cost a i tk) ∧ mw (dC, dI) vwCl (mA (TW cy L tr a κ τ) sz) (TW cy L tr a κ τ) t.heap) (mA (TW cy L tr a κ τ) sz)) (0) (0) (mA (TW cy L tr a κ τ) sz) := by
  refine Met.ofW (cc := cX1_costIn) (maxL := 3) (ret := (some .int)) (by decide) rfl ?_
  intro p e s m args below meth c s₁ B hml hv
  obtain ⟨rfl, hsz, hP, hK, hE⟩ := hv
  have hx := B.exec
  have hb := B.bytes
  have hr := B.returns
  have hts0 := atoms_spec (ws := tp_w yX1_costIn cX1_costIn 3 (some .int)) B.pre
  have hts : ∀ w ∈ tp_all, w.before _ s = true := fun w h => hts0 w (List.mem_cons_of_mem _ h)
  have hown : s.vm.findClass RX1 = some m.cls := findClass_of_methodNamed B.named
  have hlocks := B.notSynchronized
  subst hsz
  have hP := hP.self s.heap.size
  generalize hAe : mA (TW cy L tr a κ τ) s.heap.size = A at hP ⊢
  have hA : ∀ q : Nat, s.heap.size ≤ q → A q := fun q h => by rw [← hAe]; exact Or.inr h
  have hS : va_S A s.heap s.heap [] := va_S.rf
  have hl9 := lv_entry ([.ref (L 2 i), .int tk]) (n := 3) (Nat.le_of_ble_eq_true rfl)
  rw [lg_entry_eq]
  generalize (lg_sl ([.ref (L 2 i), .int tk]) ++ List.replicate (3 - (lg_sl ([.ref (L 2 i), .int tk])).length) Slot.unset).toArray = ls at hl9 ⊢
  have hl : lv_has ls 3 [(0, .ref (L 2 i)), (1, .int tk)] := hl9
  refine lv_aload_n hx hb dX1_costIn_0 rfl (lv_at hl 0 rfl) ?_
  refine lv_iload_n hx hb dX1_costIn_1 rfl (lv_at hl 1 rfl) ?_
  have hFc := m_free (C := (TW cy L tr a κ τ)) hP hS hA (fun _ _ h => h)
  refine va_calli (va_runV (As := [.int tk]) (rest := []) ⟨hx, hb, hml, hown, hts⟩ (c_Link_queueIn l dC dI cy L tr a κ τ i tk s.heap.size hT hi h5l h5) (tp_cwV 1 hts tw_182 tw_183 tw_184 tw_23 tw_185 rfl rfl (by decide +kernel) ⟨Nat.le_of_ble_eq_true rfl, Nat.le_of_ble_eq_true rfl⟩) ⟨m_blind, va_recv hK (hP.one (e := .inr (1, [.int ((a 2 i) 0), .int ((a 2 i) 1), .int ((a 2 i) 2), .int ((a 2 i) 3), .int ((a 2 i) 4), .int ((a 2 i) 5), .int ((a 2 i) 6), .int ((a 2 i) 7), .int ((a 2 i) 8), .ref (L 3 i), .ref (L 5 i), .int ((a 2 i) 9), .int ((a 2 i) 10), .int ((a 2 i) 11), .int ((a 2 i) 12), .ref (L 7 i)])) (tw_mem (f := 2) (i := i) hi rfl)) (ci := 1) (q0 := 0) rfl rfl, fun U hU hW => ⟨rfl, m_pay hK hP hE (fun _ _ h => h) U hU hW⟩⟩ rfl rfl hl.1 rfl (lv_room (Nat.le_of_ble_eq_true rfl)) dX1_costIn_2 ⟨(Nat.le_of_ble_eq_true rfl), (Nat.le_of_ble_eq_true rfl)⟩) hS (fun q _ h => hFc q h) hFc (fun r_1 u t H1 locs ht hvm hw hB hz1 hk1 hS => ?_)
  obtain rfl := hw
  obtain ⟨f_1, hP1⟩ := hB
  subst f_1
  rw [ht] at hP1
  have hP : mw (dC, dI) vwCl A (TW cy L tr a κ τ) H1 := hP.join (fun _ _ h => h) hk1 hFc hP1 (fun _ _ h => Or.inl h)
  generalize H1 = H at hP hS ⊢
  clear hP1 hk1 hFc
  refine lv_istore_n (lv' := [(2, .int (L_q a i tk)), (0, .ref (L 2 i)), (1, .int tk)]) hx hb dX1_costIn_5 rfl hl (by decide) rfl (fun ls hl => ?_)
  refine lv_aload_n hx hb dX1_costIn_6 rfl (lv_at hl 1 rfl) ?_
  refine va_get (D := (dC, dI)) (ws := [(L 2 i, .inr (1, [.int ((a 2 i) 0), .int ((a 2 i) 1), .int ((a 2 i) 2), .int ((a 2 i) 3), .int ((a 2 i) 4), .int ((a 2 i) 5), .int ((a 2 i) 6), .int ((a 2 i) 7), .int ((a 2 i) 8), .ref (L 3 i), .ref (L 5 i), .int ((a 2 i) 9), .int ((a 2 i) 10), .int ((a 2 i) 11), .int ((a 2 i) 12), .ref (L 7 i)]))]) (ci := 1) (v := .int ((a 2 i) 2)) (C := RX1) (T := TX1) (N := 16) hx hb hts tl_X1 hown hK (hP.one (tw_mem (f := 2) (i := i) hi rfl)) 0 rfl rfl 2 (by decide) (hts _ tw_630) (fun _ h9 => h9) rfl dX1_costIn_7 ?_
  refine lv_aload_n hx hb dX1_costIn_10 rfl (lv_at hl 1 rfl) ?_
  refine va_get (D := (dC, dI)) (ws := [(L 2 i, .inr (1, [.int ((a 2 i) 0), .int ((a 2 i) 1), .int ((a 2 i) 2), .int ((a 2 i) 3), .int ((a 2 i) 4), .int ((a 2 i) 5), .int ((a 2 i) 6), .int ((a 2 i) 7), .int ((a 2 i) 8), .ref (L 3 i), .ref (L 5 i), .int ((a 2 i) 9), .int ((a 2 i) 10), .int ((a 2 i) 11), .int ((a 2 i) 12), .ref (L 7 i)]))]) (ci := 1) (v := .int ((a 2 i) 5)) (C := RX1) (T := TX1) (N := 16) hx hb hts tl_X1 hown hK (hP.one (tw_mem (f := 2) (i := i) hi rfl)) 0 rfl rfl 5 (by decide) (hts _ tw_636) (fun _ h9 => h9) rfl dX1_costIn_11 ?_
  refine lv_if_le (tgt := 33) hx hb dX1_costIn_14 (by decide) (fun c_1 => ?_) (fun c_1 => ?_)
  · refine lv_bipush (v := 10) hx hb dX1_costIn_33 (by decide) ?_
    refine lv_iload_n hx hb dX1_costIn_35 rfl (lv_at hl 0 rfl) ?_
    refine lv_imul hx hb dX1_costIn_36 ?_
    refine lv_iadd hx hb dX1_costIn_37 ?_
    refine W.widen (k := 0) (n := 0) (Nat.le_of_ble_eq_true rfl) (Nat.le_of_ble_eq_true rfl) ?_
    have g_1 : (((a 2 i) 2) + (10 * (L_q a i tk))) = L_cost a i tk := by
      first | rfl | assumption | (simp only [L_cost, if_pos c_1])
    exact W.iret (v := ((a 2 i) 2) + (10 * (L_q a i tk))) hx hb hr (fun t ht hW => ⟨⟨(((a 2 i) 2) + (10 * (L_q a i tk))), (((a 2 i) 2) + (10 * (L_q a i tk))), rfl, rfl, ⟨g_1, by show mw _ _ _ _ t.heap; rw [ht]; exact hP⟩⟩, hS.F ht⟩) hS.2.2 dX1_costIn_38
  · refine lv_iload_n hx hb dX1_costIn_17 rfl (lv_at hl 0 rfl) ?_
    refine lv_aload_n hx hb dX1_costIn_18 rfl (lv_at hl 1 rfl) ?_
    refine va_get (D := (dC, dI)) (ws := [(L 2 i, .inr (1, [.int ((a 2 i) 0), .int ((a 2 i) 1), .int ((a 2 i) 2), .int ((a 2 i) 3), .int ((a 2 i) 4), .int ((a 2 i) 5), .int ((a 2 i) 6), .int ((a 2 i) 7), .int ((a 2 i) 8), .ref (L 3 i), .ref (L 5 i), .int ((a 2 i) 9), .int ((a 2 i) 10), .int ((a 2 i) 11), .int ((a 2 i) 12), .ref (L 7 i)]))]) (ci := 1) (v := .int ((a 2 i) 5)) (C := RX1) (T := TX1) (N := 16) hx hb hts tl_X1 hown hK (hP.one (tw_mem (f := 2) (i := i) hi rfl)) 0 rfl rfl 5 (by decide) (hts _ tw_636) (fun _ h9 => h9) rfl dX1_costIn_19 ?_
    refine lv_iadd hx hb dX1_costIn_22 ?_
    refine lv_iconst (v := 1) hx hb dX1_costIn_23 (by decide) ?_
    refine lv_isub hx hb dX1_costIn_24 ?_
    refine lv_aload_n hx hb dX1_costIn_25 rfl (lv_at hl 1 rfl) ?_
    refine va_get (D := (dC, dI)) (ws := [(L 2 i, .inr (1, [.int ((a 2 i) 0), .int ((a 2 i) 1), .int ((a 2 i) 2), .int ((a 2 i) 3), .int ((a 2 i) 4), .int ((a 2 i) 5), .int ((a 2 i) 6), .int ((a 2 i) 7), .int ((a 2 i) 8), .ref (L 3 i), .ref (L 5 i), .int ((a 2 i) 9), .int ((a 2 i) 10), .int ((a 2 i) 11), .int ((a 2 i) 12), .ref (L 7 i)]))]) (ci := 1) (v := .int ((a 2 i) 5)) (C := RX1) (T := TX1) (N := 16) hx hb hts tl_X1 hown hK (hP.one (tw_mem (f := 2) (i := i) hi rfl)) 0 rfl rfl 5 (by decide) (hts _ tw_636) (fun _ h9 => h9) rfl dX1_costIn_26 ?_
    refine lv_idiv hx hb dX1_costIn_29 (m_ne0 c_1) ?_
    refine lv_goto (tgt := 37) hx hb dX1_costIn_30 (by decide) ?_
    refine lv_iadd hx hb dX1_costIn_37 ?_
    refine W.widen (k := 0) (n := 0) (Nat.le_of_ble_eq_true rfl) (Nat.le_of_ble_eq_true rfl) ?_
    have g_2 : (((a 2 i) 2) + ((((L_q a i tk) + ((a 2 i) 5)) - 1) / ((a 2 i) 5))) = L_cost a i tk := by
      first | rfl | assumption | (simp only [L_cost, if_neg c_1])
    exact W.iret (v := ((a 2 i) 2) + ((((L_q a i tk) + ((a 2 i) 5)) - 1) / ((a 2 i) 5))) hx hb hr (fun t ht hW => ⟨⟨(((a 2 i) 2) + ((((L_q a i tk) + ((a 2 i) 5)) - 1) / ((a 2 i) 5))), (((a 2 i) 2) + ((((L_q a i tk) + ((a 2 i) 5)) - 1) / ((a 2 i) 5))), rfl, rfl, ⟨g_2, by show mw _ _ _ _ t.heap; rw [ht]; exact hP⟩⟩, hS.F ht⟩) hS.2.2 dX1_costIn_38
set_option maxRecDepth 100000 in
set_option maxHeartbeats 4000000 in
/-- Link.isOpen -/
theorem c_Link_isOpen (l : Launch) (dC : Nat → ClassId) (dI : Nat → Nat → Nat) (cy : Nat → ClassId) (L : Lay) (tr : Option Nat) (a : St) (κ : Kap) (τ : Tau) (i : Nat) (sz : Nat) (hT : TL L tr τ) (hi : i < 24) : Met l yX1_isOpen (tp_w yX1_isOpen cX1_isOpen 1 (some .boolean)) ({ frames := 0, cells := 0, slots := 0, locals := 0 }) (va_Pc [.ref (L 2 i)] (mPre dC dI cy (TW cy L tr a κ τ) sz)) (va_Qi (fun (r u : Int32) => r = u) (fun (u : Int32) (t : State) => (u = L_open a i) ∧ mw (dC, dI) vwCl (mA (TW cy L tr a κ τ) sz) (TW cy L tr a κ τ) t.heap) (mA (TW cy L tr a κ τ) sz)) (0) (0) (mA (TW cy L tr a κ τ) sz) := by
  refine Met.ofW (cc := cX1_isOpen) (maxL := 1) (ret := (some .boolean)) (by decide) rfl ?_
  intro p e s m args below meth c s₁ B hml hv
  obtain ⟨rfl, hsz, hP, hK, hE⟩ := hv
  have hx := B.exec
  have hb := B.bytes
  have hr := B.returns
  have hts0 := atoms_spec (ws := tp_w yX1_isOpen cX1_isOpen 1 (some .boolean)) B.pre
  have hts : ∀ w ∈ tp_all, w.before _ s = true := fun w h => hts0 w (List.mem_cons_of_mem _ h)
  have hown : s.vm.findClass RX1 = some m.cls := findClass_of_methodNamed B.named
  have hlocks := B.notSynchronized
  subst hsz
  have hP := hP.self s.heap.size
  generalize hAe : mA (TW cy L tr a κ τ) s.heap.size = A at hP ⊢
  have hA : ∀ q : Nat, s.heap.size ≤ q → A q := fun q h => by rw [← hAe]; exact Or.inr h
  have hS : va_S A s.heap s.heap [] := va_S.rf
  have hl9 := lv_entry ([.ref (L 2 i)]) (n := 1) (Nat.le_of_ble_eq_true rfl)
  rw [lg_entry_eq]
  generalize (lg_sl ([.ref (L 2 i)]) ++ List.replicate (1 - (lg_sl ([.ref (L 2 i)])).length) Slot.unset).toArray = ls at hl9 ⊢
  have hl : lv_has ls 1 [(0, .ref (L 2 i))] := hl9
  refine lv_aload_n hx hb dX1_isOpen_0 rfl (lv_at hl 0 rfl) ?_
  refine va_get (D := (dC, dI)) (ws := [(L 2 i, .inr (1, [.int ((a 2 i) 0), .int ((a 2 i) 1), .int ((a 2 i) 2), .int ((a 2 i) 3), .int ((a 2 i) 4), .int ((a 2 i) 5), .int ((a 2 i) 6), .int ((a 2 i) 7), .int ((a 2 i) 8), .ref (L 3 i), .ref (L 5 i), .int ((a 2 i) 9), .int ((a 2 i) 10), .int ((a 2 i) 11), .int ((a 2 i) 12), .ref (L 7 i)]))]) (ci := 1) (v := .int ((a 2 i) 7)) (C := RX1) (T := TX1) (N := 16) hx hb hts tl_X1 hown hK (hP.one (tw_mem (f := 2) (i := i) hi rfl)) 0 rfl rfl 7 (by decide) (hts _ tw_642) (fun _ h9 => h9) rfl dX1_isOpen_1 ?_
  refine lv_if_ne (tgt := 25) hx hb dX1_isOpen_4 (by decide) (fun c_1 => ?_) (fun c_1 => ?_)
  · refine lv_iconst (v := 0) hx hb dX1_isOpen_25 (by decide) ?_
    refine W.widen (k := 0) (n := 0) (Nat.le_of_ble_eq_true rfl) (Nat.le_of_ble_eq_true rfl) ?_
    have g_1 : 0 = L_open a i := by
      first | rfl | assumption | (simp only [L_open, if_neg c_1])
    exact W.zret (v := 0) hx hb hr rfl (fun t ht hW => ⟨⟨0, 0, rfl, rfl, ⟨g_1, by show mw _ _ _ _ t.heap; rw [ht]; exact hP⟩⟩, hS.F ht⟩) hS.2.2 dX1_isOpen_26
  · refine lv_aload_n hx hb dX1_isOpen_7 rfl (lv_at hl 0 rfl) ?_
    refine va_get (D := (dC, dI)) (ws := [(L 2 i, .inr (1, [.int ((a 2 i) 0), .int ((a 2 i) 1), .int ((a 2 i) 2), .int ((a 2 i) 3), .int ((a 2 i) 4), .int ((a 2 i) 5), .int ((a 2 i) 6), .int ((a 2 i) 7), .int ((a 2 i) 8), .ref (L 3 i), .ref (L 5 i), .int ((a 2 i) 9), .int ((a 2 i) 10), .int ((a 2 i) 11), .int ((a 2 i) 12), .ref (L 7 i)]))]) (ci := 1) (v := .ref (L 3 i)) (C := RX1) (T := TX1) (N := 16) hx hb hts tl_X1 hown hK (hP.one (tw_mem (f := 2) (i := i) hi rfl)) 0 rfl rfl 9 (by decide) (hts _ tw_648) (fun _ h9 => h9) rfl dX1_isOpen_8 ?_
    refine va_getN (D := (dC, dI)) (ws := [(L 3 i, .inr (3, [.ref (L 4 i), .int ((a 3 i) 0)]))]) (ci := 3) (v := .int ((a 3 i) 0)) (C := RX3) (T := TX3) (N := 2) hx hb hts tl_X3 hown hK (hP.one (tw_mem (f := 3) (i := i) hi rfl)) 0 rfl rfl 1 (by decide) (va_Nw.use rfl (te_f0 hE)) (fun _ h9 => h9) rfl dX1_isOpen_11 ?_
    refine lv_aload_n hx hb dX1_isOpen_14 rfl (lv_at hl 0 rfl) ?_
    refine va_get (D := (dC, dI)) (ws := [(L 2 i, .inr (1, [.int ((a 2 i) 0), .int ((a 2 i) 1), .int ((a 2 i) 2), .int ((a 2 i) 3), .int ((a 2 i) 4), .int ((a 2 i) 5), .int ((a 2 i) 6), .int ((a 2 i) 7), .int ((a 2 i) 8), .ref (L 3 i), .ref (L 5 i), .int ((a 2 i) 9), .int ((a 2 i) 10), .int ((a 2 i) 11), .int ((a 2 i) 12), .ref (L 7 i)]))]) (ci := 1) (v := .int ((a 2 i) 3)) (C := RX1) (T := TX1) (N := 16) hx hb hts tl_X1 hown hK (hP.one (tw_mem (f := 2) (i := i) hi rfl)) 0 rfl rfl 3 (by decide) (hts _ tw_633) (fun _ h9 => h9) rfl dX1_isOpen_15 ?_
    refine lv_icmp_ge (tgt := 25) hx hb dX1_isOpen_18 (by decide) (fun c_2 => ?_) (fun c_2 => ?_)
    · refine lv_iconst (v := 0) hx hb dX1_isOpen_25 (by decide) ?_
      refine W.widen (k := 0) (n := 0) (Nat.le_of_ble_eq_true rfl) (Nat.le_of_ble_eq_true rfl) ?_
      have g_2 : 0 = L_open a i := by
        first | rfl | assumption | (simp only [L_open, if_pos c_1, if_pos c_2])
      exact W.zret (v := 0) hx hb hr rfl (fun t ht hW => ⟨⟨0, 0, rfl, rfl, ⟨g_2, by show mw _ _ _ _ t.heap; rw [ht]; exact hP⟩⟩, hS.F ht⟩) hS.2.2 dX1_isOpen_26
    · refine lv_iconst (v := 1) hx hb dX1_isOpen_21 (by decide) ?_
      refine lv_goto (tgt := 26) hx hb dX1_isOpen_22 (by decide) ?_
      refine W.widen (k := 0) (n := 0) (Nat.le_of_ble_eq_true rfl) (Nat.le_of_ble_eq_true rfl) ?_
      have g_3 : 1 = L_open a i := by
        first | rfl | assumption | (simp only [L_open, if_pos c_1, if_neg c_2])
      exact W.zret (v := 1) hx hb hr rfl (fun t ht hW => ⟨⟨1, 1, rfl, rfl, ⟨g_3, by show mw _ _ _ _ t.heap; rw [ht]; exact hP⟩⟩, hS.F ht⟩) hS.2.2 dX1_isOpen_26
set_option maxRecDepth 100000 in
set_option maxHeartbeats 4000000 in
/-- Link.takeIn -/
theorem c_Link_takeIn (l : Launch) (dC : Nat → ClassId) (dI : Nat → Nat → Nat) (cy : Nat → ClassId) (L : Lay) (tr : Option Nat) (a : St) (κ : Kap) (τ : Tau) (i : Nat) (v : Int32) (en : Int32) (sz : Nat) (hT : TL L tr τ) (hi : i < 24) (h3l : 0 ≤ (a 3 i 0).toInt) (h5l : 0 ≤ (a 5 i 0).toInt) : Met l yX1_takeIn (tp_w yX1_takeIn cX1_takeIn 3 none) ({ frames := 1, cells := 0, slots := 0, locals := 21 }) (va_Pc [.ref (L 2 i), .int v, .int en] (mPre dC dI cy (TW cy L tr a κ τ) sz)) (va_Qv (fun _ : Unit => True) (fun (_ : Unit) (t : State) => mw (dC, dI) vwCl (mA (TW cy L tr a κ τ) sz) (TW cy L tr (L_take a i v en) κ τ) t.heap) (mA (TW cy L tr a κ τ) sz)) (0) (0) (mA (TW cy L tr a κ τ) sz) := by
  refine Met.ofW (cc := cX1_takeIn) (maxL := 3) (ret := none) (by decide) rfl ?_
  intro p e s m args below meth c s₁ B hml hv
  obtain ⟨rfl, hsz, hP, hK, hE⟩ := hv
  have hx := B.exec
  have hb := B.bytes
  have hr := B.returns
  have hts0 := atoms_spec (ws := tp_w yX1_takeIn cX1_takeIn 3 none) B.pre
  have hts : ∀ w ∈ tp_all, w.before _ s = true := fun w h => hts0 w (List.mem_cons_of_mem _ h)
  have hown : s.vm.findClass RX1 = some m.cls := findClass_of_methodNamed B.named
  have hlocks := B.notSynchronized
  subst hsz
  have hP := hP.self s.heap.size
  generalize hAe : mA (TW cy L tr a κ τ) s.heap.size = A at hP ⊢
  have hA : ∀ q : Nat, s.heap.size ≤ q → A q := fun q h => by rw [← hAe]; exact Or.inr h
  have hS : va_S A s.heap s.heap [] := va_S.rf
  have hl9 := lv_entry ([.ref (L 2 i), .int v, .int en]) (n := 3) (Nat.le_of_ble_eq_true rfl)
  rw [lg_entry_eq]
  generalize (lg_sl ([.ref (L 2 i), .int v, .int en]) ++ List.replicate (3 - (lg_sl ([.ref (L 2 i), .int v, .int en])).length) Slot.unset).toArray = ls at hl9 ⊢
  have hl : lv_has ls 3 [(0, .ref (L 2 i)), (1, .int v), (2, .int en)] := hl9
  refine lv_aload_n hx hb dX1_takeIn_0 rfl (lv_at hl 0 rfl) ?_
  refine va_get (D := (dC, dI)) (ws := [(L 2 i, .inr (1, [.int ((a 2 i) 0), .int ((a 2 i) 1), .int ((a 2 i) 2), .int ((a 2 i) 3), .int ((a 2 i) 4), .int ((a 2 i) 5), .int ((a 2 i) 6), .int ((a 2 i) 7), .int ((a 2 i) 8), .ref (L 3 i), .ref (L 5 i), .int ((a 2 i) 9), .int ((a 2 i) 10), .int ((a 2 i) 11), .int ((a 2 i) 12), .ref (L 7 i)]))]) (ci := 1) (v := .ref (L 3 i)) (C := RX1) (T := TX1) (N := 16) hx hb hts tl_X1 hown hK (hP.one (tw_mem (f := 2) (i := i) hi rfl)) 0 rfl rfl 9 (by decide) (hts _ tw_648) (fun _ h9 => h9) rfl dX1_takeIn_1 ?_
  refine lv_iload_n hx hb dX1_takeIn_4 rfl (lv_at hl 1 rfl) ?_
  have hFc := m_free (C := (TW cy L tr a κ τ)) hP hS hA (fun _ _ h => h)
  refine va_callv (va_runV (As := [.int v]) (rest := []) ⟨hx, hb, hml, hown, hts⟩ (c_Row_append_row l dC dI cy L tr a κ τ i v s.heap.size hT hi h3l) (tp_cwV 1 hts tw_320 tw_229 tw_230 tw_24 tw_231 rfl rfl (by decide +kernel) ⟨Nat.le_of_ble_eq_true rfl, Nat.le_of_ble_eq_true rfl⟩) ⟨m_blind, va_recv hK (hP.one (e := .inr (3, [.ref (L 4 i), .int ((a 3 i) 0)])) (tw_mem (f := 3) (i := i) hi rfl)) (ci := 3) (q0 := 0) rfl rfl, fun U hU hW => ⟨rfl, m_pay hK hP hE (fun _ _ h => h) U hU hW⟩⟩ rfl rfl hl.1 rfl (lv_room (Nat.le_of_ble_eq_true rfl)) dX1_takeIn_5 ⟨(Nat.le_of_ble_eq_true rfl), (Nat.le_of_ble_eq_true rfl)⟩) hS (fun q _ h => hFc q h) hFc (fun u t H1 locs ht hvm hw hB hz1 hk1 hS => ?_)
  have hP1 := hB
  rw [ht] at hP1
  have hP : mw (dC, dI) vwCl A (TW cy L tr (R_app 3 4 30 a i v) κ τ) H1 := hP.join (fun _ _ h => h) hk1 hFc hP1 (fun _ _ h => Or.inl h)
  generalize H1 = H at hP hS ⊢
  clear hP1 hk1 hFc
  obtain ⟨b1, eb1⟩ : ∃ z : St, z = R_app 3 4 30 a i v := ⟨_, rfl⟩
  rw [← eb1] at hP
  refine lv_aload_n hx hb dX1_takeIn_8 rfl (lv_at hl 0 rfl) ?_
  refine va_get (D := (dC, dI)) (ws := [(L 2 i, .inr (1, [.int ((b1 2 i) 0), .int ((b1 2 i) 1), .int ((b1 2 i) 2), .int ((b1 2 i) 3), .int ((b1 2 i) 4), .int ((b1 2 i) 5), .int ((b1 2 i) 6), .int ((b1 2 i) 7), .int ((b1 2 i) 8), .ref (L 3 i), .ref (L 5 i), .int ((b1 2 i) 9), .int ((b1 2 i) 10), .int ((b1 2 i) 11), .int ((b1 2 i) 12), .ref (L 7 i)]))]) (ci := 1) (v := .ref (L 5 i)) (C := RX1) (T := TX1) (N := 16) hx hb hts tl_X1 hown hK (hP.one (tw_mem (f := 2) (i := i) hi rfl)) 0 rfl rfl 10 (by decide) (hts _ tw_651) (fun _ h9 => h9) rfl dX1_takeIn_9 ?_
  refine lv_iload_n hx hb dX1_takeIn_12 rfl (lv_at hl 2 rfl) ?_
  have hFc := m_free (C := (TW cy L tr b1 κ τ)) hP hS hA (fun _ _ h => h)
  refine va_callv (va_runV (As := [.int en]) (rest := []) ⟨hx, hb, hml, hown, hts⟩ (c_Row_append_ends l dC dI cy L tr b1 κ τ i en H.size hT hi (by rw [eb1, R_app_off (by decide) (by decide)]; exact h5l)) (tp_cwV 1 hts tw_320 tw_229 tw_230 tw_24 tw_231 rfl rfl (by decide +kernel) ⟨Nat.le_of_ble_eq_true rfl, Nat.le_of_ble_eq_true rfl⟩) ⟨m_blind, va_recv hK (hP.one (e := .inr (3, [.ref (L 6 i), .int ((b1 5 i) 0)])) (tw_mem (f := 5) (i := i) hi rfl)) (ci := 3) (q0 := 0) rfl rfl, fun U hU hW => ⟨rfl, m_pay hK hP hE (fun _ _ h => h) U hU hW⟩⟩ rfl rfl hl.1 rfl (lv_room (Nat.le_of_ble_eq_true rfl)) dX1_takeIn_13 ⟨(Nat.le_of_ble_eq_true rfl), (Nat.le_of_ble_eq_true rfl)⟩) hS (fun q _ h => hFc q h) hFc (fun u t H1 locs ht hvm hw hB hz1 hk1 hS => ?_)
  have hP1 := hB
  rw [ht] at hP1
  have hP : mw (dC, dI) vwCl A (TW cy L tr (R_app 5 6 30 b1 i en) κ τ) H1 := hP.join (fun _ _ h => h) hk1 hFc hP1 (fun _ _ h => Or.inl h)
  generalize H1 = H at hP hS ⊢
  clear hP1 hk1 hFc
  obtain ⟨b2, eb2⟩ : ∃ z : St, z = R_app 5 6 30 b1 i en := ⟨_, rfl⟩
  rw [← eb2] at hP
  refine lv_aload_n hx hb dX1_takeIn_16 rfl (lv_at hl 0 rfl) ?_
  refine lv_dup hx hb dX1_takeIn_17 rfl ?_
  refine va_get (D := (dC, dI)) (ws := [(L 2 i, .inr (1, [.int ((b2 2 i) 0), .int ((b2 2 i) 1), .int ((b2 2 i) 2), .int ((b2 2 i) 3), .int ((b2 2 i) 4), .int ((b2 2 i) 5), .int ((b2 2 i) 6), .int ((b2 2 i) 7), .int ((b2 2 i) 8), .ref (L 3 i), .ref (L 5 i), .int ((b2 2 i) 9), .int ((b2 2 i) 10), .int ((b2 2 i) 11), .int ((b2 2 i) 12), .ref (L 7 i)]))]) (ci := 1) (v := .int ((b2 2 i) 9)) (C := RX1) (T := TX1) (N := 16) hx hb hts tl_X1 hown hK (hP.one (tw_mem (f := 2) (i := i) hi rfl)) 0 rfl rfl 11 (by decide) (hts _ tw_652) (fun _ h9 => h9) rfl dX1_takeIn_18 ?_
  refine lv_iconst (v := 1) hx hb dX1_takeIn_21 (by decide) ?_
  refine lv_iadd hx hb dX1_takeIn_22 ?_
  obtain ⟨ws9, k9, hPw, hDw, hk9, -, hbk⟩ := hP.cut (e := .inr (1, [.int ((b2 2 i) 0), .int ((b2 2 i) 1), .int ((b2 2 i) 2), .int ((b2 2 i) 3), .int ((b2 2 i) 4), .int ((b2 2 i) 5), .int ((b2 2 i) 6), .int ((b2 2 i) 7), .int ((b2 2 i) 8), .ref (L 3 i), .ref (L 5 i), .int ((b2 2 i) 9), .int ((b2 2 i) 10), .int ((b2 2 i) 11), .int ((b2 2 i) 12), .ref (L 7 i)])) (tw_mem (f := 2) (i := i) hi rfl)
  refine va_put (D := (dC, dI)) (ci := 1) (v := .int (((b2 2 i) 9) + 1)) (ty := .int) (C := RX1) (T := TX1) (N := 16) hx hb hts tl_X1 tyX1 tyX1_ok nmX1 hown hK hPw hDw hS k9 hk9 rfl 11 (by decide) (hts _ tw_652) (fun _ h9 => h9) rfl (by decide +kernel) rfl rfl (Nat.le_of_ble_eq_true rfl) dX1_takeIn_23 (fun H locs hPw hDw hS => ?_)
  have hP : mw (dC, dI) vwCl A (TW cy L tr (S2 b2 2 i (upd (b2 2 i) 9 (((b2 2 i) 9) + 1))) κ τ) H := (hbk _ _ hPw hDw).sub (tw_set (b := S2 b2 2 i (upd (b2 2 i) 9 (((b2 2 i) 9) + 1))) (f := 2) (i := i) (x := upd (b2 2 i) 9 (((b2 2 i) 9) + 1)) hT hi (by decide) rfl)
  clear hbk hPw hDw hk9
  refine W.widen (k := 0) (n := 0) (Nat.le_of_ble_eq_true rfl) (Nat.le_of_ble_eq_true rfl) ?_
  have s_1 : S2 b2 2 i (upd (b2 2 i) 9 (((b2 2 i) 9) + 1)) = L_take a i v en := by
    first | rfl | (simp only [L_take, L_came, ← eb1, ← eb2])
  rw [s_1] at hP
  exact W.vret hx hb hr (fun t ht hW => ⟨⟨(), rfl, trivial, (by show mw _ _ _ _ t.heap; rw [ht]; exact hP)⟩, hS.F ht⟩) hS.2.2 dX1_takeIn_26
set_option maxRecDepth 100000 in
set_option maxHeartbeats 4000000 in
/-- Link.letFirstGo -/
theorem c_Link_letFirstGo (l : Launch) (dC : Nat → ClassId) (dI : Nat → Nat → Nat) (cy : Nat → ClassId) (L : Lay) (tr : Option Nat) (a : St) (κ : Kap) (τ : Tau) (i : Nat) (sz : Nat) (hT : TL L tr τ) (hi : i < 24) (h3 : (a 3 i 0).toInt ≤ 30) (h5 : (a 5 i 0).toInt ≤ 30) : Met l yX1_letFirstGo (tp_w yX1_letFirstGo cX1_letFirstGo 1 none) ({ frames := 2, cells := 0, slots := 0, locals := 38 }) (va_Pc [.ref (L 2 i)] (mPre dC dI cy (TW cy L tr a κ τ) sz)) (va_Qv (fun _ : Unit => True) (fun (_ : Unit) (t : State) => mw (dC, dI) vwCl (mA (TW cy L tr a κ τ) sz) (TW cy L tr (L_go a i) κ τ) t.heap) (mA (TW cy L tr a κ τ) sz)) (0) (0) (mA (TW cy L tr a κ τ) sz) := by
  refine Met.ofW (cc := cX1_letFirstGo) (maxL := 1) (ret := none) (by decide) rfl ?_
  intro p e s m args below meth c s₁ B hml hv
  obtain ⟨rfl, hsz, hP, hK, hE⟩ := hv
  have hx := B.exec
  have hb := B.bytes
  have hr := B.returns
  have hts0 := atoms_spec (ws := tp_w yX1_letFirstGo cX1_letFirstGo 1 none) B.pre
  have hts : ∀ w ∈ tp_all, w.before _ s = true := fun w h => hts0 w (List.mem_cons_of_mem _ h)
  have hown : s.vm.findClass RX1 = some m.cls := findClass_of_methodNamed B.named
  have hlocks := B.notSynchronized
  subst hsz
  have hP := hP.self s.heap.size
  generalize hAe : mA (TW cy L tr a κ τ) s.heap.size = A at hP ⊢
  have hA : ∀ q : Nat, s.heap.size ≤ q → A q := fun q h => by rw [← hAe]; exact Or.inr h
  have hS : va_S A s.heap s.heap [] := va_S.rf
  have hl9 := lv_entry ([.ref (L 2 i)]) (n := 1) (Nat.le_of_ble_eq_true rfl)
  rw [lg_entry_eq]
  generalize (lg_sl ([.ref (L 2 i)]) ++ List.replicate (1 - (lg_sl ([.ref (L 2 i)])).length) Slot.unset).toArray = ls at hl9 ⊢
  have hl : lv_has ls 1 [(0, .ref (L 2 i))] := hl9
  refine lv_aload_n hx hb dX1_letFirstGo_0 rfl (lv_at hl 0 rfl) ?_
  refine va_get (D := (dC, dI)) (ws := [(L 2 i, .inr (1, [.int ((a 2 i) 0), .int ((a 2 i) 1), .int ((a 2 i) 2), .int ((a 2 i) 3), .int ((a 2 i) 4), .int ((a 2 i) 5), .int ((a 2 i) 6), .int ((a 2 i) 7), .int ((a 2 i) 8), .ref (L 3 i), .ref (L 5 i), .int ((a 2 i) 9), .int ((a 2 i) 10), .int ((a 2 i) 11), .int ((a 2 i) 12), .ref (L 7 i)]))]) (ci := 1) (v := .ref (L 3 i)) (C := RX1) (T := TX1) (N := 16) hx hb hts tl_X1 hown hK (hP.one (tw_mem (f := 2) (i := i) hi rfl)) 0 rfl rfl 9 (by decide) (hts _ tw_648) (fun _ h9 => h9) rfl dX1_letFirstGo_1 ?_
  have hFc := m_free (C := (TW cy L tr a κ τ)) hP hS hA (fun _ _ h => h)
  refine va_callv (va_runV (As := []) (rest := []) ⟨hx, hb, hml, hown, hts⟩ (c_Row_dropFirst_row l dC dI cy L tr a κ τ i s.heap.size hT hi h3) (tp_cwV 0 hts tw_351 tw_352 tw_353 tw_24 tw_354 rfl rfl (by decide +kernel) ⟨Nat.le_of_ble_eq_true rfl, Nat.le_of_ble_eq_true rfl⟩) ⟨m_blind, va_recv hK (hP.one (e := .inr (3, [.ref (L 4 i), .int ((a 3 i) 0)])) (tw_mem (f := 3) (i := i) hi rfl)) (ci := 3) (q0 := 0) rfl rfl, fun U hU hW => ⟨rfl, m_pay hK hP hE (fun _ _ h => h) U hU hW⟩⟩ rfl rfl hl.1 rfl (lv_room (Nat.le_of_ble_eq_true rfl)) dX1_letFirstGo_4 ⟨(Nat.le_of_ble_eq_true rfl), (Nat.le_of_ble_eq_true rfl)⟩) hS (fun q _ h => hFc q h) hFc (fun u t H1 locs ht hvm hw hB hz1 hk1 hS => ?_)
  have hP1 := hB
  rw [ht] at hP1
  have hP : mw (dC, dI) vwCl A (TW cy L tr (R_drop 3 4 a i) κ τ) H1 := hP.join (fun _ _ h => h) hk1 hFc hP1 (fun _ _ h => Or.inl h)
  generalize H1 = H at hP hS ⊢
  clear hP1 hk1 hFc
  obtain ⟨b1, eb1⟩ : ∃ z : St, z = R_drop 3 4 a i := ⟨_, rfl⟩
  rw [← eb1] at hP
  refine lv_aload_n hx hb dX1_letFirstGo_7 rfl (lv_at hl 0 rfl) ?_
  refine va_get (D := (dC, dI)) (ws := [(L 2 i, .inr (1, [.int ((b1 2 i) 0), .int ((b1 2 i) 1), .int ((b1 2 i) 2), .int ((b1 2 i) 3), .int ((b1 2 i) 4), .int ((b1 2 i) 5), .int ((b1 2 i) 6), .int ((b1 2 i) 7), .int ((b1 2 i) 8), .ref (L 3 i), .ref (L 5 i), .int ((b1 2 i) 9), .int ((b1 2 i) 10), .int ((b1 2 i) 11), .int ((b1 2 i) 12), .ref (L 7 i)]))]) (ci := 1) (v := .ref (L 5 i)) (C := RX1) (T := TX1) (N := 16) hx hb hts tl_X1 hown hK (hP.one (tw_mem (f := 2) (i := i) hi rfl)) 0 rfl rfl 10 (by decide) (hts _ tw_651) (fun _ h9 => h9) rfl dX1_letFirstGo_8 ?_
  have hFc := m_free (C := (TW cy L tr b1 κ τ)) hP hS hA (fun _ _ h => h)
  refine va_callv (va_runV (As := []) (rest := []) ⟨hx, hb, hml, hown, hts⟩ (c_Row_dropFirst_ends l dC dI cy L tr b1 κ τ i H.size hT hi (by rw [eb1, R_drop_off (by decide) (by decide)]; exact h5)) (tp_cwV 0 hts tw_351 tw_352 tw_353 tw_24 tw_354 rfl rfl (by decide +kernel) ⟨Nat.le_of_ble_eq_true rfl, Nat.le_of_ble_eq_true rfl⟩) ⟨m_blind, va_recv hK (hP.one (e := .inr (3, [.ref (L 6 i), .int ((b1 5 i) 0)])) (tw_mem (f := 5) (i := i) hi rfl)) (ci := 3) (q0 := 0) rfl rfl, fun U hU hW => ⟨rfl, m_pay hK hP hE (fun _ _ h => h) U hU hW⟩⟩ rfl rfl hl.1 rfl (lv_room (Nat.le_of_ble_eq_true rfl)) dX1_letFirstGo_11 ⟨(Nat.le_of_ble_eq_true rfl), (Nat.le_of_ble_eq_true rfl)⟩) hS (fun q _ h => hFc q h) hFc (fun u t H1 locs ht hvm hw hB hz1 hk1 hS => ?_)
  have hP1 := hB
  rw [ht] at hP1
  have hP : mw (dC, dI) vwCl A (TW cy L tr (R_drop 5 6 b1 i) κ τ) H1 := hP.join (fun _ _ h => h) hk1 hFc hP1 (fun _ _ h => Or.inl h)
  generalize H1 = H at hP hS ⊢
  clear hP1 hk1 hFc
  obtain ⟨b2, eb2⟩ : ∃ z : St, z = R_drop 5 6 b1 i := ⟨_, rfl⟩
  rw [← eb2] at hP
  refine lv_aload_n hx hb dX1_letFirstGo_14 rfl (lv_at hl 0 rfl) ?_
  refine lv_dup hx hb dX1_letFirstGo_15 rfl ?_
  refine va_get (D := (dC, dI)) (ws := [(L 2 i, .inr (1, [.int ((b2 2 i) 0), .int ((b2 2 i) 1), .int ((b2 2 i) 2), .int ((b2 2 i) 3), .int ((b2 2 i) 4), .int ((b2 2 i) 5), .int ((b2 2 i) 6), .int ((b2 2 i) 7), .int ((b2 2 i) 8), .ref (L 3 i), .ref (L 5 i), .int ((b2 2 i) 9), .int ((b2 2 i) 10), .int ((b2 2 i) 11), .int ((b2 2 i) 12), .ref (L 7 i)]))]) (ci := 1) (v := .int ((b2 2 i) 10)) (C := RX1) (T := TX1) (N := 16) hx hb hts tl_X1 hown hK (hP.one (tw_mem (f := 2) (i := i) hi rfl)) 0 rfl rfl 12 (by decide) (hts _ tw_654) (fun _ h9 => h9) rfl dX1_letFirstGo_16 ?_
  refine lv_iconst (v := 1) hx hb dX1_letFirstGo_19 (by decide) ?_
  refine lv_iadd hx hb dX1_letFirstGo_20 ?_
  obtain ⟨ws9, k9, hPw, hDw, hk9, -, hbk⟩ := hP.cut (e := .inr (1, [.int ((b2 2 i) 0), .int ((b2 2 i) 1), .int ((b2 2 i) 2), .int ((b2 2 i) 3), .int ((b2 2 i) 4), .int ((b2 2 i) 5), .int ((b2 2 i) 6), .int ((b2 2 i) 7), .int ((b2 2 i) 8), .ref (L 3 i), .ref (L 5 i), .int ((b2 2 i) 9), .int ((b2 2 i) 10), .int ((b2 2 i) 11), .int ((b2 2 i) 12), .ref (L 7 i)])) (tw_mem (f := 2) (i := i) hi rfl)
  refine va_put (D := (dC, dI)) (ci := 1) (v := .int (((b2 2 i) 10) + 1)) (ty := .int) (C := RX1) (T := TX1) (N := 16) hx hb hts tl_X1 tyX1 tyX1_ok nmX1 hown hK hPw hDw hS k9 hk9 rfl 12 (by decide) (hts _ tw_654) (fun _ h9 => h9) rfl (by decide +kernel) rfl rfl (Nat.le_of_ble_eq_true rfl) dX1_letFirstGo_21 (fun H locs hPw hDw hS => ?_)
  have hP : mw (dC, dI) vwCl A (TW cy L tr (S2 b2 2 i (upd (b2 2 i) 10 (((b2 2 i) 10) + 1))) κ τ) H := (hbk _ _ hPw hDw).sub (tw_set (b := S2 b2 2 i (upd (b2 2 i) 10 (((b2 2 i) 10) + 1))) (f := 2) (i := i) (x := upd (b2 2 i) 10 (((b2 2 i) 10) + 1)) hT hi (by decide) rfl)
  clear hbk hPw hDw hk9
  refine W.widen (k := 0) (n := 0) (Nat.le_of_ble_eq_true rfl) (Nat.le_of_ble_eq_true rfl) ?_
  have s_1 : S2 b2 2 i (upd (b2 2 i) 10 (((b2 2 i) 10) + 1)) = L_go a i := by
    first | rfl | (simp only [L_go, L_left, ← eb1, ← eb2])
  rw [s_1] at hP
  exact W.vret hx hb hr (fun t ht hW => ⟨⟨(), rfl, trivial, (by show mw _ _ _ _ t.heap; rw [ht]; exact hP)⟩, hS.F ht⟩) hS.2.2 dX1_letFirstGo_24
set_option maxRecDepth 100000 in
set_option maxHeartbeats 4000000 in
/-- Link.countTurn -/
theorem c_Link_countTurn (l : Launch) (dC : Nat → ClassId) (dI : Nat → Nat → Nat) (cy : Nat → ClassId) (L : Lay) (tr : Option Nat) (a : St) (κ : Kap) (τ : Tau) (i : Nat) (n : Int32) (sz : Nat) (hT : TL L tr τ) (hi : i < 24) : Met l yX1_countTurn (tp_w yX1_countTurn cX1_countTurn 2 none) ({ frames := 0, cells := 0, slots := 0, locals := 0 }) (va_Pc [.ref (L 2 i), .int n] (mPre dC dI cy (TW cy L tr a κ τ) sz)) (va_Qv (fun _ : Unit => True) (fun (_ : Unit) (t : State) => mw (dC, dI) vwCl (mA (TW cy L tr a κ τ) sz) (TW cy L tr (L_turn a i n) κ τ) t.heap) (mA (TW cy L tr a κ τ) sz)) (0) (0) (mA (TW cy L tr a κ τ) sz) := by
  refine Met.ofW (cc := cX1_countTurn) (maxL := 2) (ret := none) (by decide) rfl ?_
  intro p e s m args below meth c s₁ B hml hv
  obtain ⟨rfl, hsz, hP, hK, hE⟩ := hv
  have hx := B.exec
  have hb := B.bytes
  have hr := B.returns
  have hts0 := atoms_spec (ws := tp_w yX1_countTurn cX1_countTurn 2 none) B.pre
  have hts : ∀ w ∈ tp_all, w.before _ s = true := fun w h => hts0 w (List.mem_cons_of_mem _ h)
  have hown : s.vm.findClass RX1 = some m.cls := findClass_of_methodNamed B.named
  have hlocks := B.notSynchronized
  subst hsz
  have hP := hP.self s.heap.size
  generalize hAe : mA (TW cy L tr a κ τ) s.heap.size = A at hP ⊢
  have hA : ∀ q : Nat, s.heap.size ≤ q → A q := fun q h => by rw [← hAe]; exact Or.inr h
  have hS : va_S A s.heap s.heap [] := va_S.rf
  have hl9 := lv_entry ([.ref (L 2 i), .int n]) (n := 2) (Nat.le_of_ble_eq_true rfl)
  rw [lg_entry_eq]
  generalize (lg_sl ([.ref (L 2 i), .int n]) ++ List.replicate (2 - (lg_sl ([.ref (L 2 i), .int n])).length) Slot.unset).toArray = ls at hl9 ⊢
  have hl : lv_has ls 2 [(0, .ref (L 2 i)), (1, .int n)] := hl9
  refine lv_iload_n hx hb dX1_countTurn_0 rfl (lv_at hl 1 rfl) ?_
  refine lv_if_lt (tgt := 23) hx hb dX1_countTurn_1 (by decide) (fun c_1 => ?_) (fun c_1 => ?_)
  · refine W.widen (k := 0) (n := 0) (Nat.le_of_ble_eq_true rfl) (Nat.le_of_ble_eq_true rfl) ?_
    have s_1 : a = L_turn a i n := by
      first | rfl | (simp only [L_turn, if_pos c_1])
    rw [s_1] at hP
    exact W.vret hx hb hr (fun t ht hW => ⟨⟨(), rfl, trivial, (by show mw _ _ _ _ t.heap; rw [ht]; exact hP)⟩, hS.F ht⟩) hS.2.2 dX1_countTurn_23
  · refine lv_iload_n hx hb dX1_countTurn_4 rfl (lv_at hl 1 rfl) ?_
    refine lv_aload_n hx hb dX1_countTurn_5 rfl (lv_at hl 0 rfl) ?_
    refine va_get (D := (dC, dI)) (ws := [(L 2 i, .inr (1, [.int ((a 2 i) 0), .int ((a 2 i) 1), .int ((a 2 i) 2), .int ((a 2 i) 3), .int ((a 2 i) 4), .int ((a 2 i) 5), .int ((a 2 i) 6), .int ((a 2 i) 7), .int ((a 2 i) 8), .ref (L 3 i), .ref (L 5 i), .int ((a 2 i) 9), .int ((a 2 i) 10), .int ((a 2 i) 11), .int ((a 2 i) 12), .ref (L 7 i)]))]) (ci := 1) (v := .ref (L 7 i)) (C := RX1) (T := TX1) (N := 16) hx hb hts tl_X1 hown hK (hP.one (tw_mem (f := 2) (i := i) hi rfl)) 0 rfl rfl 15 (by decide) (hts _ tw_660) (fun _ h9 => h9) rfl dX1_countTurn_6 ?_
    refine va_alen hx hb hK (ws := [(L 7 i, .inl (cy 0, 24, .inl (a 7 i)))]) (hP.one (tw_mem (f := 7) (i := i) hi rfl)) 0 0 rfl rfl (v := 24) rfl dX1_countTurn_9 ?_
    refine lv_icmp_ge (tgt := 23) hx hb dX1_countTurn_10 (by decide) (fun c_2 => ?_) (fun c_2 => ?_)
    · refine W.widen (k := 0) (n := 0) (Nat.le_of_ble_eq_true rfl) (Nat.le_of_ble_eq_true rfl) ?_
      have s_2 : a = L_turn a i n := by
        first | rfl | (simp only [L_turn, if_neg c_1, if_pos c_2])
      rw [s_2] at hP
      exact W.vret hx hb hr (fun t ht hW => ⟨⟨(), rfl, trivial, (by show mw _ _ _ _ t.heap; rw [ht]; exact hP)⟩, hS.F ht⟩) hS.2.2 dX1_countTurn_23
    · refine lv_aload_n hx hb dX1_countTurn_13 rfl (lv_at hl 0 rfl) ?_
      refine va_get (D := (dC, dI)) (ws := [(L 2 i, .inr (1, [.int ((a 2 i) 0), .int ((a 2 i) 1), .int ((a 2 i) 2), .int ((a 2 i) 3), .int ((a 2 i) 4), .int ((a 2 i) 5), .int ((a 2 i) 6), .int ((a 2 i) 7), .int ((a 2 i) 8), .ref (L 3 i), .ref (L 5 i), .int ((a 2 i) 9), .int ((a 2 i) 10), .int ((a 2 i) 11), .int ((a 2 i) 12), .ref (L 7 i)]))]) (ci := 1) (v := .ref (L 7 i)) (C := RX1) (T := TX1) (N := 16) hx hb hts tl_X1 hown hK (hP.one (tw_mem (f := 2) (i := i) hi rfl)) 0 rfl rfl 15 (by decide) (hts _ tw_660) (fun _ h9 => h9) rfl dX1_countTurn_14 ?_
      refine lv_iload_n hx hb dX1_countTurn_17 rfl (lv_at hl 1 rfl) ?_
      refine lv_dup2_11 hx hb dX1_countTurn_18 rfl rfl ?_
      have j_1 : (n : Int32).toNatClampNeg = n.toNatClampNeg := m_cl (m_nI c_1) (m_lt (n := 24) c_1 c_2 (by decide)) (by decide)
      refine va_iald hx hb hK (ws := [(L 7 i, .inl (cy 0, 24, .inl (a 7 i)))]) (hP.one (tw_mem (f := 7) (i := i) hi rfl)) 0 0 rfl rfl (m_in (m_nI c_1) (m_lt (n := 24) c_1 c_2 (by decide)) (by decide)) dX1_countTurn_19 ?_
      refine W.eq (g2 := F0 m 20 ls [.int ((a 7 i) n.toNatClampNeg), .int n, .ref (L 7 i)]) (by first | (rw [j_1]; done) | (rw [j_1]; rfl)) ?_
      refine lv_iconst (v := 1) hx hb dX1_countTurn_20 (by decide) ?_
      refine lv_iadd hx hb dX1_countTurn_21 ?_
      have j_2 : (n : Int32).toNatClampNeg = n.toNatClampNeg := m_cl (m_nI c_1) (m_lt (n := 24) c_1 c_2 (by decide)) (by decide)
      obtain ⟨ws9, k9, hPw, hDw, hk9, -, hbk⟩ := hP.cut (e := .inl (cy 0, 24, .inl (a 7 i))) (tw_mem (f := 7) (i := i) hi rfl)
      refine va_iast hx hb hK hPw hDw hS k9 0 hk9 rfl (m_in (m_nI c_1) (m_lt (n := 24) c_1 c_2 (by decide)) (by decide)) dX1_countTurn_22 (fun H locs hPw hDw hS => ?_)
      rw [j_2] at hPw hDw
      have hP : mw (dC, dI) vwCl A (TW cy L tr (S2 a 7 i (upd (a 7 i) n.toNatClampNeg (((a 7 i) n.toNatClampNeg) + 1))) κ τ) H := (hbk _ _ hPw hDw).sub (tw_set (b := S2 a 7 i (upd (a 7 i) n.toNatClampNeg (((a 7 i) n.toNatClampNeg) + 1))) (f := 7) (i := i) (x := upd (a 7 i) n.toNatClampNeg (((a 7 i) n.toNatClampNeg) + 1)) hT hi (by decide) rfl)
      clear hbk hPw hDw hk9
      refine W.widen (k := 0) (n := 0) (Nat.le_of_ble_eq_true rfl) (Nat.le_of_ble_eq_true rfl) ?_
      have s_3 : S2 a 7 i (upd (a 7 i) n.toNatClampNeg (((a 7 i) n.toNatClampNeg) + 1)) = L_turn a i n := by
        first | rfl | (simp only [L_turn, if_neg c_1, if_neg c_2])
      rw [s_3] at hP
      exact W.vret hx hb hr (fun t ht hW => ⟨⟨(), rfl, trivial, (by show mw _ _ _ _ t.heap; rw [ht]; exact hP)⟩, hS.F ht⟩) hS.2.2 dX1_countTurn_23
set_option maxRecDepth 100000 in
set_option maxHeartbeats 4000000 in
/-- Link.countQueueIn -/
theorem c_Link_countQueueIn (l : Launch) (dC : Nat → ClassId) (dI : Nat → Nat → Nat) (cy : Nat → ClassId) (L : Lay) (tr : Option Nat) (a : St) (κ : Kap) (τ : Tau) (i : Nat) (tk : Int32) (sz : Nat) (hT : TL L tr τ) (hi : i < 24) (h5l : 0 ≤ (a 5 i 0).toInt) (h5 : (a 5 i 0).toInt ≤ 30) : Met l yX1_countQueueIn (tp_w yX1_countQueueIn cX1_countQueueIn 3 none) ({ frames := 2, cells := 0, slots := 0, locals := 43 }) (va_Pc [.ref (L 2 i), .int tk] (mPre dC dI cy (TW cy L tr a κ τ) sz)) (va_Qv (fun _ : Unit => True) (fun (_ : Unit) (t : State) => mw (dC, dI) vwCl (mA (TW cy L tr a κ τ) sz) (TW cy L tr (L_cq a i tk) κ τ) t.heap) (mA (TW cy L tr a κ τ) sz)) (0) (0) (mA (TW cy L tr a κ τ) sz) := by
  refine Met.ofW (cc := cX1_countQueueIn) (maxL := 3) (ret := none) (by decide) rfl ?_
  intro p e s m args below meth c s₁ B hml hv
  obtain ⟨rfl, hsz, hP, hK, hE⟩ := hv
  have hx := B.exec
  have hb := B.bytes
  have hr := B.returns
  have hts0 := atoms_spec (ws := tp_w yX1_countQueueIn cX1_countQueueIn 3 none) B.pre
  have hts : ∀ w ∈ tp_all, w.before _ s = true := fun w h => hts0 w (List.mem_cons_of_mem _ h)
  have hown : s.vm.findClass RX1 = some m.cls := findClass_of_methodNamed B.named
  have hlocks := B.notSynchronized
  subst hsz
  have hP := hP.self s.heap.size
  generalize hAe : mA (TW cy L tr a κ τ) s.heap.size = A at hP ⊢
  have hA : ∀ q : Nat, s.heap.size ≤ q → A q := fun q h => by rw [← hAe]; exact Or.inr h
  have hS : va_S A s.heap s.heap [] := va_S.rf
  have hl9 := lv_entry ([.ref (L 2 i), .int tk]) (n := 3) (Nat.le_of_ble_eq_true rfl)
  rw [lg_entry_eq]
  generalize (lg_sl ([.ref (L 2 i), .int tk]) ++ List.replicate (3 - (lg_sl ([.ref (L 2 i), .int tk])).length) Slot.unset).toArray = ls at hl9 ⊢
  have hl : lv_has ls 3 [(0, .ref (L 2 i)), (1, .int tk)] := hl9
  refine lv_aload_n hx hb dX1_countQueueIn_0 rfl (lv_at hl 0 rfl) ?_
  refine lv_iload_n hx hb dX1_countQueueIn_1 rfl (lv_at hl 1 rfl) ?_
  have hFc := m_free (C := (TW cy L tr a κ τ)) hP hS hA (fun _ _ h => h)
  refine va_calli (va_runV (As := [.int tk]) (rest := []) ⟨hx, hb, hml, hown, hts⟩ (c_Link_queueIn l dC dI cy L tr a κ τ i tk s.heap.size hT hi h5l h5) (tp_cwV 1 hts tw_182 tw_183 tw_184 tw_23 tw_185 rfl rfl (by decide +kernel) ⟨Nat.le_of_ble_eq_true rfl, Nat.le_of_ble_eq_true rfl⟩) ⟨m_blind, va_recv hK (hP.one (e := .inr (1, [.int ((a 2 i) 0), .int ((a 2 i) 1), .int ((a 2 i) 2), .int ((a 2 i) 3), .int ((a 2 i) 4), .int ((a 2 i) 5), .int ((a 2 i) 6), .int ((a 2 i) 7), .int ((a 2 i) 8), .ref (L 3 i), .ref (L 5 i), .int ((a 2 i) 9), .int ((a 2 i) 10), .int ((a 2 i) 11), .int ((a 2 i) 12), .ref (L 7 i)])) (tw_mem (f := 2) (i := i) hi rfl)) (ci := 1) (q0 := 0) rfl rfl, fun U hU hW => ⟨rfl, m_pay hK hP hE (fun _ _ h => h) U hU hW⟩⟩ rfl rfl hl.1 rfl (lv_room (Nat.le_of_ble_eq_true rfl)) dX1_countQueueIn_2 ⟨(Nat.le_of_ble_eq_true rfl), (Nat.le_of_ble_eq_true rfl)⟩) hS (fun q _ h => hFc q h) hFc (fun r_1 u t H1 locs ht hvm hw hB hz1 hk1 hS => ?_)
  obtain rfl := hw
  obtain ⟨f_1, hP1⟩ := hB
  subst f_1
  rw [ht] at hP1
  have hP : mw (dC, dI) vwCl A (TW cy L tr a κ τ) H1 := hP.join (fun _ _ h => h) hk1 hFc hP1 (fun _ _ h => Or.inl h)
  generalize H1 = H at hP hS ⊢
  clear hP1 hk1 hFc
  refine lv_istore_n (lv' := [(2, .int (L_q a i tk)), (0, .ref (L 2 i)), (1, .int tk)]) hx hb dX1_countQueueIn_5 rfl hl (by decide) rfl (fun ls hl => ?_)
  refine lv_aload_n hx hb dX1_countQueueIn_6 rfl (lv_at hl 1 rfl) ?_
  refine lv_aload_n hx hb dX1_countQueueIn_7 rfl (lv_at hl 1 rfl) ?_
  refine va_get (D := (dC, dI)) (ws := [(L 2 i, .inr (1, [.int ((a 2 i) 0), .int ((a 2 i) 1), .int ((a 2 i) 2), .int ((a 2 i) 3), .int ((a 2 i) 4), .int ((a 2 i) 5), .int ((a 2 i) 6), .int ((a 2 i) 7), .int ((a 2 i) 8), .ref (L 3 i), .ref (L 5 i), .int ((a 2 i) 9), .int ((a 2 i) 10), .int ((a 2 i) 11), .int ((a 2 i) 12), .ref (L 7 i)]))]) (ci := 1) (v := .int ((a 2 i) 11)) (C := RX1) (T := TX1) (N := 16) hx hb hts tl_X1 hown hK (hP.one (tw_mem (f := 2) (i := i) hi rfl)) 0 rfl rfl 13 (by decide) (hts _ tw_656) (fun _ h9 => h9) rfl dX1_countQueueIn_8 ?_
  refine lv_iload_n hx hb dX1_countQueueIn_11 rfl (lv_at hl 0 rfl) ?_
  refine va_mmax hx hb (hml.trans hl.1.symm) hown (hts _ tw_369) (hts _ tw_292) (hts _ tw_25) (hts _ tw_293) (Nat.le_of_ble_eq_true rfl) (Nat.le_of_ble_eq_true rfl) (Nat.le_of_ble_eq_true rfl) (Nat.le_of_ble_eq_true rfl) dX1_countQueueIn_12 ?_
  obtain ⟨ws9, k9, hPw, hDw, hk9, -, hbk⟩ := hP.cut (e := .inr (1, [.int ((a 2 i) 0), .int ((a 2 i) 1), .int ((a 2 i) 2), .int ((a 2 i) 3), .int ((a 2 i) 4), .int ((a 2 i) 5), .int ((a 2 i) 6), .int ((a 2 i) 7), .int ((a 2 i) 8), .ref (L 3 i), .ref (L 5 i), .int ((a 2 i) 9), .int ((a 2 i) 10), .int ((a 2 i) 11), .int ((a 2 i) 12), .ref (L 7 i)])) (tw_mem (f := 2) (i := i) hi rfl)
  refine va_put (D := (dC, dI)) (ci := 1) (v := .int (if ((a 2 i) 11) < (L_q a i tk) then (L_q a i tk) else ((a 2 i) 11))) (ty := .int) (C := RX1) (T := TX1) (N := 16) hx hb hts tl_X1 tyX1 tyX1_ok nmX1 hown hK hPw hDw hS k9 hk9 rfl 13 (by decide) (hts _ tw_656) (fun _ h9 => h9) rfl (by decide +kernel) rfl rfl (Nat.le_of_ble_eq_true rfl) dX1_countQueueIn_15 (fun H locs hPw hDw hS => ?_)
  have hP : mw (dC, dI) vwCl A (TW cy L tr (S2 a 2 i (upd (a 2 i) 11 (if ((a 2 i) 11) < (L_q a i tk) then (L_q a i tk) else ((a 2 i) 11)))) κ τ) H := (hbk _ _ hPw hDw).sub (tw_set (b := S2 a 2 i (upd (a 2 i) 11 (if ((a 2 i) 11) < (L_q a i tk) then (L_q a i tk) else ((a 2 i) 11)))) (f := 2) (i := i) (x := upd (a 2 i) 11 (if ((a 2 i) 11) < (L_q a i tk) then (L_q a i tk) else ((a 2 i) 11))) hT hi (by decide) rfl)
  clear hbk hPw hDw hk9
  refine lv_aload_n hx hb dX1_countQueueIn_18 rfl (lv_at hl 1 rfl) ?_
  refine lv_dup hx hb dX1_countQueueIn_19 rfl ?_
  refine va_get (D := (dC, dI)) (ws := [(L 2 i, .inr (1, [.int ((a 2 i) 0), .int ((a 2 i) 1), .int ((a 2 i) 2), .int ((a 2 i) 3), .int ((a 2 i) 4), .int ((a 2 i) 5), .int ((a 2 i) 6), .int ((a 2 i) 7), .int ((a 2 i) 8), .ref (L 3 i), .ref (L 5 i), .int ((a 2 i) 9), .int ((a 2 i) 10), .int (if ((a 2 i) 11) < (L_q a i tk) then (L_q a i tk) else ((a 2 i) 11)), .int ((a 2 i) 12), .ref (L 7 i)]))]) (ci := 1) (v := .int ((a 2 i) 12)) (C := RX1) (T := TX1) (N := 16) hx hb hts tl_X1 hown hK (hP.one (tw_mem (f := 2) (i := i) hi S2_eq)) 0 rfl rfl 14 (by decide) (hts _ tw_658) (fun _ h9 => h9) rfl dX1_countQueueIn_20 ?_
  refine lv_iload_n hx hb dX1_countQueueIn_23 rfl (lv_at hl 0 rfl) ?_
  refine lv_iadd hx hb dX1_countQueueIn_24 ?_
  obtain ⟨ws9, k9, hPw, hDw, hk9, -, hbk⟩ := hP.cut (e := .inr (1, [.int ((a 2 i) 0), .int ((a 2 i) 1), .int ((a 2 i) 2), .int ((a 2 i) 3), .int ((a 2 i) 4), .int ((a 2 i) 5), .int ((a 2 i) 6), .int ((a 2 i) 7), .int ((a 2 i) 8), .ref (L 3 i), .ref (L 5 i), .int ((a 2 i) 9), .int ((a 2 i) 10), .int (if ((a 2 i) 11) < (L_q a i tk) then (L_q a i tk) else ((a 2 i) 11)), .int ((a 2 i) 12), .ref (L 7 i)])) (tw_mem (f := 2) (i := i) hi S2_eq)
  refine va_put (D := (dC, dI)) (ci := 1) (v := .int (((a 2 i) 12) + (L_q a i tk))) (ty := .int) (C := RX1) (T := TX1) (N := 16) hx hb hts tl_X1 tyX1 tyX1_ok nmX1 hown hK hPw hDw hS k9 hk9 rfl 14 (by decide) (hts _ tw_658) (fun _ h9 => h9) rfl (by decide +kernel) rfl rfl (Nat.le_of_ble_eq_true rfl) dX1_countQueueIn_25 (fun H locs hPw hDw hS => ?_)
  have hP : mw (dC, dI) vwCl A (TW cy L tr (S2 a 2 i (upd (upd (a 2 i) 11 (if ((a 2 i) 11) < (L_q a i tk) then (L_q a i tk) else ((a 2 i) 11))) 12 (((a 2 i) 12) + (L_q a i tk)))) κ τ) H := (hbk _ _ hPw hDw).sub (tw_set (b := S2 a 2 i (upd (upd (a 2 i) 11 (if ((a 2 i) 11) < (L_q a i tk) then (L_q a i tk) else ((a 2 i) 11))) 12 (((a 2 i) 12) + (L_q a i tk)))) (f := 2) (i := i) (x := upd (upd (a 2 i) 11 (if ((a 2 i) 11) < (L_q a i tk) then (L_q a i tk) else ((a 2 i) 11))) 12 (((a 2 i) 12) + (L_q a i tk))) hT hi (by decide) S2_S2.symm)
  clear hbk hPw hDw hk9
  refine W.widen (k := 0) (n := 0) (Nat.le_of_ble_eq_true rfl) (Nat.le_of_ble_eq_true rfl) ?_
  have s_1 : S2 a 2 i (upd (upd (a 2 i) 11 (if ((a 2 i) 11) < (L_q a i tk) then (L_q a i tk) else ((a 2 i) 11))) 12 (((a 2 i) 12) + (L_q a i tk))) = L_cq a i tk := by
    first | rfl | (simp only [L_cq, X_cq])
  rw [s_1] at hP
  exact W.vret hx hb hr (fun t ht hW => ⟨⟨(), rfl, trivial, (by show mw _ _ _ _ t.heap; rw [ht]; exact hP)⟩, hS.F ht⟩) hS.2.2 dX1_countQueueIn_28

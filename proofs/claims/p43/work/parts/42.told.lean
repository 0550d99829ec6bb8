theorem tw_1064 : Cond.code yX2_lay cX2_lay 7 (some .int) ∈ tp_all := tp_mem 1064 (by decide +kernel) rfl
theorem tw_1061 : Cond.methodLink RX8 54 yX2_lay ∈ tp_all := tp_mem 1061 (by decide +kernel) rfl
theorem tw_1062 : Cond.instanceMethod yX2_lay ∈ tp_all := tp_mem 1062 (by decide +kernel) rfl
theorem tw_1063 : Cond.selects RX2 yX2_lay yX2_lay ∈ tp_all := tp_mem 1063 (by decide +kernel) rfl
theorem tw_1089 : Cond.code yX2_allLeadTo cX2_allLeadTo 4 (some .boolean) ∈ tp_all := tp_mem 1089 (by decide +kernel) rfl
theorem tw_1086 : Cond.methodLink RX8 58 yX2_allLeadTo ∈ tp_all := tp_mem 1086 (by decide +kernel) rfl
theorem tw_1087 : Cond.instanceMethod yX2_allLeadTo ∈ tp_all := tp_mem 1087 (by decide +kernel) rfl
theorem tw_1088 : Cond.selects RX2 yX2_allLeadTo yX2_allLeadTo ∈ tp_all := tp_mem 1088 (by decide +kernel) rfl
theorem tw_1094 : Cond.code yX4_append cX4_append 4 (some .int) ∈ tp_all := tp_mem 1094 (by decide +kernel) rfl
theorem tw_1091 : Cond.methodLink RX8 73 yX4_append ∈ tp_all := tp_mem 1091 (by decide +kernel) rfl
theorem tw_1092 : Cond.instanceMethod yX4_append ∈ tp_all := tp_mem 1092 (by decide +kernel) rfl
theorem tw_1093 : Cond.selects RX4 yX4_append yX4_append ∈ tp_all := tp_mem 1093 (by decide +kernel) rfl
theorem tw_147 : Cond.methodLink RX8 93 yX2_forgetWays ∈ tp_all := tp_mem 147 (by decide +kernel) rfl
theorem tw_1076 : Cond.methodLink RX8 114 yX0_tell ∈ tp_all := tp_mem 1076 (by decide +kernel) rfl
theorem te_f27 {U : State} (h : tp_E U) : va_Nw (.fieldLinkNest "Turnpike" 66 "Turnpike$Signal" "phases" "I" "Turnpike") U := h.1 _ (List.mem_of_getElem? (i := 27) rfl)
theorem te_f67 {U : State} (h : tp_E U) : va_Nw (.fieldLinkNest "Turnpike" 80 "Turnpike$Traffic" "refresh" "I" "Turnpike") U := h.1 _ (List.mem_of_getElem? (i := 67) rfl)
theorem te_f12 {U : State} (h : tp_E U) : va_Nw (.fieldLinkNest "Turnpike" 99 "Turnpike$Link" "slowTicks" "I" "Turnpike") U := h.1 _ (List.mem_of_getElem? (i := 12) rfl)
theorem dX8_addNode_0 : decode cX8_addNode 0 = .ok (.aload_n 0, 1) := by decide +kernel
theorem dX8_addNode_1 : decode cX8_addNode 1 = .ok (.getfield 12, 3) := by decide +kernel
theorem dX8_addNode_4 : decode cX8_addNode 4 = .ok (.getfield 21, 3) := by decide +kernel
theorem dX8_addNode_7 : decode cX8_addNode 7 = .ok (.bipush 12, 2) := by decide +kernel
theorem dX8_addNode_9 : decode cX8_addNode 9 = .ok (.if_icmp .lt 13, 3) := by decide +kernel
theorem dX8_addNode_22 : decode cX8_addNode 22 = .ok (.aload_n 0, 1) := by decide +kernel
theorem dX8_addNode_23 : decode cX8_addNode 23 = .ok (.getfield 12, 3) := by decide +kernel
theorem dX8_addNode_26 : decode cX8_addNode 26 = .ok (.dup, 1) := by decide +kernel
theorem dX8_addNode_27 : decode cX8_addNode 27 = .ok (.getfield 21, 3) := by decide +kernel
theorem dX8_addNode_30 : decode cX8_addNode 30 = .ok (.dup_x1, 1) := by decide +kernel
theorem dX8_addNode_31 : decode cX8_addNode 31 = .ok (.iconst 1, 1) := by decide +kernel
theorem dX8_addNode_32 : decode cX8_addNode 32 = .ok (.iadd, 1) := by decide +kernel
theorem dX8_addNode_33 : decode cX8_addNode 33 = .ok (.putfield 21, 3) := by decide +kernel
theorem dX8_addNode_36 : decode cX8_addNode 36 = .ok (.ireturn, 1) := by decide +kernel
theorem dX8_addLink_0 : decode cX8_addLink 0 = .ok (.aload_n 0, 1) := by decide +kernel
theorem dX8_addLink_1 : decode cX8_addLink 1 = .ok (.iload_n 1, 1) := by decide +kernel
theorem dX8_addLink_2 : decode cX8_addLink 2 = .ok (.invokevirtual 32, 3) := by decide +kernel
theorem dX8_addLink_5 : decode cX8_addLink 5 = .ok (.aload_n 0, 1) := by decide +kernel
theorem dX8_addLink_6 : decode cX8_addLink 6 = .ok (.iload_n 2, 1) := by decide +kernel
theorem dX8_addLink_7 : decode cX8_addLink 7 = .ok (.invokevirtual 32, 3) := by decide +kernel
theorem dX8_addLink_10 : decode cX8_addLink 10 = .ok (.iload_n 1, 1) := by decide +kernel
theorem dX8_addLink_11 : decode cX8_addLink 11 = .ok (.iload_n 2, 1) := by decide +kernel
theorem dX8_addLink_12 : decode cX8_addLink 12 = .ok (.if_icmp .eq 7, 3) := by decide +kernel
theorem dX8_addLink_15 : decode cX8_addLink 15 = .ok (.iconst 1, 1) := by decide +kernel
theorem dX8_addLink_16 : decode cX8_addLink 16 = .ok (.goto 4, 3) := by decide +kernel
theorem dX8_addLink_20 : decode cX8_addLink 20 = .ok (.invokestatic 36, 3) := by decide +kernel
theorem dX8_addLink_23 : decode cX8_addLink 23 = .ok (.iload_n 3, 1) := by decide +kernel
theorem dX8_addLink_24 : decode cX8_addLink 24 = .ok (.iconst 1, 1) := by decide +kernel
theorem dX8_addLink_25 : decode cX8_addLink 25 = .ok (.bipush 20, 2) := by decide +kernel
theorem dX8_addLink_27 : decode cX8_addLink 27 = .ok (.invokestatic 39, 3) := by decide +kernel
theorem dX8_addLink_30 : decode cX8_addLink 30 = .ok (.invokestatic 36, 3) := by decide +kernel
theorem dX8_addLink_33 : decode cX8_addLink 33 = .ok (.iload 4, 2) := by decide +kernel
theorem dX8_addLink_35 : decode cX8_addLink 35 = .ok (.iconst 1, 1) := by decide +kernel
theorem dX8_addLink_36 : decode cX8_addLink 36 = .ok (.bipush 30, 2) := by decide +kernel
theorem dX8_addLink_38 : decode cX8_addLink 38 = .ok (.invokestatic 39, 3) := by decide +kernel
theorem dX8_addLink_41 : decode cX8_addLink 41 = .ok (.invokestatic 36, 3) := by decide +kernel
theorem dX8_addLink_44 : decode cX8_addLink 44 = .ok (.iload 5, 2) := by decide +kernel
theorem dX8_addLink_46 : decode cX8_addLink 46 = .ok (.iconst 1, 1) := by decide +kernel
theorem dX8_addLink_47 : decode cX8_addLink 47 = .ok (.iconst 3, 1) := by decide +kernel
theorem dX8_addLink_48 : decode cX8_addLink 48 = .ok (.invokestatic 39, 3) := by decide +kernel
theorem dX8_addLink_51 : decode cX8_addLink 51 = .ok (.invokestatic 36, 3) := by decide +kernel
theorem dX8_addLink_54 : decode cX8_addLink 54 = .ok (.aload_n 0, 1) := by decide +kernel
theorem dX8_addLink_55 : decode cX8_addLink 55 = .ok (.getfield 12, 3) := by decide +kernel
theorem dX8_addLink_58 : decode cX8_addLink 58 = .ok (.getfield 43, 3) := by decide +kernel
theorem dX8_addLink_61 : decode cX8_addLink 61 = .ok (.getfield 47, 3) := by decide +kernel
theorem dX8_addLink_64 : decode cX8_addLink 64 = .ok (.bipush 24, 2) := by decide +kernel
theorem dX8_addLink_66 : decode cX8_addLink 66 = .ok (.if_icmp .lt 13, 3) := by decide +kernel
theorem dX8_addLink_79 : decode cX8_addLink 79 = .ok (.aload_n 0, 1) := by decide +kernel
theorem dX8_addLink_80 : decode cX8_addLink 80 = .ok (.getfield 12, 3) := by decide +kernel
theorem dX8_addLink_83 : decode cX8_addLink 83 = .ok (.getfield 43, 3) := by decide +kernel
theorem dX8_addLink_86 : decode cX8_addLink 86 = .ok (.iload_n 1, 1) := by decide +kernel
theorem dX8_addLink_87 : decode cX8_addLink 87 = .ok (.iload_n 2, 1) := by decide +kernel
theorem dX8_addLink_88 : decode cX8_addLink 88 = .ok (.iload_n 3, 1) := by decide +kernel
theorem dX8_addLink_89 : decode cX8_addLink 89 = .ok (.iload 4, 2) := by decide +kernel
theorem dX8_addLink_91 : decode cX8_addLink 91 = .ok (.iload 5, 2) := by decide +kernel
theorem dX8_addLink_93 : decode cX8_addLink 93 = .ok (.invokevirtual 54, 3) := by decide +kernel
theorem dX8_addLink_96 : decode cX8_addLink 96 = .ok (.ireturn, 1) := by decide +kernel
theorem dX8_addPhase_0 : decode cX8_addPhase 0 = .ok (.aload_n 0, 1) := by decide +kernel
theorem dX8_addPhase_1 : decode cX8_addPhase 1 = .ok (.iload_n 1, 1) := by decide +kernel
theorem dX8_addPhase_2 : decode cX8_addPhase 2 = .ok (.invokevirtual 32, 3) := by decide +kernel
theorem dX8_addPhase_5 : decode cX8_addPhase 5 = .ok (.iload_n 2, 1) := by decide +kernel
theorem dX8_addPhase_6 : decode cX8_addPhase 6 = .ok (.ifCond .lt 22, 3) := by decide +kernel
theorem dX8_addPhase_9 : decode cX8_addPhase 9 = .ok (.aload_n 0, 1) := by decide +kernel
theorem dX8_addPhase_10 : decode cX8_addPhase 10 = .ok (.getfield 12, 3) := by decide +kernel
theorem dX8_addPhase_13 : decode cX8_addPhase 13 = .ok (.getfield 43, 3) := by decide +kernel
theorem dX8_addPhase_16 : decode cX8_addPhase 16 = .ok (.iload_n 1, 1) := by decide +kernel
theorem dX8_addPhase_17 : decode cX8_addPhase 17 = .ok (.iload_n 2, 1) := by decide +kernel
theorem dX8_addPhase_18 : decode cX8_addPhase 18 = .ok (.invokevirtual 58, 3) := by decide +kernel
theorem dX8_addPhase_21 : decode cX8_addPhase 21 = .ok (.ifCond .eq 7, 3) := by decide +kernel
theorem dX8_addPhase_24 : decode cX8_addPhase 24 = .ok (.iconst 1, 1) := by decide +kernel
theorem dX8_addPhase_25 : decode cX8_addPhase 25 = .ok (.goto 4, 3) := by decide +kernel
theorem dX8_addPhase_29 : decode cX8_addPhase 29 = .ok (.invokestatic 36, 3) := by decide +kernel
theorem dX8_addPhase_32 : decode cX8_addPhase 32 = .ok (.iload_n 3, 1) := by decide +kernel
theorem dX8_addPhase_33 : decode cX8_addPhase 33 = .ok (.iconst 1, 1) := by decide +kernel
theorem dX8_addPhase_34 : decode cX8_addPhase 34 = .ok (.bipush 40, 2) := by decide +kernel
theorem dX8_addPhase_36 : decode cX8_addPhase 36 = .ok (.invokestatic 39, 3) := by decide +kernel
theorem dX8_addPhase_39 : decode cX8_addPhase 39 = .ok (.invokestatic 36, 3) := by decide +kernel
theorem dX8_addPhase_42 : decode cX8_addPhase 42 = .ok (.iload 4, 2) := by decide +kernel
theorem dX8_addPhase_44 : decode cX8_addPhase 44 = .ok (.iload_n 3, 1) := by decide +kernel
theorem dX8_addPhase_45 : decode cX8_addPhase 45 = .ok (.bipush 40, 2) := by decide +kernel
theorem dX8_addPhase_47 : decode cX8_addPhase 47 = .ok (.invokestatic 39, 3) := by decide +kernel
theorem dX8_addPhase_50 : decode cX8_addPhase 50 = .ok (.invokestatic 36, 3) := by decide +kernel
theorem dX8_addPhase_53 : decode cX8_addPhase 53 = .ok (.aload_n 0, 1) := by decide +kernel
theorem dX8_addPhase_54 : decode cX8_addPhase 54 = .ok (.getfield 12, 3) := by decide +kernel
theorem dX8_addPhase_57 : decode cX8_addPhase 57 = .ok (.getfield 62, 3) := by decide +kernel
theorem dX8_addPhase_60 : decode cX8_addPhase 60 = .ok (.iload_n 1, 1) := by decide +kernel
theorem dX8_addPhase_61 : decode cX8_addPhase 61 = .ok (.aaload, 1) := by decide +kernel
theorem dX8_addPhase_62 : decode cX8_addPhase 62 = .ok (.astore 5, 2) := by decide +kernel
theorem dX8_addPhase_64 : decode cX8_addPhase 64 = .ok (.aload 5, 2) := by decide +kernel
theorem dX8_addPhase_66 : decode cX8_addPhase 66 = .ok (.getfield 66, 3) := by decide +kernel
theorem dX8_addPhase_69 : decode cX8_addPhase 69 = .ok (.iconst 4, 1) := by decide +kernel
theorem dX8_addPhase_70 : decode cX8_addPhase 70 = .ok (.if_icmp .lt 13, 3) := by decide +kernel
theorem dX8_addPhase_83 : decode cX8_addPhase 83 = .ok (.aload 5, 2) := by decide +kernel
theorem dX8_addPhase_85 : decode cX8_addPhase 85 = .ok (.iload_n 2, 1) := by decide +kernel
theorem dX8_addPhase_86 : decode cX8_addPhase 86 = .ok (.iload_n 3, 1) := by decide +kernel
theorem dX8_addPhase_87 : decode cX8_addPhase 87 = .ok (.iload 4, 2) := by decide +kernel
theorem dX8_addPhase_89 : decode cX8_addPhase 89 = .ok (.invokevirtual 73, 3) := by decide +kernel
theorem dX8_addPhase_92 : decode cX8_addPhase 92 = .ok (.ireturn, 1) := by decide +kernel
theorem dX8_setRefresh_0 : decode cX8_setRefresh 0 = .ok (.iload_n 1, 1) := by decide +kernel
theorem dX8_setRefresh_1 : decode cX8_setRefresh 1 = .ok (.iconst 1, 1) := by decide +kernel
theorem dX8_setRefresh_2 : decode cX8_setRefresh 2 = .ok (.bipush 30, 2) := by decide +kernel
theorem dX8_setRefresh_4 : decode cX8_setRefresh 4 = .ok (.invokestatic 39, 3) := by decide +kernel
theorem dX8_setRefresh_7 : decode cX8_setRefresh 7 = .ok (.invokestatic 36, 3) := by decide +kernel
theorem dX8_setRefresh_10 : decode cX8_setRefresh 10 = .ok (.aload_n 0, 1) := by decide +kernel
theorem dX8_setRefresh_11 : decode cX8_setRefresh 11 = .ok (.getfield 12, 3) := by decide +kernel
theorem dX8_setRefresh_14 : decode cX8_setRefresh 14 = .ok (.getfield 80, 3) := by decide +kernel
theorem dX8_setRefresh_17 : decode cX8_setRefresh 17 = .ok (.istore_n 2, 1) := by decide +kernel
theorem dX8_setRefresh_18 : decode cX8_setRefresh 18 = .ok (.aload_n 0, 1) := by decide +kernel
theorem dX8_setRefresh_19 : decode cX8_setRefresh 19 = .ok (.getfield 12, 3) := by decide +kernel
theorem dX8_setRefresh_22 : decode cX8_setRefresh 22 = .ok (.iload_n 1, 1) := by decide +kernel
theorem dX8_setRefresh_23 : decode cX8_setRefresh 23 = .ok (.putfield 80, 3) := by decide +kernel
theorem dX8_setRefresh_26 : decode cX8_setRefresh 26 = .ok (.iload_n 2, 1) := by decide +kernel
theorem dX8_setRefresh_27 : decode cX8_setRefresh 27 = .ok (.ireturn, 1) := by decide +kernel
theorem dX8_slow_0 : decode cX8_slow 0 = .ok (.aload_n 0, 1) := by decide +kernel
theorem dX8_slow_1 : decode cX8_slow 1 = .ok (.iload_n 1, 1) := by decide +kernel
theorem dX8_slow_2 : decode cX8_slow 2 = .ok (.invokevirtual 83, 3) := by decide +kernel
theorem dX8_slow_5 : decode cX8_slow 5 = .ok (.astore 4, 2) := by decide +kernel
theorem dX8_slow_7 : decode cX8_slow 7 = .ok (.iload_n 2, 1) := by decide +kernel
theorem dX8_slow_8 : decode cX8_slow 8 = .ok (.iconst 0, 1) := by decide +kernel
theorem dX8_slow_9 : decode cX8_slow 9 = .ok (.iconst 3, 1) := by decide +kernel
theorem dX8_slow_10 : decode cX8_slow 10 = .ok (.invokestatic 39, 3) := by decide +kernel
theorem dX8_slow_13 : decode cX8_slow 13 = .ok (.invokestatic 36, 3) := by decide +kernel
theorem dX8_slow_16 : decode cX8_slow 16 = .ok (.iload_n 3, 1) := by decide +kernel
theorem dX8_slow_17 : decode cX8_slow 17 = .ok (.iconst 1, 1) := by decide +kernel
theorem dX8_slow_18 : decode cX8_slow 18 = .ok (.sipush 200, 3) := by decide +kernel
theorem dX8_slow_21 : decode cX8_slow 21 = .ok (.invokestatic 39, 3) := by decide +kernel
theorem dX8_slow_24 : decode cX8_slow 24 = .ok (.invokestatic 36, 3) := by decide +kernel
theorem dX8_slow_27 : decode cX8_slow 27 = .ok (.aload 4, 2) := by decide +kernel
theorem dX8_slow_29 : decode cX8_slow 29 = .ok (.getfield 96, 3) := by decide +kernel
theorem dX8_slow_32 : decode cX8_slow 32 = .ok (.istore 5, 2) := by decide +kernel
theorem dX8_slow_34 : decode cX8_slow 34 = .ok (.aload 4, 2) := by decide +kernel
theorem dX8_slow_36 : decode cX8_slow 36 = .ok (.iload_n 2, 1) := by decide +kernel
theorem dX8_slow_37 : decode cX8_slow 37 = .ok (.putfield 96, 3) := by decide +kernel
theorem dX8_slow_40 : decode cX8_slow 40 = .ok (.aload 4, 2) := by decide +kernel
theorem dX8_slow_42 : decode cX8_slow 42 = .ok (.iload_n 3, 1) := by decide +kernel
theorem dX8_slow_43 : decode cX8_slow 43 = .ok (.putfield 99, 3) := by decide +kernel
theorem dX8_slow_46 : decode cX8_slow 46 = .ok (.iload 5, 2) := by decide +kernel
theorem dX8_slow_48 : decode cX8_slow 48 = .ok (.ireturn, 1) := by decide +kernel
theorem dX8_shut_0 : decode cX8_shut 0 = .ok (.aload_n 0, 1) := by decide +kernel
theorem dX8_shut_1 : decode cX8_shut 1 = .ok (.iload_n 1, 1) := by decide +kernel
theorem dX8_shut_2 : decode cX8_shut 2 = .ok (.invokevirtual 83, 3) := by decide +kernel
theorem dX8_shut_5 : decode cX8_shut 5 = .ok (.astore_n 3, 1) := by decide +kernel
theorem dX8_shut_6 : decode cX8_shut 6 = .ok (.aload_n 3, 1) := by decide +kernel
theorem dX8_shut_7 : decode cX8_shut 7 = .ok (.getfield 87, 3) := by decide +kernel
theorem dX8_shut_10 : decode cX8_shut 10 = .ok (.istore 4, 2) := by decide +kernel
theorem dX8_shut_12 : decode cX8_shut 12 = .ok (.iload 4, 2) := by decide +kernel
theorem dX8_shut_14 : decode cX8_shut 14 = .ok (.iload_n 2, 1) := by decide +kernel
theorem dX8_shut_15 : decode cX8_shut 15 = .ok (.if_icmp .eq 18, 3) := by decide +kernel
theorem dX8_shut_33 : decode cX8_shut 33 = .ok (.iload 4, 2) := by decide +kernel
theorem dX8_shut_35 : decode cX8_shut 35 = .ok (.ireturn, 1) := by decide +kernel
theorem dX8_shut_18 : decode cX8_shut 18 = .ok (.aload_n 3, 1) := by decide +kernel
theorem dX8_shut_19 : decode cX8_shut 19 = .ok (.iload_n 2, 1) := by decide +kernel
theorem dX8_shut_20 : decode cX8_shut 20 = .ok (.putfield 87, 3) := by decide +kernel
theorem dX8_shut_23 : decode cX8_shut 23 = .ok (.aload_n 0, 1) := by decide +kernel
theorem dX8_shut_24 : decode cX8_shut 24 = .ok (.getfield 12, 3) := by decide +kernel
theorem dX8_shut_27 : decode cX8_shut 27 = .ok (.getfield 43, 3) := by decide +kernel
theorem dX8_shut_30 : decode cX8_shut 30 = .ok (.invokevirtual 93, 3) := by decide +kernel
theorem dX8_addFlow_0 : decode cX8_addFlow 0 = .ok (.aload_n 0, 1) := by decide +kernel
theorem dX8_addFlow_1 : decode cX8_addFlow 1 = .ok (.iload_n 1, 1) := by decide +kernel
theorem dX8_addFlow_2 : decode cX8_addFlow 2 = .ok (.invokevirtual 32, 3) := by decide +kernel
theorem dX8_addFlow_5 : decode cX8_addFlow 5 = .ok (.aload_n 0, 1) := by decide +kernel
theorem dX8_addFlow_6 : decode cX8_addFlow 6 = .ok (.iload_n 2, 1) := by decide +kernel
theorem dX8_addFlow_7 : decode cX8_addFlow 7 = .ok (.invokevirtual 32, 3) := by decide +kernel
theorem dX8_addFlow_10 : decode cX8_addFlow 10 = .ok (.iload_n 1, 1) := by decide +kernel
theorem dX8_addFlow_11 : decode cX8_addFlow 11 = .ok (.iload_n 2, 1) := by decide +kernel
theorem dX8_addFlow_12 : decode cX8_addFlow 12 = .ok (.if_icmp .eq 7, 3) := by decide +kernel
theorem dX8_addFlow_15 : decode cX8_addFlow 15 = .ok (.iconst 1, 1) := by decide +kernel
theorem dX8_addFlow_16 : decode cX8_addFlow 16 = .ok (.goto 4, 3) := by decide +kernel
theorem dX8_addFlow_20 : decode cX8_addFlow 20 = .ok (.invokestatic 36, 3) := by decide +kernel
theorem dX8_addFlow_23 : decode cX8_addFlow 23 = .ok (.iload_n 3, 1) := by decide +kernel
theorem dX8_addFlow_24 : decode cX8_addFlow 24 = .ok (.iconst 0, 1) := by decide +kernel
theorem dX8_addFlow_25 : decode cX8_addFlow 25 = .ok (.iconst 1, 1) := by decide +kernel
theorem dX8_addFlow_26 : decode cX8_addFlow 26 = .ok (.invokestatic 39, 3) := by decide +kernel
theorem dX8_addFlow_29 : decode cX8_addFlow 29 = .ok (.invokestatic 36, 3) := by decide +kernel
theorem dX8_addFlow_32 : decode cX8_addFlow 32 = .ok (.iload 4, 2) := by decide +kernel
theorem dX8_addFlow_34 : decode cX8_addFlow 34 = .ok (.aload_n 0, 1) := by decide +kernel
theorem dX8_addFlow_35 : decode cX8_addFlow 35 = .ok (.getfield 12, 3) := by decide +kernel
theorem dX8_addFlow_38 : decode cX8_addFlow 38 = .ok (.getfield 102, 3) := by decide +kernel
theorem dX8_addFlow_41 : decode cX8_addFlow 41 = .ok (.aload_n 0, 1) := by decide +kernel
theorem dX8_addFlow_42 : decode cX8_addFlow 42 = .ok (.getfield 12, 3) := by decide +kernel
theorem dX8_addFlow_45 : decode cX8_addFlow 45 = .ok (.getfield 102, 3) := by decide +kernel
theorem dX8_addFlow_48 : decode cX8_addFlow 48 = .ok (.sipush 500, 3) := by decide +kernel
theorem dX8_addFlow_51 : decode cX8_addFlow 51 = .ok (.iadd, 1) := by decide +kernel
theorem dX8_addFlow_52 : decode cX8_addFlow 52 = .ok (.invokestatic 39, 3) := by decide +kernel
theorem dX8_addFlow_55 : decode cX8_addFlow 55 = .ok (.invokestatic 36, 3) := by decide +kernel
theorem dX8_addFlow_58 : decode cX8_addFlow 58 = .ok (.iload 5, 2) := by decide +kernel
theorem dX8_addFlow_60 : decode cX8_addFlow 60 = .ok (.iconst 1, 1) := by decide +kernel
theorem dX8_addFlow_61 : decode cX8_addFlow 61 = .ok (.bipush 30, 2) := by decide +kernel
theorem dX8_addFlow_63 : decode cX8_addFlow 63 = .ok (.invokestatic 39, 3) := by decide +kernel
theorem dX8_addFlow_66 : decode cX8_addFlow 66 = .ok (.invokestatic 36, 3) := by decide +kernel
theorem dX8_addFlow_69 : decode cX8_addFlow 69 = .ok (.iload 6, 2) := by decide +kernel
theorem dX8_addFlow_71 : decode cX8_addFlow 71 = .ok (.iconst 1, 1) := by decide +kernel
theorem dX8_addFlow_72 : decode cX8_addFlow 72 = .ok (.bipush 40, 2) := by decide +kernel
theorem dX8_addFlow_74 : decode cX8_addFlow 74 = .ok (.invokestatic 39, 3) := by decide +kernel
theorem dX8_addFlow_77 : decode cX8_addFlow 77 = .ok (.invokestatic 36, 3) := by decide +kernel
theorem dX8_addFlow_80 : decode cX8_addFlow 80 = .ok (.aload_n 0, 1) := by decide +kernel
theorem dX8_addFlow_81 : decode cX8_addFlow 81 = .ok (.getfield 12, 3) := by decide +kernel
theorem dX8_addFlow_84 : decode cX8_addFlow 84 = .ok (.getfield 105, 3) := by decide +kernel
theorem dX8_addFlow_87 : decode cX8_addFlow 87 = .ok (.bipush 10, 2) := by decide +kernel
theorem dX8_addFlow_89 : decode cX8_addFlow 89 = .ok (.if_icmp .lt 13, 3) := by decide +kernel
theorem dX8_addFlow_102 : decode cX8_addFlow 102 = .ok (.aload_n 0, 1) := by decide +kernel
theorem dX8_addFlow_103 : decode cX8_addFlow 103 = .ok (.getfield 12, 3) := by decide +kernel
theorem dX8_addFlow_106 : decode cX8_addFlow 106 = .ok (.getfield 110, 3) := by decide +kernel
theorem dX8_addFlow_109 : decode cX8_addFlow 109 = .ok (.aload_n 0, 1) := by decide +kernel
theorem dX8_addFlow_110 : decode cX8_addFlow 110 = .ok (.getfield 12, 3) := by decide +kernel
theorem dX8_addFlow_113 : decode cX8_addFlow 113 = .ok (.getfield 105, 3) := by decide +kernel
theorem dX8_addFlow_116 : decode cX8_addFlow 116 = .ok (.aaload, 1) := by decide +kernel
theorem dX8_addFlow_117 : decode cX8_addFlow 117 = .ok (.iload_n 1, 1) := by decide +kernel
theorem dX8_addFlow_118 : decode cX8_addFlow 118 = .ok (.iload_n 2, 1) := by decide +kernel
theorem dX8_addFlow_119 : decode cX8_addFlow 119 = .ok (.iload_n 3, 1) := by decide +kernel
theorem dX8_addFlow_120 : decode cX8_addFlow 120 = .ok (.iload 4, 2) := by decide +kernel
theorem dX8_addFlow_122 : decode cX8_addFlow 122 = .ok (.iload 5, 2) := by decide +kernel
theorem dX8_addFlow_124 : decode cX8_addFlow 124 = .ok (.iload 6, 2) := by decide +kernel
theorem dX8_addFlow_126 : decode cX8_addFlow 126 = .ok (.invokevirtual 114, 3) := by decide +kernel
theorem dX8_addFlow_129 : decode cX8_addFlow 129 = .ok (.aload_n 0, 1) := by decide +kernel
theorem dX8_addFlow_130 : decode cX8_addFlow 130 = .ok (.getfield 12, 3) := by decide +kernel
theorem dX8_addFlow_133 : decode cX8_addFlow 133 = .ok (.dup, 1) := by decide +kernel
theorem dX8_addFlow_134 : decode cX8_addFlow 134 = .ok (.getfield 105, 3) := by decide +kernel
theorem dX8_addFlow_137 : decode cX8_addFlow 137 = .ok (.dup_x1, 1) := by decide +kernel
theorem dX8_addFlow_138 : decode cX8_addFlow 138 = .ok (.iconst 1, 1) := by decide +kernel
theorem dX8_addFlow_139 : decode cX8_addFlow 139 = .ok (.iadd, 1) := by decide +kernel
theorem dX8_addFlow_140 : decode cX8_addFlow 140 = .ok (.putfield 105, 3) := by decide +kernel
theorem dX8_addFlow_143 : decode cX8_addFlow 143 = .ok (.ireturn, 1) := by decide +kernel
set_option maxRecDepth 100000 in
set_option maxHeartbeats 4000000 in
/-- addNode -/
theorem c_addNode (l : Launch) (dC : Nat → ClassId) (dI : Nat → Nat → Nat) (cy : Nat → ClassId) (L : Lay) (tr : Option Nat) (a : St) (κ : Kap) (τ : Tau) (ob : Nat) (tp : Nat) (M : Nat) (sz : Nat) (hT : TL L tr τ) (hw : Wf M a) (h12 : (a 0 0 2).toInt < 12) : Met l yX8_addNode (tp_w yX8_addNode cX8_addNode 1 (some .int)) ({ frames := 0, cells := 0, slots := 0, locals := 0 }) (va_Pc [.ref ob] (mPre dC dI cy (fun q e => TW cy L tr a κ τ q e ∨ oW ob (L 0 0) tp q e) sz)) (va_Qi (fun (r u : Int32) => r = u) (fun (u : Int32) (t : State) => (u = a 0 0 2) ∧ mw (dC, dI) vwCl (mA (fun q e => TW cy L tr a κ τ q e ∨ oW ob (L 0 0) tp q e) sz) (fun q e => TW cy L tr (U_node a) κ τ q e ∨ oW ob (L 0 0) tp q e) t.heap) (mA (fun q e => TW cy L tr a κ τ q e ∨ oW ob (L 0 0) tp q e) sz)) (0) (0) (mA (fun q e => TW cy L tr a κ τ q e ∨ oW ob (L 0 0) tp q e) sz) := by
  refine Met.ofW (cc := cX8_addNode) (maxL := 1) (ret := (some .int)) (by decide) rfl ?_
  intro p e s m args below meth c s₁ B hml hv
  obtain ⟨rfl, hsz, hP, hK, hE⟩ := hv
  have hx := B.exec
  have hb := B.bytes
  have hr := B.returns
  have hts0 := atoms_spec (ws := tp_w yX8_addNode cX8_addNode 1 (some .int)) B.pre
  have hts : ∀ w ∈ tp_all, w.before _ s = true := fun w h => hts0 w (List.mem_cons_of_mem _ h)
  have hown : s.vm.findClass RX8 = some m.cls := findClass_of_methodNamed B.named
  have hlocks := B.notSynchronized
  subst hsz
  have hP := hP.self s.heap.size
  generalize hAe : mA (fun q e => TW cy L tr a κ τ q e ∨ oW ob (L 0 0) tp q e) s.heap.size = A at hP ⊢
  have hA : ∀ q : Nat, s.heap.size ≤ q → A q := fun q h => by rw [← hAe]; exact Or.inr h
  have hS : va_S A s.heap s.heap [] := va_S.rf
  have hl9 := lv_entry ([.ref ob]) (n := 1) (Nat.le_of_ble_eq_true rfl)
  rw [lg_entry_eq]
  generalize (lg_sl ([.ref ob]) ++ List.replicate (1 - (lg_sl ([.ref ob])).length) Slot.unset).toArray = ls at hl9 ⊢
  have hl : lv_has ls 1 [(0, .ref ob)] := hl9
  refine lv_aload_n hx hb dX8_addNode_0 rfl (lv_at hl 0 rfl) ?_
  refine va_get (D := (dC, dI)) (ws := [(ob, .inr (8, [.ref (L 0 0), .ref tp]))]) (ci := 8) (v := .ref (L 0 0)) (C := RX8) (T := TX8) (N := 2) hx hb hts tl_X8 hown hK (hP.one (Or.inr oW_mem)) 0 rfl rfl 0 (by decide) (hts _ tw_922) (fun _ h9 => h9) rfl dX8_addNode_1 ?_
  refine va_getN (D := (dC, dI)) (ws := [(L 0 0, .inr (5, [.ref (L 1 0), .ref (L 20 0), .ref (L 21 0), .ref (L 22 0), .ref (L 23 0), va_rf tr, .int ((a 0 0) 0), .int ((a 0 0) 1), .int ((a 0 0) 2), .int ((a 0 0) 3), .int ((a 0 0) 4), .int ((a 0 0) 5)]))]) (ci := 5) (v := .int ((a 0 0) 2)) (C := RX5) (T := TX5) (N := 12) hx hb hts tl_X5 hown hK (hP.one (Or.inl (tw_mem (f := 0) (i := 0) (by decide) rfl))) 0 rfl rfl 8 (by decide) (va_Nw.use rfl (te_f68 hE)) (fun _ h9 => h9) rfl dX8_addNode_4 ?_
  refine lv_bipush (v := 12) hx hb dX8_addNode_7 (by decide) ?_
  refine lv_icmp_lt (tgt := 22) hx hb dX8_addNode_9 (by decide) (fun _ => ?_) (fun c_1 => absurd (Int32.lt_iff_toInt_lt.mpr h12) c_1)
  refine lv_aload_n hx hb dX8_addNode_22 rfl (lv_at hl 0 rfl) ?_
  refine va_get (D := (dC, dI)) (ws := [(ob, .inr (8, [.ref (L 0 0), .ref tp]))]) (ci := 8) (v := .ref (L 0 0)) (C := RX8) (T := TX8) (N := 2) hx hb hts tl_X8 hown hK (hP.one (Or.inr oW_mem)) 0 rfl rfl 0 (by decide) (hts _ tw_922) (fun _ h9 => h9) rfl dX8_addNode_23 ?_
  refine lv_dup hx hb dX8_addNode_26 rfl ?_
  refine va_getN (D := (dC, dI)) (ws := [(L 0 0, .inr (5, [.ref (L 1 0), .ref (L 20 0), .ref (L 21 0), .ref (L 22 0), .ref (L 23 0), va_rf tr, .int ((a 0 0) 0), .int ((a 0 0) 1), .int ((a 0 0) 2), .int ((a 0 0) 3), .int ((a 0 0) 4), .int ((a 0 0) 5)]))]) (ci := 5) (v := .int ((a 0 0) 2)) (C := RX5) (T := TX5) (N := 12) hx hb hts tl_X5 hown hK (hP.one (Or.inl (tw_mem (f := 0) (i := 0) (by decide) rfl))) 0 rfl rfl 8 (by decide) (va_Nw.use rfl (te_f68 hE)) (fun _ h9 => h9) rfl dX8_addNode_27 ?_
  refine lv_dup_x1 hx hb dX8_addNode_30 rfl rfl ?_
  refine lv_iconst (v := 1) hx hb dX8_addNode_31 (by decide) ?_
  refine lv_iadd hx hb dX8_addNode_32 ?_
  obtain ⟨ws9, k9, hPw, hDw, hk9, -, hbk⟩ := hP.cut (e := .inr (5, [.ref (L 1 0), .ref (L 20 0), .ref (L 21 0), .ref (L 22 0), .ref (L 23 0), va_rf tr, .int ((a 0 0) 0), .int ((a 0 0) 1), .int ((a 0 0) 2), .int ((a 0 0) 3), .int ((a 0 0) 4), .int ((a 0 0) 5)])) (Or.inl (tw_mem (f := 0) (i := 0) (by decide) rfl))
  refine va_putN (D := (dC, dI)) (ci := 5) (v := .int (((a 0 0) 2) + 1)) (ty := .int) (C := RX5) (T := TX5) (N := 12) hx hb hts tl_X5 tyX5 tyX5_ok nmX5 hown hK hPw hDw hS k9 hk9 rfl 8 (by decide) (va_Nw.use rfl (te_f68 hE)) (fun _ h9 => h9) rfl (by decide +kernel) rfl rfl (Nat.le_of_ble_eq_true rfl) dX8_addNode_33 (fun H locs hPw hDw hS => ?_)
  have hP : mw (dC, dI) vwCl A (fun q e => TW cy L tr (S2 a 0 0 (upd (a 0 0) 2 (((a 0 0) 2) + 1))) κ τ q e ∨ oW ob (L 0 0) tp q e) H := (hbk _ _ hPw hDw).sub (mset_l (tw_set (b := S2 a 0 0 (upd (a 0 0) 2 (((a 0 0) 2) + 1))) (f := 0) (i := 0) (x := upd (a 0 0) 2 (((a 0 0) 2) + 1)) hT (by decide) (by decide) rfl) (fun q e h => ow_off hP (fun _ _ h => Or.inl h) (fun _ _ h => Or.inr h) (by decide) h))
  clear hbk hPw hDw hk9
  refine W.widen (k := 0) (n := 0) (Nat.le_of_ble_eq_true rfl) (Nat.le_of_ble_eq_true rfl) ?_
  have s_1 : S2 a 0 0 (upd (a 0 0) 2 (((a 0 0) 2) + 1)) = U_node a := by
    rfl
  rw [s_1] at hP
  have g_1 : ((a 0 0) 2) = a 0 0 2 := by
    rfl
  exact W.iret (v := (a 0 0) 2) hx hb hr (fun t ht hW => ⟨⟨((a 0 0) 2), ((a 0 0) 2), rfl, rfl, ⟨g_1, by show mw _ _ _ _ t.heap; rw [ht]; exact hP⟩⟩, hS.F ht⟩) hS.2.2 dX8_addNode_36
set_option maxRecDepth 100000 in
set_option maxHeartbeats 4000000 in
/-- addLink -/
theorem c_addLink (l : Launch) (dC : Nat → ClassId) (dI : Nat → Nat → Nat) (cy : Nat → ClassId) (L : Lay) (tr : Option Nat) (a : St) (κ : Kap) (τ : Tau) (ob : Nat) (tp : Nat) (M : Nat) (fr : Int32) (to : Int32) (ti : Int32) (ro : Int32) (ra : Int32) (sz : Nat) (hT : TL L tr τ) (hw : Wf M a) (hf : ¬ N_no a fr) (hg : ¬ N_no a to) (hne : ¬ fr = to) (hti0 : ¬ ti < 1) (hti1 : ¬ 20 < ti) (hro0 : ¬ ro < 1) (hro1 : ¬ 30 < ro) (hra0 : ¬ ra < 1) (hra1 : ¬ 3 < ra) (hl4 : (a 1 0 0).toInt < 24) : Met l yX8_addLink (tp_w yX8_addLink cX8_addLink 6 (some .int)) ({ frames := 2, cells := 0, slots := 0, locals := 46 }) (va_Pc [.ref ob, .int fr, .int to, .int ti, .int ro, .int ra] (mPre dC dI cy (fun q e => TW cy L tr a κ τ q e ∨ oW ob (L 0 0) tp q e) sz)) (va_Qi (fun (r u : Int32) => r = u) (fun (u : Int32) (t : State) => (u = a 1 0 0) ∧ mw (dC, dI) vwCl (mA (fun q e => TW cy L tr a κ τ q e ∨ oW ob (L 0 0) tp q e) sz) (fun q e => TW cy L tr (G_lay a fr to ti ro ra) ((0, κ.2)) τ q e ∨ oW ob (L 0 0) tp q e) t.heap) (mA (fun q e => TW cy L tr a κ τ q e ∨ oW ob (L 0 0) tp q e) sz)) (0) (0) (mA (fun q e => TW cy L tr a κ τ q e ∨ oW ob (L 0 0) tp q e) sz) := by
  refine Met.ofW (cc := cX8_addLink) (maxL := 6) (ret := (some .int)) (by decide) rfl ?_
  intro p e s m args below meth c s₁ B hml hv
  obtain ⟨rfl, hsz, hP, hK, hE⟩ := hv
  have hx := B.exec
  have hb := B.bytes
  have hr := B.returns
  have hts0 := atoms_spec (ws := tp_w yX8_addLink cX8_addLink 6 (some .int)) B.pre
  have hts : ∀ w ∈ tp_all, w.before _ s = true := fun w h => hts0 w (List.mem_cons_of_mem _ h)
  have hown : s.vm.findClass RX8 = some m.cls := findClass_of_methodNamed B.named
  have hlocks := B.notSynchronized
  subst hsz
  have hP := hP.self s.heap.size
  generalize hAe : mA (fun q e => TW cy L tr a κ τ q e ∨ oW ob (L 0 0) tp q e) s.heap.size = A at hP ⊢
  have hA : ∀ q : Nat, s.heap.size ≤ q → A q := fun q h => by rw [← hAe]; exact Or.inr h
  have hS : va_S A s.heap s.heap [] := va_S.rf
  have hl9 := lv_entry ([.ref ob, .int fr, .int to, .int ti, .int ro, .int ra]) (n := 6) (Nat.le_of_ble_eq_true rfl)
  rw [lg_entry_eq]
  generalize (lg_sl ([.ref ob, .int fr, .int to, .int ti, .int ro, .int ra]) ++ List.replicate (6 - (lg_sl ([.ref ob, .int fr, .int to, .int ti, .int ro, .int ra])).length) Slot.unset).toArray = ls at hl9 ⊢
  have hl : lv_has ls 6 [(0, .ref ob), (1, .int fr), (2, .int to), (3, .int ti), (4, .int ro), (5, .int ra)] := hl9
  refine lv_aload_n hx hb dX8_addLink_0 rfl (lv_at hl 0 rfl) ?_
  refine lv_iload_n hx hb dX8_addLink_1 rfl (lv_at hl 1 rfl) ?_
  have hFc := m_free (C := (fun q e => TW cy L tr a κ τ q e ∨ oW ob (L 0 0) tp q e)) hP hS hA (fun _ _ h => h)
  refine va_callv (va_runV (As := [.int fr]) (rest := []) ⟨hx, hb, hml, hown, hts⟩ (c_checkNode l dC dI cy L tr a κ τ ob tp fr s.heap.size hT hf) (tp_cwV 1 hts tw_426 tw_428 tw_13 tw_20 tw_429 rfl rfl (by decide +kernel) ⟨Nat.le_of_ble_eq_true rfl, Nat.le_of_ble_eq_true rfl⟩) ⟨m_blind, va_recv hK (hP.one (e := .inr (8, [.ref (L 0 0), .ref tp])) (Or.inr oW_mem)) (ci := 8) (q0 := 0) rfl rfl, fun U hU hW => ⟨rfl, m_pay hK hP hE (fun _ _ h => h) U hU hW⟩⟩ rfl rfl hl.1 rfl (lv_room (Nat.le_of_ble_eq_true rfl)) dX8_addLink_2 ⟨(Nat.le_of_ble_eq_true rfl), (Nat.le_of_ble_eq_true rfl)⟩) hS (fun q _ h => hFc q h) hFc (fun u t H1 locs ht hvm hpo hB hz1 hk1 hS => ?_)
  have hP1 := hB
  rw [ht] at hP1
  have hP : mw (dC, dI) vwCl A (fun q e => TW cy L tr a κ τ q e ∨ oW ob (L 0 0) tp q e) H1 := hP.join (fun _ _ h => h) hk1 hFc hP1 (fun _ _ h => Or.inl h)
  generalize H1 = H at hP hS ⊢
  clear hP1 hk1 hFc
  refine lv_aload_n hx hb dX8_addLink_5 rfl (lv_at hl 0 rfl) ?_
  refine lv_iload_n hx hb dX8_addLink_6 rfl (lv_at hl 2 rfl) ?_
  have hFc := m_free (C := (fun q e => TW cy L tr a κ τ q e ∨ oW ob (L 0 0) tp q e)) hP hS hA (fun _ _ h => h)
  refine va_callv (va_runV (As := [.int to]) (rest := []) ⟨hx, hb, hml, hown, hts⟩ (c_checkNode l dC dI cy L tr a κ τ ob tp to H.size hT hg) (tp_cwV 1 hts tw_426 tw_428 tw_13 tw_20 tw_429 rfl rfl (by decide +kernel) ⟨Nat.le_of_ble_eq_true rfl, Nat.le_of_ble_eq_true rfl⟩) ⟨m_blind, va_recv hK (hP.one (e := .inr (8, [.ref (L 0 0), .ref tp])) (Or.inr oW_mem)) (ci := 8) (q0 := 0) rfl rfl, fun U hU hW => ⟨rfl, m_pay hK hP hE (fun _ _ h => h) U hU hW⟩⟩ rfl rfl hl.1 rfl (lv_room (Nat.le_of_ble_eq_true rfl)) dX8_addLink_7 ⟨(Nat.le_of_ble_eq_true rfl), (Nat.le_of_ble_eq_true rfl)⟩) hS (fun q _ h => hFc q h) hFc (fun u t H1 locs ht hvm hpo hB hz1 hk1 hS => ?_)
  have hP1 := hB
  rw [ht] at hP1
  have hP : mw (dC, dI) vwCl A (fun q e => TW cy L tr a κ τ q e ∨ oW ob (L 0 0) tp q e) H1 := hP.join (fun _ _ h => h) hk1 hFc hP1 (fun _ _ h => Or.inl h)
  generalize H1 = H at hP hS ⊢
  clear hP1 hk1 hFc
  refine lv_iload_n hx hb dX8_addLink_10 rfl (lv_at hl 1 rfl) ?_
  refine lv_iload_n hx hb dX8_addLink_11 rfl (lv_at hl 2 rfl) ?_
  refine lv_icmp_eq (tgt := 19) hx hb dX8_addLink_12 (by decide) (fun c_1 => absurd c_1 hne) (fun _ => ?_)
  refine lv_iconst (v := 1) hx hb dX8_addLink_15 (by decide) ?_
  refine lv_goto (tgt := 20) hx hb dX8_addLink_16 (by decide) ?_
  have hFc := m_free (C := (fun q e => TW cy L tr a κ τ q e ∨ oW ob (L 0 0) tp q e)) hP hS hA (fun _ _ h => h)
  refine va_callv (va_runS (As := [.int 1]) (rest := []) ⟨hx, hb, hml, hown, hts⟩ (c_checkArgument l dC dI cy ((fun q e => TW cy L tr a κ τ q e ∨ oW ob (L 0 0) tp q e)) 1 H.size (by decide)) (tp_cwS 1 hts tw_45 tw_46 tw_20 tw_47 rfl rfl (by decide +kernel) ⟨Nat.le_of_ble_eq_true rfl, Nat.le_of_ble_eq_true rfl⟩) ⟨m_blind, fun U hU hW => ⟨rfl, m_pay hK hP hE (fun _ _ h => h) U hU hW⟩⟩ rfl rfl hl.1 rfl (lv_room (Nat.le_of_ble_eq_true rfl)) dX8_addLink_20 ⟨(Nat.le_of_ble_eq_true rfl), (Nat.le_of_ble_eq_true rfl)⟩) hS (fun q _ h => hFc q h) hFc (fun u t H1 locs ht hvm hpo hB hz1 hk1 hS => ?_)
  have hP1 := hB
  rw [ht] at hP1
  have hP : mw (dC, dI) vwCl A (fun q e => TW cy L tr a κ τ q e ∨ oW ob (L 0 0) tp q e) H1 := hP.join (fun _ _ h => h) hk1 hFc hP1 (fun _ _ h => Or.inl h)
  generalize H1 = H at hP hS ⊢
  clear hP1 hk1 hFc
  refine lv_iload_n hx hb dX8_addLink_23 rfl (lv_at hl 3 rfl) ?_
  refine lv_iconst (v := 1) hx hb dX8_addLink_24 (by decide) ?_
  refine lv_bipush (v := 20) hx hb dX8_addLink_25 (by decide) ?_
  have hFc := m_free (C := (fun q e => TW cy L tr a κ τ q e ∨ oW ob (L 0 0) tp q e)) hP hS hA (fun _ _ h => h)
  refine va_calli (va_runS (As := [.int ti, .int 1, .int 20]) (rest := []) ⟨hx, hb, hml, hown, hts⟩ (c_isWithin l dC dI cy ((fun q e => TW cy L tr a κ τ q e ∨ oW ob (L 0 0) tp q e)) ti 1 20 H.size) (tp_cwS 3 hts tw_42 tw_43 tw_20 tw_44 rfl rfl (by decide +kernel) ⟨Nat.le_of_ble_eq_true rfl, Nat.le_of_ble_eq_true rfl⟩) ⟨m_blind, fun U hU hW => ⟨rfl, m_pay hK hP hE (fun _ _ h => h) U hU hW⟩⟩ rfl rfl hl.1 rfl (lv_room (Nat.le_of_ble_eq_true rfl)) dX8_addLink_27 ⟨(Nat.le_of_ble_eq_true rfl), (Nat.le_of_ble_eq_true rfl)⟩) hS (fun q _ h => hFc q h) hFc (fun r_4 u t H1 locs ht hvm hpo hB hz1 hk1 hS => ?_)
  obtain rfl := hpo
  obtain ⟨f_1, hP1⟩ := hB
  subst f_1
  rw [ht] at hP1
  have hP : mw (dC, dI) vwCl A (fun q e => TW cy L tr a κ τ q e ∨ oW ob (L 0 0) tp q e) H1 := hP.join (fun _ _ h => h) hk1 hFc hP1 (fun _ _ h => Or.inl h)
  generalize H1 = H at hP hS ⊢
  clear hP1 hk1 hFc
  have hFc := m_free (C := (fun q e => TW cy L tr a κ τ q e ∨ oW ob (L 0 0) tp q e)) hP hS hA (fun _ _ h => h)
  refine va_callv (va_runS (As := [.int (W_in ti 1 20)]) (rest := []) ⟨hx, hb, hml, hown, hts⟩ (c_checkArgument l dC dI cy ((fun q e => TW cy L tr a κ τ q e ∨ oW ob (L 0 0) tp q e)) (W_in ti 1 20) H.size (by rw [W_in_1 hti0 hti1]; decide)) (tp_cwS 1 hts tw_45 tw_46 tw_20 tw_47 rfl rfl (by decide +kernel) ⟨Nat.le_of_ble_eq_true rfl, Nat.le_of_ble_eq_true rfl⟩) ⟨m_blind, fun U hU hW => ⟨rfl, m_pay hK hP hE (fun _ _ h => h) U hU hW⟩⟩ rfl rfl hl.1 rfl (lv_room (Nat.le_of_ble_eq_true rfl)) dX8_addLink_30 ⟨(Nat.le_of_ble_eq_true rfl), (Nat.le_of_ble_eq_true rfl)⟩) hS (fun q _ h => hFc q h) hFc (fun u t H1 locs ht hvm hpo hB hz1 hk1 hS => ?_)
  have hP1 := hB
  rw [ht] at hP1
  have hP : mw (dC, dI) vwCl A (fun q e => TW cy L tr a κ τ q e ∨ oW ob (L 0 0) tp q e) H1 := hP.join (fun _ _ h => h) hk1 hFc hP1 (fun _ _ h => Or.inl h)
  generalize H1 = H at hP hS ⊢
  clear hP1 hk1 hFc
  refine lv_iload hx hb dX8_addLink_33 (lv_at hl 4 rfl) ?_
  refine lv_iconst (v := 1) hx hb dX8_addLink_35 (by decide) ?_
  refine lv_bipush (v := 30) hx hb dX8_addLink_36 (by decide) ?_
  have hFc := m_free (C := (fun q e => TW cy L tr a κ τ q e ∨ oW ob (L 0 0) tp q e)) hP hS hA (fun _ _ h => h)
  refine va_calli (va_runS (As := [.int ro, .int 1, .int 30]) (rest := []) ⟨hx, hb, hml, hown, hts⟩ (c_isWithin l dC dI cy ((fun q e => TW cy L tr a κ τ q e ∨ oW ob (L 0 0) tp q e)) ro 1 30 H.size) (tp_cwS 3 hts tw_42 tw_43 tw_20 tw_44 rfl rfl (by decide +kernel) ⟨Nat.le_of_ble_eq_true rfl, Nat.le_of_ble_eq_true rfl⟩) ⟨m_blind, fun U hU hW => ⟨rfl, m_pay hK hP hE (fun _ _ h => h) U hU hW⟩⟩ rfl rfl hl.1 rfl (lv_room (Nat.le_of_ble_eq_true rfl)) dX8_addLink_38 ⟨(Nat.le_of_ble_eq_true rfl), (Nat.le_of_ble_eq_true rfl)⟩) hS (fun q _ h => hFc q h) hFc (fun r_6 u t H1 locs ht hvm hpo hB hz1 hk1 hS => ?_)
  obtain rfl := hpo
  obtain ⟨f_2, hP1⟩ := hB
  subst f_2
  rw [ht] at hP1
  have hP : mw (dC, dI) vwCl A (fun q e => TW cy L tr a κ τ q e ∨ oW ob (L 0 0) tp q e) H1 := hP.join (fun _ _ h => h) hk1 hFc hP1 (fun _ _ h => Or.inl h)
  generalize H1 = H at hP hS ⊢
  clear hP1 hk1 hFc
  have hFc := m_free (C := (fun q e => TW cy L tr a κ τ q e ∨ oW ob (L 0 0) tp q e)) hP hS hA (fun _ _ h => h)
  refine va_callv (va_runS (As := [.int (W_in ro 1 30)]) (rest := []) ⟨hx, hb, hml, hown, hts⟩ (c_checkArgument l dC dI cy ((fun q e => TW cy L tr a κ τ q e ∨ oW ob (L 0 0) tp q e)) (W_in ro 1 30) H.size (by rw [W_in_1 hro0 hro1]; decide)) (tp_cwS 1 hts tw_45 tw_46 tw_20 tw_47 rfl rfl (by decide +kernel) ⟨Nat.le_of_ble_eq_true rfl, Nat.le_of_ble_eq_true rfl⟩) ⟨m_blind, fun U hU hW => ⟨rfl, m_pay hK hP hE (fun _ _ h => h) U hU hW⟩⟩ rfl rfl hl.1 rfl (lv_room (Nat.le_of_ble_eq_true rfl)) dX8_addLink_41 ⟨(Nat.le_of_ble_eq_true rfl), (Nat.le_of_ble_eq_true rfl)⟩) hS (fun q _ h => hFc q h) hFc (fun u t H1 locs ht hvm hpo hB hz1 hk1 hS => ?_)
  have hP1 := hB
  rw [ht] at hP1
  have hP : mw (dC, dI) vwCl A (fun q e => TW cy L tr a κ τ q e ∨ oW ob (L 0 0) tp q e) H1 := hP.join (fun _ _ h => h) hk1 hFc hP1 (fun _ _ h => Or.inl h)
  generalize H1 = H at hP hS ⊢
  clear hP1 hk1 hFc
  refine lv_iload hx hb dX8_addLink_44 (lv_at hl 5 rfl) ?_
  refine lv_iconst (v := 1) hx hb dX8_addLink_46 (by decide) ?_
  refine lv_iconst (v := 3) hx hb dX8_addLink_47 (by decide) ?_
  have hFc := m_free (C := (fun q e => TW cy L tr a κ τ q e ∨ oW ob (L 0 0) tp q e)) hP hS hA (fun _ _ h => h)
  refine va_calli (va_runS (As := [.int ra, .int 1, .int 3]) (rest := []) ⟨hx, hb, hml, hown, hts⟩ (c_isWithin l dC dI cy ((fun q e => TW cy L tr a κ τ q e ∨ oW ob (L 0 0) tp q e)) ra 1 3 H.size) (tp_cwS 3 hts tw_42 tw_43 tw_20 tw_44 rfl rfl (by decide +kernel) ⟨Nat.le_of_ble_eq_true rfl, Nat.le_of_ble_eq_true rfl⟩) ⟨m_blind, fun U hU hW => ⟨rfl, m_pay hK hP hE (fun _ _ h => h) U hU hW⟩⟩ rfl rfl hl.1 rfl (lv_room (Nat.le_of_ble_eq_true rfl)) dX8_addLink_48 ⟨(Nat.le_of_ble_eq_true rfl), (Nat.le_of_ble_eq_true rfl)⟩) hS (fun q _ h => hFc q h) hFc (fun r_8 u t H1 locs ht hvm hpo hB hz1 hk1 hS => ?_)
  obtain rfl := hpo
  obtain ⟨f_3, hP1⟩ := hB
  subst f_3
  rw [ht] at hP1
  have hP : mw (dC, dI) vwCl A (fun q e => TW cy L tr a κ τ q e ∨ oW ob (L 0 0) tp q e) H1 := hP.join (fun _ _ h => h) hk1 hFc hP1 (fun _ _ h => Or.inl h)
  generalize H1 = H at hP hS ⊢
  clear hP1 hk1 hFc
  have hFc := m_free (C := (fun q e => TW cy L tr a κ τ q e ∨ oW ob (L 0 0) tp q e)) hP hS hA (fun _ _ h => h)
  refine va_callv (va_runS (As := [.int (W_in ra 1 3)]) (rest := []) ⟨hx, hb, hml, hown, hts⟩ (c_checkArgument l dC dI cy ((fun q e => TW cy L tr a κ τ q e ∨ oW ob (L 0 0) tp q e)) (W_in ra 1 3) H.size (by rw [W_in_1 hra0 hra1]; decide)) (tp_cwS 1 hts tw_45 tw_46 tw_20 tw_47 rfl rfl (by decide +kernel) ⟨Nat.le_of_ble_eq_true rfl, Nat.le_of_ble_eq_true rfl⟩) ⟨m_blind, fun U hU hW => ⟨rfl, m_pay hK hP hE (fun _ _ h => h) U hU hW⟩⟩ rfl rfl hl.1 rfl (lv_room (Nat.le_of_ble_eq_true rfl)) dX8_addLink_51 ⟨(Nat.le_of_ble_eq_true rfl), (Nat.le_of_ble_eq_true rfl)⟩) hS (fun q _ h => hFc q h) hFc (fun u t H1 locs ht hvm hpo hB hz1 hk1 hS => ?_)
  have hP1 := hB
  rw [ht] at hP1
  have hP : mw (dC, dI) vwCl A (fun q e => TW cy L tr a κ τ q e ∨ oW ob (L 0 0) tp q e) H1 := hP.join (fun _ _ h => h) hk1 hFc hP1 (fun _ _ h => Or.inl h)
  generalize H1 = H at hP hS ⊢
  clear hP1 hk1 hFc
  refine lv_aload_n hx hb dX8_addLink_54 rfl (lv_at hl 0 rfl) ?_
  refine va_get (D := (dC, dI)) (ws := [(ob, .inr (8, [.ref (L 0 0), .ref tp]))]) (ci := 8) (v := .ref (L 0 0)) (C := RX8) (T := TX8) (N := 2) hx hb hts tl_X8 hown hK (hP.one (Or.inr oW_mem)) 0 rfl rfl 0 (by decide) (hts _ tw_922) (fun _ h9 => h9) rfl dX8_addLink_55 ?_
  refine va_getN (D := (dC, dI)) (ws := [(L 0 0, .inr (5, [.ref (L 1 0), .ref (L 20 0), .ref (L 21 0), .ref (L 22 0), .ref (L 23 0), va_rf tr, .int ((a 0 0) 0), .int ((a 0 0) 1), .int ((a 0 0) 2), .int ((a 0 0) 3), .int ((a 0 0) 4), .int ((a 0 0) 5)]))]) (ci := 5) (v := .ref (L 1 0)) (C := RX5) (T := TX5) (N := 12) hx hb hts tl_X5 hown hK (hP.one (Or.inl (tw_mem (f := 0) (i := 0) (by decide) rfl))) 0 rfl rfl 0 (by decide) (va_Nw.use rfl (te_f60 hE)) (fun _ h9 => h9) rfl dX8_addLink_58 ?_
  refine va_getN (D := (dC, dI)) (ws := [(L 1 0, .inr (2, [.ref (L 24 0), .int ((a 1 0) 0), .ref (L 25 0), .int κ.1]))]) (ci := 2) (v := .int ((a 1 0) 0)) (C := RX2) (T := TX2) (N := 4) hx hb hts tl_X2 hown hK (hP.one (Or.inl (tw_mem (f := 1) (i := 0) (by decide) rfl))) 0 rfl rfl 1 (by decide) (va_Nw.use rfl (te_f25 hE)) (fun _ h9 => h9) rfl dX8_addLink_61 ?_
  refine lv_bipush (v := 24) hx hb dX8_addLink_64 (by decide) ?_
  refine lv_icmp_lt (tgt := 79) hx hb dX8_addLink_66 (by decide) (fun _ => ?_) (fun c_2 => absurd (Int32.lt_iff_toInt_lt.mpr hl4) c_2)
  refine lv_aload_n hx hb dX8_addLink_79 rfl (lv_at hl 0 rfl) ?_
  refine va_get (D := (dC, dI)) (ws := [(ob, .inr (8, [.ref (L 0 0), .ref tp]))]) (ci := 8) (v := .ref (L 0 0)) (C := RX8) (T := TX8) (N := 2) hx hb hts tl_X8 hown hK (hP.one (Or.inr oW_mem)) 0 rfl rfl 0 (by decide) (hts _ tw_922) (fun _ h9 => h9) rfl dX8_addLink_80 ?_
  refine va_getN (D := (dC, dI)) (ws := [(L 0 0, .inr (5, [.ref (L 1 0), .ref (L 20 0), .ref (L 21 0), .ref (L 22 0), .ref (L 23 0), va_rf tr, .int ((a 0 0) 0), .int ((a 0 0) 1), .int ((a 0 0) 2), .int ((a 0 0) 3), .int ((a 0 0) 4), .int ((a 0 0) 5)]))]) (ci := 5) (v := .ref (L 1 0)) (C := RX5) (T := TX5) (N := 12) hx hb hts tl_X5 hown hK (hP.one (Or.inl (tw_mem (f := 0) (i := 0) (by decide) rfl))) 0 rfl rfl 0 (by decide) (va_Nw.use rfl (te_f60 hE)) (fun _ h9 => h9) rfl dX8_addLink_83 ?_
  refine lv_iload_n hx hb dX8_addLink_86 rfl (lv_at hl 1 rfl) ?_
  refine lv_iload_n hx hb dX8_addLink_87 rfl (lv_at hl 2 rfl) ?_
  refine lv_iload_n hx hb dX8_addLink_88 rfl (lv_at hl 3 rfl) ?_
  refine lv_iload hx hb dX8_addLink_89 (lv_at hl 4 rfl) ?_
  refine lv_iload hx hb dX8_addLink_91 (lv_at hl 5 rfl) ?_
  have hFc := m_free (C := (TW cy L tr a κ τ)) hP hS hA (fun _ _ h => (Or.inl h))
  refine va_calli (va_runV (As := [.int fr, .int to, .int ti, .int ro, .int ra]) (rest := []) ⟨hx, hb, hml, hown, hts⟩ (c_Roads_lay l dC dI cy L tr a κ τ M fr to ti ro ra H.size hT hw hl4) (tp_cwV 5 hts tw_1061 tw_1062 tw_1063 tw_22 tw_1064 rfl rfl (by decide +kernel) ⟨Nat.le_of_ble_eq_true rfl, Nat.le_of_ble_eq_true rfl⟩) ⟨m_blind, va_recv hK (hP.one (e := .inr (2, [.ref (L 24 0), .int ((a 1 0) 0), .ref (L 25 0), .int κ.1])) (Or.inl (tw_mem (f := 1) (i := 0) (by decide) rfl))) (ci := 2) (q0 := 0) rfl rfl, fun U hU hW => ⟨rfl, m_pay hK hP hE (fun _ _ h => (Or.inl h)) U hU hW⟩⟩ rfl rfl hl.1 rfl (lv_room (Nat.le_of_ble_eq_true rfl)) dX8_addLink_93 ⟨(Nat.le_of_ble_eq_true rfl), (Nat.le_of_ble_eq_true rfl)⟩) hS (fun q _ h => hFc q h) hFc (fun r_10 u t H1 locs ht hvm hpo hB hz1 hk1 hS => ?_)
  obtain rfl := hpo
  obtain ⟨f_4, hP1⟩ := hB
  subst f_4
  rw [ht] at hP1
  have hP : mw (dC, dI) vwCl A (fun q e => TW cy L tr (G_lay a fr to ti ro ra) ((0, κ.2)) τ q e ∨ oW ob (L 0 0) tp q e) H1 := hP.join (fun _ _ h => (Or.inl h)) hk1 hFc hP1 (fun q e h => (h.elim (fun h => Or.inl h) (fun h => Or.inr ⟨(Or.inr h), fun y hy => ow_dis hP (fun _ _ h => (Or.inl h)) (fun _ _ h => (Or.inr h)) h hy⟩)))
  generalize H1 = H at hP hS ⊢
  clear hP1 hk1 hFc
  refine W.widen (k := 0) (n := 0) (Nat.le_of_ble_eq_true rfl) (Nat.le_of_ble_eq_true rfl) ?_
  have g_1 : (a 1 0 0) = a 1 0 0 := by
    rfl
  exact W.iret (v := a 1 0 0) hx hb hr (fun t ht hW => ⟨⟨(a 1 0 0), (a 1 0 0), rfl, rfl, ⟨g_1, by show mw _ _ _ _ t.heap; rw [ht]; exact hP⟩⟩, hS.F ht⟩) hS.2.2 dX8_addLink_96
set_option maxRecDepth 100000 in
set_option maxHeartbeats 4000000 in
/-- addPhase -/
theorem c_addPhase (l : Launch) (dC : Nat → ClassId) (dI : Nat → Nat → Nat) (cy : Nat → ClassId) (L : Lay) (tr : Option Nat) (a : St) (κ : Kap) (τ : Tau) (ob : Nat) (tp : Nat) (M : Nat) (n : Int32) (y : Int32) (lea : Int32) (gre : Int32) (sz : Nat) (hT : TL L tr τ) (hw : Wf M a) (hf : ¬ N_no a n) (hy : ¬ y < 0) (hld : ¬ G_lead a n y 32 0 = 0) (hlea0 : ¬ lea < 1) (hlea1 : ¬ 40 < lea) (hgre0 : ¬ gre < lea) (hgre1 : ¬ 40 < gre) (h4 : (a 8 n.toNatClampNeg 0).toInt < 4) : Met l yX8_addPhase (tp_w yX8_addPhase cX8_addPhase 6 (some .int)) ({ frames := 1, cells := 0, slots := 0, locals := 23 }) (va_Pc [.ref ob, .int n, .int y, .int lea, .int gre] (mPre dC dI cy (fun q e => TW cy L tr a κ τ q e ∨ oW ob (L 0 0) tp q e) sz)) (va_Qi (fun (r u : Int32) => r = u) (fun (u : Int32) (t : State) => (u = a 8 n.toNatClampNeg 0) ∧ mw (dC, dI) vwCl (mA (fun q e => TW cy L tr a κ τ q e ∨ oW ob (L 0 0) tp q e) sz) (fun q e => TW cy L tr (S_app a n.toNatClampNeg y lea gre) κ τ q e ∨ oW ob (L 0 0) tp q e) t.heap) (mA (fun q e => TW cy L tr a κ τ q e ∨ oW ob (L 0 0) tp q e) sz)) (0) (0) (mA (fun q e => TW cy L tr a κ τ q e ∨ oW ob (L 0 0) tp q e) sz) := by
  refine Met.ofW (cc := cX8_addPhase) (maxL := 6) (ret := (some .int)) (by decide) rfl ?_
  intro p e s m args below meth c s₁ B hml hv
  obtain ⟨rfl, hsz, hP, hK, hE⟩ := hv
  have hx := B.exec
  have hb := B.bytes
  have hr := B.returns
  have hts0 := atoms_spec (ws := tp_w yX8_addPhase cX8_addPhase 6 (some .int)) B.pre
  have hts : ∀ w ∈ tp_all, w.before _ s = true := fun w h => hts0 w (List.mem_cons_of_mem _ h)
  have hown : s.vm.findClass RX8 = some m.cls := findClass_of_methodNamed B.named
  have hlocks := B.notSynchronized
  subst hsz
  have hP := hP.self s.heap.size
  generalize hAe : mA (fun q e => TW cy L tr a κ τ q e ∨ oW ob (L 0 0) tp q e) s.heap.size = A at hP ⊢
  have hA : ∀ q : Nat, s.heap.size ≤ q → A q := fun q h => by rw [← hAe]; exact Or.inr h
  have hS : va_S A s.heap s.heap [] := va_S.rf
  have hl9 := lv_entry ([.ref ob, .int n, .int y, .int lea, .int gre]) (n := 6) (Nat.le_of_ble_eq_true rfl)
  rw [lg_entry_eq]
  generalize (lg_sl ([.ref ob, .int n, .int y, .int lea, .int gre]) ++ List.replicate (6 - (lg_sl ([.ref ob, .int n, .int y, .int lea, .int gre])).length) Slot.unset).toArray = ls at hl9 ⊢
  have hl : lv_has ls 6 [(0, .ref ob), (1, .int n), (2, .int y), (3, .int lea), (4, .int gre)] := hl9
  refine lv_aload_n hx hb dX8_addPhase_0 rfl (lv_at hl 0 rfl) ?_
  refine lv_iload_n hx hb dX8_addPhase_1 rfl (lv_at hl 1 rfl) ?_
  have hFc := m_free (C := (fun q e => TW cy L tr a κ τ q e ∨ oW ob (L 0 0) tp q e)) hP hS hA (fun _ _ h => h)
  refine va_callv (va_runV (As := [.int n]) (rest := []) ⟨hx, hb, hml, hown, hts⟩ (c_checkNode l dC dI cy L tr a κ τ ob tp n s.heap.size hT hf) (tp_cwV 1 hts tw_426 tw_428 tw_13 tw_20 tw_429 rfl rfl (by decide +kernel) ⟨Nat.le_of_ble_eq_true rfl, Nat.le_of_ble_eq_true rfl⟩) ⟨m_blind, va_recv hK (hP.one (e := .inr (8, [.ref (L 0 0), .ref tp])) (Or.inr oW_mem)) (ci := 8) (q0 := 0) rfl rfl, fun U hU hW => ⟨rfl, m_pay hK hP hE (fun _ _ h => h) U hU hW⟩⟩ rfl rfl hl.1 rfl (lv_room (Nat.le_of_ble_eq_true rfl)) dX8_addPhase_2 ⟨(Nat.le_of_ble_eq_true rfl), (Nat.le_of_ble_eq_true rfl)⟩) hS (fun q _ h => hFc q h) hFc (fun u t H1 locs ht hvm hpo hB hz1 hk1 hS => ?_)
  have hP1 := hB
  rw [ht] at hP1
  have hP : mw (dC, dI) vwCl A (fun q e => TW cy L tr a κ τ q e ∨ oW ob (L 0 0) tp q e) H1 := hP.join (fun _ _ h => h) hk1 hFc hP1 (fun _ _ h => Or.inl h)
  generalize H1 = H at hP hS ⊢
  clear hP1 hk1 hFc
  refine lv_iload_n hx hb dX8_addPhase_5 rfl (lv_at hl 2 rfl) ?_
  refine lv_if_lt (tgt := 28) hx hb dX8_addPhase_6 (by decide) (fun c_1 => absurd c_1 hy) (fun _ => ?_)
  refine lv_aload_n hx hb dX8_addPhase_9 rfl (lv_at hl 0 rfl) ?_
  refine va_get (D := (dC, dI)) (ws := [(ob, .inr (8, [.ref (L 0 0), .ref tp]))]) (ci := 8) (v := .ref (L 0 0)) (C := RX8) (T := TX8) (N := 2) hx hb hts tl_X8 hown hK (hP.one (Or.inr oW_mem)) 0 rfl rfl 0 (by decide) (hts _ tw_922) (fun _ h9 => h9) rfl dX8_addPhase_10 ?_
  refine va_getN (D := (dC, dI)) (ws := [(L 0 0, .inr (5, [.ref (L 1 0), .ref (L 20 0), .ref (L 21 0), .ref (L 22 0), .ref (L 23 0), va_rf tr, .int ((a 0 0) 0), .int ((a 0 0) 1), .int ((a 0 0) 2), .int ((a 0 0) 3), .int ((a 0 0) 4), .int ((a 0 0) 5)]))]) (ci := 5) (v := .ref (L 1 0)) (C := RX5) (T := TX5) (N := 12) hx hb hts tl_X5 hown hK (hP.one (Or.inl (tw_mem (f := 0) (i := 0) (by decide) rfl))) 0 rfl rfl 0 (by decide) (va_Nw.use rfl (te_f60 hE)) (fun _ h9 => h9) rfl dX8_addPhase_13 ?_
  refine lv_iload_n hx hb dX8_addPhase_16 rfl (lv_at hl 1 rfl) ?_
  refine lv_iload_n hx hb dX8_addPhase_17 rfl (lv_at hl 2 rfl) ?_
  have hFc := m_free (C := (TW cy L tr a κ τ)) hP hS hA (fun _ _ h => (Or.inl h))
  refine va_calli (va_runV (As := [.int n, .int y]) (rest := []) ⟨hx, hb, hml, hown, hts⟩ (c_Roads_allLeadTo l dC dI cy L tr a κ τ M n y H.size hT hw) (tp_cwV 2 hts tw_1086 tw_1087 tw_1088 tw_22 tw_1089 rfl rfl (by decide +kernel) ⟨Nat.le_of_ble_eq_true rfl, Nat.le_of_ble_eq_true rfl⟩) ⟨m_blind, va_recv hK (hP.one (e := .inr (2, [.ref (L 24 0), .int ((a 1 0) 0), .ref (L 25 0), .int κ.1])) (Or.inl (tw_mem (f := 1) (i := 0) (by decide) rfl))) (ci := 2) (q0 := 0) rfl rfl, fun U hU hW => ⟨rfl, m_pay hK hP hE (fun _ _ h => (Or.inl h)) U hU hW⟩⟩ rfl rfl hl.1 rfl (lv_room (Nat.le_of_ble_eq_true rfl)) dX8_addPhase_18 ⟨(Nat.le_of_ble_eq_true rfl), (Nat.le_of_ble_eq_true rfl)⟩) hS (fun q _ h => hFc q h) hFc (fun r_2 u t H1 locs ht hvm hpo hB hz1 hk1 hS => ?_)
  obtain rfl := hpo
  obtain ⟨f_1, hP1⟩ := hB
  subst f_1
  rw [ht] at hP1
  have hP : mw (dC, dI) vwCl A (fun q e => TW cy L tr a κ τ q e ∨ oW ob (L 0 0) tp q e) H1 := hP.join (fun _ _ h => (Or.inl h)) hk1 hFc hP1 (fun q e h => (h.elim (fun h => Or.inl h) (fun h => Or.inr ⟨(Or.inr h), fun y hy => ow_dis hP (fun _ _ h => (Or.inl h)) (fun _ _ h => (Or.inr h)) h hy⟩)))
  generalize H1 = H at hP hS ⊢
  clear hP1 hk1 hFc
  refine lv_if_eq (tgt := 28) hx hb dX8_addPhase_21 (by decide) (fun c_2 => absurd c_2 hld) (fun _ => ?_)
  refine lv_iconst (v := 1) hx hb dX8_addPhase_24 (by decide) ?_
  refine lv_goto (tgt := 29) hx hb dX8_addPhase_25 (by decide) ?_
  have hFc := m_free (C := (fun q e => TW cy L tr a κ τ q e ∨ oW ob (L 0 0) tp q e)) hP hS hA (fun _ _ h => h)
  refine va_callv (va_runS (As := [.int 1]) (rest := []) ⟨hx, hb, hml, hown, hts⟩ (c_checkArgument l dC dI cy ((fun q e => TW cy L tr a κ τ q e ∨ oW ob (L 0 0) tp q e)) 1 H.size (by decide)) (tp_cwS 1 hts tw_45 tw_46 tw_20 tw_47 rfl rfl (by decide +kernel) ⟨Nat.le_of_ble_eq_true rfl, Nat.le_of_ble_eq_true rfl⟩) ⟨m_blind, fun U hU hW => ⟨rfl, m_pay hK hP hE (fun _ _ h => h) U hU hW⟩⟩ rfl rfl hl.1 rfl (lv_room (Nat.le_of_ble_eq_true rfl)) dX8_addPhase_29 ⟨(Nat.le_of_ble_eq_true rfl), (Nat.le_of_ble_eq_true rfl)⟩) hS (fun q _ h => hFc q h) hFc (fun u t H1 locs ht hvm hpo hB hz1 hk1 hS => ?_)
  have hP1 := hB
  rw [ht] at hP1
  have hP : mw (dC, dI) vwCl A (fun q e => TW cy L tr a κ τ q e ∨ oW ob (L 0 0) tp q e) H1 := hP.join (fun _ _ h => h) hk1 hFc hP1 (fun _ _ h => Or.inl h)
  generalize H1 = H at hP hS ⊢
  clear hP1 hk1 hFc
  refine lv_iload_n hx hb dX8_addPhase_32 rfl (lv_at hl 3 rfl) ?_
  refine lv_iconst (v := 1) hx hb dX8_addPhase_33 (by decide) ?_
  refine lv_bipush (v := 40) hx hb dX8_addPhase_34 (by decide) ?_
  have hFc := m_free (C := (fun q e => TW cy L tr a κ τ q e ∨ oW ob (L 0 0) tp q e)) hP hS hA (fun _ _ h => h)
  refine va_calli (va_runS (As := [.int lea, .int 1, .int 40]) (rest := []) ⟨hx, hb, hml, hown, hts⟩ (c_isWithin l dC dI cy ((fun q e => TW cy L tr a κ τ q e ∨ oW ob (L 0 0) tp q e)) lea 1 40 H.size) (tp_cwS 3 hts tw_42 tw_43 tw_20 tw_44 rfl rfl (by decide +kernel) ⟨Nat.le_of_ble_eq_true rfl, Nat.le_of_ble_eq_true rfl⟩) ⟨m_blind, fun U hU hW => ⟨rfl, m_pay hK hP hE (fun _ _ h => h) U hU hW⟩⟩ rfl rfl hl.1 rfl (lv_room (Nat.le_of_ble_eq_true rfl)) dX8_addPhase_36 ⟨(Nat.le_of_ble_eq_true rfl), (Nat.le_of_ble_eq_true rfl)⟩) hS (fun q _ h => hFc q h) hFc (fun r_4 u t H1 locs ht hvm hpo hB hz1 hk1 hS => ?_)
  obtain rfl := hpo
  obtain ⟨f_2, hP1⟩ := hB
  subst f_2
  rw [ht] at hP1
  have hP : mw (dC, dI) vwCl A (fun q e => TW cy L tr a κ τ q e ∨ oW ob (L 0 0) tp q e) H1 := hP.join (fun _ _ h => h) hk1 hFc hP1 (fun _ _ h => Or.inl h)
  generalize H1 = H at hP hS ⊢
  clear hP1 hk1 hFc
  have hFc := m_free (C := (fun q e => TW cy L tr a κ τ q e ∨ oW ob (L 0 0) tp q e)) hP hS hA (fun _ _ h => h)
  refine va_callv (va_runS (As := [.int (W_in lea 1 40)]) (rest := []) ⟨hx, hb, hml, hown, hts⟩ (c_checkArgument l dC dI cy ((fun q e => TW cy L tr a κ τ q e ∨ oW ob (L 0 0) tp q e)) (W_in lea 1 40) H.size (by rw [W_in_1 hlea0 hlea1]; decide)) (tp_cwS 1 hts tw_45 tw_46 tw_20 tw_47 rfl rfl (by decide +kernel) ⟨Nat.le_of_ble_eq_true rfl, Nat.le_of_ble_eq_true rfl⟩) ⟨m_blind, fun U hU hW => ⟨rfl, m_pay hK hP hE (fun _ _ h => h) U hU hW⟩⟩ rfl rfl hl.1 rfl (lv_room (Nat.le_of_ble_eq_true rfl)) dX8_addPhase_39 ⟨(Nat.le_of_ble_eq_true rfl), (Nat.le_of_ble_eq_true rfl)⟩) hS (fun q _ h => hFc q h) hFc (fun u t H1 locs ht hvm hpo hB hz1 hk1 hS => ?_)
  have hP1 := hB
  rw [ht] at hP1
  have hP : mw (dC, dI) vwCl A (fun q e => TW cy L tr a κ τ q e ∨ oW ob (L 0 0) tp q e) H1 := hP.join (fun _ _ h => h) hk1 hFc hP1 (fun _ _ h => Or.inl h)
  generalize H1 = H at hP hS ⊢
  clear hP1 hk1 hFc
  refine lv_iload hx hb dX8_addPhase_42 (lv_at hl 4 rfl) ?_
  refine lv_iload_n hx hb dX8_addPhase_44 rfl (lv_at hl 3 rfl) ?_
  refine lv_bipush (v := 40) hx hb dX8_addPhase_45 (by decide) ?_
  have hFc := m_free (C := (fun q e => TW cy L tr a κ τ q e ∨ oW ob (L 0 0) tp q e)) hP hS hA (fun _ _ h => h)
  refine va_calli (va_runS (As := [.int gre, .int lea, .int 40]) (rest := []) ⟨hx, hb, hml, hown, hts⟩ (c_isWithin l dC dI cy ((fun q e => TW cy L tr a κ τ q e ∨ oW ob (L 0 0) tp q e)) gre lea 40 H.size) (tp_cwS 3 hts tw_42 tw_43 tw_20 tw_44 rfl rfl (by decide +kernel) ⟨Nat.le_of_ble_eq_true rfl, Nat.le_of_ble_eq_true rfl⟩) ⟨m_blind, fun U hU hW => ⟨rfl, m_pay hK hP hE (fun _ _ h => h) U hU hW⟩⟩ rfl rfl hl.1 rfl (lv_room (Nat.le_of_ble_eq_true rfl)) dX8_addPhase_47 ⟨(Nat.le_of_ble_eq_true rfl), (Nat.le_of_ble_eq_true rfl)⟩) hS (fun q _ h => hFc q h) hFc (fun r_6 u t H1 locs ht hvm hpo hB hz1 hk1 hS => ?_)
  obtain rfl := hpo
  obtain ⟨f_3, hP1⟩ := hB
  subst f_3
  rw [ht] at hP1
  have hP : mw (dC, dI) vwCl A (fun q e => TW cy L tr a κ τ q e ∨ oW ob (L 0 0) tp q e) H1 := hP.join (fun _ _ h => h) hk1 hFc hP1 (fun _ _ h => Or.inl h)
  generalize H1 = H at hP hS ⊢
  clear hP1 hk1 hFc
  have hFc := m_free (C := (fun q e => TW cy L tr a κ τ q e ∨ oW ob (L 0 0) tp q e)) hP hS hA (fun _ _ h => h)
  refine va_callv (va_runS (As := [.int (W_in gre lea 40)]) (rest := []) ⟨hx, hb, hml, hown, hts⟩ (c_checkArgument l dC dI cy ((fun q e => TW cy L tr a κ τ q e ∨ oW ob (L 0 0) tp q e)) (W_in gre lea 40) H.size (by rw [W_in_1 hgre0 hgre1]; decide)) (tp_cwS 1 hts tw_45 tw_46 tw_20 tw_47 rfl rfl (by decide +kernel) ⟨Nat.le_of_ble_eq_true rfl, Nat.le_of_ble_eq_true rfl⟩) ⟨m_blind, fun U hU hW => ⟨rfl, m_pay hK hP hE (fun _ _ h => h) U hU hW⟩⟩ rfl rfl hl.1 rfl (lv_room (Nat.le_of_ble_eq_true rfl)) dX8_addPhase_50 ⟨(Nat.le_of_ble_eq_true rfl), (Nat.le_of_ble_eq_true rfl)⟩) hS (fun q _ h => hFc q h) hFc (fun u t H1 locs ht hvm hpo hB hz1 hk1 hS => ?_)
  have hP1 := hB
  rw [ht] at hP1
  have hP : mw (dC, dI) vwCl A (fun q e => TW cy L tr a κ τ q e ∨ oW ob (L 0 0) tp q e) H1 := hP.join (fun _ _ h => h) hk1 hFc hP1 (fun _ _ h => Or.inl h)
  generalize H1 = H at hP hS ⊢
  clear hP1 hk1 hFc
  refine lv_aload_n hx hb dX8_addPhase_53 rfl (lv_at hl 0 rfl) ?_
  refine va_get (D := (dC, dI)) (ws := [(ob, .inr (8, [.ref (L 0 0), .ref tp]))]) (ci := 8) (v := .ref (L 0 0)) (C := RX8) (T := TX8) (N := 2) hx hb hts tl_X8 hown hK (hP.one (Or.inr oW_mem)) 0 rfl rfl 0 (by decide) (hts _ tw_922) (fun _ h9 => h9) rfl dX8_addPhase_54 ?_
  refine va_getN (D := (dC, dI)) (ws := [(L 0 0, .inr (5, [.ref (L 1 0), .ref (L 20 0), .ref (L 21 0), .ref (L 22 0), .ref (L 23 0), va_rf tr, .int ((a 0 0) 0), .int ((a 0 0) 1), .int ((a 0 0) 2), .int ((a 0 0) 3), .int ((a 0 0) 4), .int ((a 0 0) 5)]))]) (ci := 5) (v := .ref (L 20 0)) (C := RX5) (T := TX5) (N := 12) hx hb hts tl_X5 hown hK (hP.one (Or.inl (tw_mem (f := 0) (i := 0) (by decide) rfl))) 0 rfl rfl 1 (by decide) (va_Nw.use rfl (te_f61 hE)) (fun _ h9 => h9) rfl dX8_addPhase_57 ?_
  refine lv_iload_n hx hb dX8_addPhase_60 rfl (lv_at hl 1 rfl) ?_
  have j_1 : (n : Int32).toNatClampNeg = n.toNatClampNeg := m_cl (m_nI (fun h => hf (Or.inl h))) (N_lt hw hf) (by decide)
  refine va_aldq hx hb hK (ws := [(L 20 0, .inl (cy 4, 12, .inr (.inr (.inr (.inr (fun j => some (L 8 j)))))))]) (hP.one (Or.inl (tw_mem (f := 20) (i := 0) (by decide) rfl))) 0 4 rfl rfl (m_in (m_nI (fun h => hf (Or.inl h))) (N_lt hw hf) (by decide)) dX8_addPhase_61 ?_
  refine W.eq (g2 := F0 m 62 ls [.ref (L 8 n.toNatClampNeg)]) (by first | (rw [j_1]; done) | (rw [j_1]; rfl)) ?_
  refine lv_astore (lv' := [(5, .ref (L 8 n.toNatClampNeg)), (0, .ref ob), (1, .int n), (2, .int y), (3, .int lea), (4, .int gre)]) hx hb dX8_addPhase_62 hl (by decide) rfl (fun ls hl => ?_)
  refine lv_aload hx hb dX8_addPhase_64 (lv_at hl 0 rfl) ?_
  refine va_getN (D := (dC, dI)) (ws := [(L 8 n.toNatClampNeg, .inr (4, [.ref (L 9 n.toNatClampNeg), .ref (L 10 n.toNatClampNeg), .ref (L 11 n.toNatClampNeg), .int ((a 8 n.toNatClampNeg) 0), .int ((a 8 n.toNatClampNeg) 1), .int ((a 8 n.toNatClampNeg) 2)]))]) (ci := 4) (v := .int ((a 8 n.toNatClampNeg) 0)) (C := RX4) (T := TX4) (N := 6) hx hb hts tl_X4 hown hK (hP.one (Or.inl (tw_mem (f := 8) (i := n.toNatClampNeg) (N_lt hw hf) rfl))) 0 rfl rfl 3 (by decide) (va_Nw.use rfl (te_f27 hE)) (fun _ h9 => h9) rfl dX8_addPhase_66 ?_
  refine lv_iconst (v := 4) hx hb dX8_addPhase_69 (by decide) ?_
  refine lv_icmp_lt (tgt := 83) hx hb dX8_addPhase_70 (by decide) (fun _ => ?_) (fun c_3 => absurd (Int32.lt_iff_toInt_lt.mpr h4) c_3)
  refine lv_aload hx hb dX8_addPhase_83 (lv_at hl 0 rfl) ?_
  refine lv_iload_n hx hb dX8_addPhase_85 rfl (lv_at hl 3 rfl) ?_
  refine lv_iload_n hx hb dX8_addPhase_86 rfl (lv_at hl 4 rfl) ?_
  refine lv_iload hx hb dX8_addPhase_87 (lv_at hl 5 rfl) ?_
  have hFc := m_free (C := (TW cy L tr a κ τ)) hP hS hA (fun _ _ h => (Or.inl h))
  refine va_calli (va_runV (As := [.int y, .int lea, .int gre]) (rest := []) ⟨hx, hb, hml, hown, hts⟩ (c_Signal_append l dC dI cy L tr a κ τ n.toNatClampNeg y lea gre H.size hT (N_lt hw hf) (hw.2.2.1 _ (N_lt hw hf)).1.1 h4) (tp_cwV 3 hts tw_1091 tw_1092 tw_1093 tw_27 tw_1094 rfl rfl (by decide +kernel) ⟨Nat.le_of_ble_eq_true rfl, Nat.le_of_ble_eq_true rfl⟩) ⟨m_blind, va_recv hK (hP.one (e := .inr (4, [.ref (L 9 n.toNatClampNeg), .ref (L 10 n.toNatClampNeg), .ref (L 11 n.toNatClampNeg), .int ((a 8 n.toNatClampNeg) 0), .int ((a 8 n.toNatClampNeg) 1), .int ((a 8 n.toNatClampNeg) 2)])) (Or.inl (tw_mem (f := 8) (i := n.toNatClampNeg) (N_lt hw hf) rfl))) (ci := 4) (q0 := 0) rfl rfl, fun U hU hW => ⟨rfl, m_pay hK hP hE (fun _ _ h => (Or.inl h)) U hU hW⟩⟩ rfl rfl hl.1 rfl (lv_room (Nat.le_of_ble_eq_true rfl)) dX8_addPhase_89 ⟨(Nat.le_of_ble_eq_true rfl), (Nat.le_of_ble_eq_true rfl)⟩) hS (fun q _ h => hFc q h) hFc (fun r_8 u t H1 locs ht hvm hpo hB hz1 hk1 hS => ?_)
  obtain rfl := hpo
  obtain ⟨f_4, hP1⟩ := hB
  subst f_4
  rw [ht] at hP1
  have hP : mw (dC, dI) vwCl A (fun q e => TW cy L tr (S_app a n.toNatClampNeg y lea gre) κ τ q e ∨ oW ob (L 0 0) tp q e) H1 := hP.join (fun _ _ h => (Or.inl h)) hk1 hFc hP1 (fun q e h => (h.elim (fun h => Or.inl h) (fun h => Or.inr ⟨(Or.inr h), fun y hy => ow_dis hP (fun _ _ h => (Or.inl h)) (fun _ _ h => (Or.inr h)) h hy⟩)))
  generalize H1 = H at hP hS ⊢
  clear hP1 hk1 hFc
  refine W.widen (k := 0) (n := 0) (Nat.le_of_ble_eq_true rfl) (Nat.le_of_ble_eq_true rfl) ?_
  have g_1 : (a 8 n.toNatClampNeg 0) = a 8 n.toNatClampNeg 0 := by
    rfl
  exact W.iret (v := a 8 n.toNatClampNeg 0) hx hb hr (fun t ht hW => ⟨⟨(a 8 n.toNatClampNeg 0), (a 8 n.toNatClampNeg 0), rfl, rfl, ⟨g_1, by show mw _ _ _ _ t.heap; rw [ht]; exact hP⟩⟩, hS.F ht⟩) hS.2.2 dX8_addPhase_92
set_option maxRecDepth 100000 in
set_option maxHeartbeats 4000000 in
/-- setRefresh -/
theorem c_setRefresh (l : Launch) (dC : Nat → ClassId) (dI : Nat → Nat → Nat) (cy : Nat → ClassId) (L : Lay) (tr : Option Nat) (a : St) (κ : Kap) (τ : Tau) (ob : Nat) (tp : Nat) (n : Int32) (sz : Nat) (hT : TL L tr τ) (hn0 : ¬ n < 1) (hn1 : ¬ 30 < n) : Met l yX8_setRefresh (tp_w yX8_setRefresh cX8_setRefresh 3 (some .int)) ({ frames := 1, cells := 0, slots := 0, locals := 22 }) (va_Pc [.ref ob, .int n] (mPre dC dI cy (fun q e => TW cy L tr a κ τ q e ∨ oW ob (L 0 0) tp q e) sz)) (va_Qi (fun (r u : Int32) => r = u) (fun (u : Int32) (t : State) => (u = a 0 0 1) ∧ mw (dC, dI) vwCl (mA (fun q e => TW cy L tr a κ τ q e ∨ oW ob (L 0 0) tp q e) sz) (fun q e => TW cy L tr (U_refresh a n) κ τ q e ∨ oW ob (L 0 0) tp q e) t.heap) (mA (fun q e => TW cy L tr a κ τ q e ∨ oW ob (L 0 0) tp q e) sz)) (0) (0) (mA (fun q e => TW cy L tr a κ τ q e ∨ oW ob (L 0 0) tp q e) sz) := by
  refine Met.ofW (cc := cX8_setRefresh) (maxL := 3) (ret := (some .int)) (by decide) rfl ?_
  intro p e s m args below meth c s₁ B hml hv
  obtain ⟨rfl, hsz, hP, hK, hE⟩ := hv
  have hx := B.exec
  have hb := B.bytes
  have hr := B.returns
  have hts0 := atoms_spec (ws := tp_w yX8_setRefresh cX8_setRefresh 3 (some .int)) B.pre
  have hts : ∀ w ∈ tp_all, w.before _ s = true := fun w h => hts0 w (List.mem_cons_of_mem _ h)
  have hown : s.vm.findClass RX8 = some m.cls := findClass_of_methodNamed B.named
  have hlocks := B.notSynchronized
  subst hsz
  have hP := hP.self s.heap.size
  generalize hAe : mA (fun q e => TW cy L tr a κ τ q e ∨ oW ob (L 0 0) tp q e) s.heap.size = A at hP ⊢
  have hA : ∀ q : Nat, s.heap.size ≤ q → A q := fun q h => by rw [← hAe]; exact Or.inr h
  have hS : va_S A s.heap s.heap [] := va_S.rf
  have hl9 := lv_entry ([.ref ob, .int n]) (n := 3) (Nat.le_of_ble_eq_true rfl)
  rw [lg_entry_eq]
  generalize (lg_sl ([.ref ob, .int n]) ++ List.replicate (3 - (lg_sl ([.ref ob, .int n])).length) Slot.unset).toArray = ls at hl9 ⊢
  have hl : lv_has ls 3 [(0, .ref ob), (1, .int n)] := hl9
  refine lv_iload_n hx hb dX8_setRefresh_0 rfl (lv_at hl 1 rfl) ?_
  refine lv_iconst (v := 1) hx hb dX8_setRefresh_1 (by decide) ?_
  refine lv_bipush (v := 30) hx hb dX8_setRefresh_2 (by decide) ?_
  have hFc := m_free (C := (fun q e => TW cy L tr a κ τ q e ∨ oW ob (L 0 0) tp q e)) hP hS hA (fun _ _ h => h)
  refine va_calli (va_runS (As := [.int n, .int 1, .int 30]) (rest := []) ⟨hx, hb, hml, hown, hts⟩ (c_isWithin l dC dI cy ((fun q e => TW cy L tr a κ τ q e ∨ oW ob (L 0 0) tp q e)) n 1 30 s.heap.size) (tp_cwS 3 hts tw_42 tw_43 tw_20 tw_44 rfl rfl (by decide +kernel) ⟨Nat.le_of_ble_eq_true rfl, Nat.le_of_ble_eq_true rfl⟩) ⟨m_blind, fun U hU hW => ⟨rfl, m_pay hK hP hE (fun _ _ h => h) U hU hW⟩⟩ rfl rfl hl.1 rfl (lv_room (Nat.le_of_ble_eq_true rfl)) dX8_setRefresh_4 ⟨(Nat.le_of_ble_eq_true rfl), (Nat.le_of_ble_eq_true rfl)⟩) hS (fun q _ h => hFc q h) hFc (fun r_1 u t H1 locs ht hvm hpo hB hz1 hk1 hS => ?_)
  obtain rfl := hpo
  obtain ⟨f_1, hP1⟩ := hB
  subst f_1
  rw [ht] at hP1
  have hP : mw (dC, dI) vwCl A (fun q e => TW cy L tr a κ τ q e ∨ oW ob (L 0 0) tp q e) H1 := hP.join (fun _ _ h => h) hk1 hFc hP1 (fun _ _ h => Or.inl h)
  generalize H1 = H at hP hS ⊢
  clear hP1 hk1 hFc
  have hFc := m_free (C := (fun q e => TW cy L tr a κ τ q e ∨ oW ob (L 0 0) tp q e)) hP hS hA (fun _ _ h => h)
  refine va_callv (va_runS (As := [.int (W_in n 1 30)]) (rest := []) ⟨hx, hb, hml, hown, hts⟩ (c_checkArgument l dC dI cy ((fun q e => TW cy L tr a κ τ q e ∨ oW ob (L 0 0) tp q e)) (W_in n 1 30) H.size (by rw [W_in_1 hn0 hn1]; decide)) (tp_cwS 1 hts tw_45 tw_46 tw_20 tw_47 rfl rfl (by decide +kernel) ⟨Nat.le_of_ble_eq_true rfl, Nat.le_of_ble_eq_true rfl⟩) ⟨m_blind, fun U hU hW => ⟨rfl, m_pay hK hP hE (fun _ _ h => h) U hU hW⟩⟩ rfl rfl hl.1 rfl (lv_room (Nat.le_of_ble_eq_true rfl)) dX8_setRefresh_7 ⟨(Nat.le_of_ble_eq_true rfl), (Nat.le_of_ble_eq_true rfl)⟩) hS (fun q _ h => hFc q h) hFc (fun u t H1 locs ht hvm hpo hB hz1 hk1 hS => ?_)
  have hP1 := hB
  rw [ht] at hP1
  have hP : mw (dC, dI) vwCl A (fun q e => TW cy L tr a κ τ q e ∨ oW ob (L 0 0) tp q e) H1 := hP.join (fun _ _ h => h) hk1 hFc hP1 (fun _ _ h => Or.inl h)
  generalize H1 = H at hP hS ⊢
  clear hP1 hk1 hFc
  refine lv_aload_n hx hb dX8_setRefresh_10 rfl (lv_at hl 0 rfl) ?_
  refine va_get (D := (dC, dI)) (ws := [(ob, .inr (8, [.ref (L 0 0), .ref tp]))]) (ci := 8) (v := .ref (L 0 0)) (C := RX8) (T := TX8) (N := 2) hx hb hts tl_X8 hown hK (hP.one (Or.inr oW_mem)) 0 rfl rfl 0 (by decide) (hts _ tw_922) (fun _ h9 => h9) rfl dX8_setRefresh_11 ?_
  refine va_getN (D := (dC, dI)) (ws := [(L 0 0, .inr (5, [.ref (L 1 0), .ref (L 20 0), .ref (L 21 0), .ref (L 22 0), .ref (L 23 0), va_rf tr, .int ((a 0 0) 0), .int ((a 0 0) 1), .int ((a 0 0) 2), .int ((a 0 0) 3), .int ((a 0 0) 4), .int ((a 0 0) 5)]))]) (ci := 5) (v := .int ((a 0 0) 1)) (C := RX5) (T := TX5) (N := 12) hx hb hts tl_X5 hown hK (hP.one (Or.inl (tw_mem (f := 0) (i := 0) (by decide) rfl))) 0 rfl rfl 7 (by decide) (va_Nw.use rfl (te_f67 hE)) (fun _ h9 => h9) rfl dX8_setRefresh_14 ?_
  refine lv_istore_n (lv' := [(2, .int ((a 0 0) 1)), (0, .ref ob), (1, .int n)]) hx hb dX8_setRefresh_17 rfl hl (by decide) rfl (fun ls hl => ?_)
  refine lv_aload_n hx hb dX8_setRefresh_18 rfl (lv_at hl 1 rfl) ?_
  refine va_get (D := (dC, dI)) (ws := [(ob, .inr (8, [.ref (L 0 0), .ref tp]))]) (ci := 8) (v := .ref (L 0 0)) (C := RX8) (T := TX8) (N := 2) hx hb hts tl_X8 hown hK (hP.one (Or.inr oW_mem)) 0 rfl rfl 0 (by decide) (hts _ tw_922) (fun _ h9 => h9) rfl dX8_setRefresh_19 ?_
  refine lv_iload_n hx hb dX8_setRefresh_22 rfl (lv_at hl 2 rfl) ?_
  obtain ⟨ws9, k9, hPw, hDw, hk9, -, hbk⟩ := hP.cut (e := .inr (5, [.ref (L 1 0), .ref (L 20 0), .ref (L 21 0), .ref (L 22 0), .ref (L 23 0), va_rf tr, .int ((a 0 0) 0), .int ((a 0 0) 1), .int ((a 0 0) 2), .int ((a 0 0) 3), .int ((a 0 0) 4), .int ((a 0 0) 5)])) (Or.inl (tw_mem (f := 0) (i := 0) (by decide) rfl))
  refine va_putN (D := (dC, dI)) (ci := 5) (v := .int n) (ty := .int) (C := RX5) (T := TX5) (N := 12) hx hb hts tl_X5 tyX5 tyX5_ok nmX5 hown hK hPw hDw hS k9 hk9 rfl 7 (by decide) (va_Nw.use rfl (te_f67 hE)) (fun _ h9 => h9) rfl (by decide +kernel) rfl rfl (Nat.le_of_ble_eq_true rfl) dX8_setRefresh_23 (fun H locs hPw hDw hS => ?_)
  have hP : mw (dC, dI) vwCl A (fun q e => TW cy L tr (S2 a 0 0 (upd (a 0 0) 1 n)) κ τ q e ∨ oW ob (L 0 0) tp q e) H := (hbk _ _ hPw hDw).sub (mset_l (tw_set (b := S2 a 0 0 (upd (a 0 0) 1 n)) (f := 0) (i := 0) (x := upd (a 0 0) 1 n) hT (by decide) (by decide) rfl) (fun q e h => ow_off hP (fun _ _ h => Or.inl h) (fun _ _ h => Or.inr h) (by decide) h))
  clear hbk hPw hDw hk9
  refine lv_iload_n hx hb dX8_setRefresh_26 rfl (lv_at hl 0 rfl) ?_
  refine W.widen (k := 0) (n := 0) (Nat.le_of_ble_eq_true rfl) (Nat.le_of_ble_eq_true rfl) ?_
  have s_1 : S2 a 0 0 (upd (a 0 0) 1 n) = U_refresh a n := by
    rfl
  rw [s_1] at hP
  have g_1 : ((a 0 0) 1) = a 0 0 1 := by
    rfl
  exact W.iret (v := (a 0 0) 1) hx hb hr (fun t ht hW => ⟨⟨((a 0 0) 1), ((a 0 0) 1), rfl, rfl, ⟨g_1, by show mw _ _ _ _ t.heap; rw [ht]; exact hP⟩⟩, hS.F ht⟩) hS.2.2 dX8_setRefresh_27
set_option maxRecDepth 100000 in
set_option maxHeartbeats 4000000 in
/-- slow -/
theorem c_slow (l : Launch) (dC : Nat → ClassId) (dI : Nat → Nat → Nat) (cy : Nat → ClassId) (L : Lay) (tr : Option Nat) (a : St) (κ : Kap) (τ : Tau) (ob : Nat) (tp : Nat) (M : Nat) (n : Int32) (ra : Int32) (tk : Int32) (sz : Nat) (hT : TL L tr τ) (hw : Wf M a) (hf : ¬ G_no a n) (hra0 : ¬ ra < 0) (hra1 : ¬ 3 < ra) (htk0 : ¬ tk < 1) (htk1 : ¬ 200 < tk) : Met l yX8_slow (tp_w yX8_slow cX8_slow 6 (some .int)) ({ frames := 2, cells := 0, slots := 0, locals := 43 }) (va_Pc [.ref ob, .int n, .int ra, .int tk] (mPre dC dI cy (fun q e => TW cy L tr a κ τ q e ∨ oW ob (L 0 0) tp q e) sz)) (va_Qi (fun (r u : Int32) => r = u) (fun (u : Int32) (t : State) => (u = a 2 n.toNatClampNeg 5) ∧ mw (dC, dI) vwCl (mA (fun q e => TW cy L tr a κ τ q e ∨ oW ob (L 0 0) tp q e) sz) (fun q e => TW cy L tr (U_slow a n.toNatClampNeg ra tk) κ τ q e ∨ oW ob (L 0 0) tp q e) t.heap) (mA (fun q e => TW cy L tr a κ τ q e ∨ oW ob (L 0 0) tp q e) sz)) (0) (0) (mA (fun q e => TW cy L tr a κ τ q e ∨ oW ob (L 0 0) tp q e) sz) := by
  refine Met.ofW (cc := cX8_slow) (maxL := 6) (ret := (some .int)) (by decide) rfl ?_
  intro p e s m args below meth c s₁ B hml hv
  obtain ⟨rfl, hsz, hP, hK, hE⟩ := hv
  have hx := B.exec
  have hb := B.bytes
  have hr := B.returns
  have hts0 := atoms_spec (ws := tp_w yX8_slow cX8_slow 6 (some .int)) B.pre
  have hts : ∀ w ∈ tp_all, w.before _ s = true := fun w h => hts0 w (List.mem_cons_of_mem _ h)
  have hown : s.vm.findClass RX8 = some m.cls := findClass_of_methodNamed B.named
  have hlocks := B.notSynchronized
  subst hsz
  have hP := hP.self s.heap.size
  generalize hAe : mA (fun q e => TW cy L tr a κ τ q e ∨ oW ob (L 0 0) tp q e) s.heap.size = A at hP ⊢
  have hA : ∀ q : Nat, s.heap.size ≤ q → A q := fun q h => by rw [← hAe]; exact Or.inr h
  have hS : va_S A s.heap s.heap [] := va_S.rf
  have hl9 := lv_entry ([.ref ob, .int n, .int ra, .int tk]) (n := 6) (Nat.le_of_ble_eq_true rfl)
  rw [lg_entry_eq]
  generalize (lg_sl ([.ref ob, .int n, .int ra, .int tk]) ++ List.replicate (6 - (lg_sl ([.ref ob, .int n, .int ra, .int tk])).length) Slot.unset).toArray = ls at hl9 ⊢
  have hl : lv_has ls 6 [(0, .ref ob), (1, .int n), (2, .int ra), (3, .int tk)] := hl9
  refine lv_aload_n hx hb dX8_slow_0 rfl (lv_at hl 0 rfl) ?_
  refine lv_iload_n hx hb dX8_slow_1 rfl (lv_at hl 1 rfl) ?_
  have hFc := m_free (C := (fun q e => TW cy L tr a κ τ q e ∨ oW ob (L 0 0) tp q e)) hP hS hA (fun _ _ h => h)
  refine va_callr (va_runV (As := [.int n]) (rest := []) ⟨hx, hb, hml, hown, hts⟩ (c_linkNumbered l dC dI cy L tr a κ τ ob tp M n s.heap.size hT hw hf) (tp_cwV 1 hts tw_122 tw_124 tw_1 tw_20 tw_126 rfl rfl (by decide +kernel) ⟨Nat.le_of_ble_eq_true rfl, Nat.le_of_ble_eq_true rfl⟩) ⟨m_blind, va_recv hK (hP.one (e := .inr (8, [.ref (L 0 0), .ref tp])) (Or.inr oW_mem)) (ci := 8) (q0 := 0) rfl rfl, fun U hU hW => ⟨rfl, m_pay hK hP hE (fun _ _ h => h) U hU hW⟩⟩ rfl rfl hl.1 rfl (lv_room (Nat.le_of_ble_eq_true rfl)) dX8_slow_2 ⟨(Nat.le_of_ble_eq_true rfl), (Nat.le_of_ble_eq_true rfl)⟩) hS (fun q _ h => hFc q h) hFc (fun u r_1 t H1 locs ht hvm hpo hB hz1 hk1 hS => ?_)
  obtain ⟨f_1, hP1⟩ := hB
  subst f_1
  rw [ht] at hP1
  have hP : mw (dC, dI) vwCl A (fun q e => TW cy L tr a κ τ q e ∨ oW ob (L 0 0) tp q e) H1 := hP.join (fun _ _ h => h) hk1 hFc hP1 (fun _ _ h => Or.inl h)
  generalize H1 = H at hP hS ⊢
  clear hP1 hk1 hFc
  refine lv_astore (lv' := [(4, .ref (L 2 n.toNatClampNeg)), (0, .ref ob), (1, .int n), (2, .int ra), (3, .int tk)]) hx hb dX8_slow_5 hl (by decide) rfl (fun ls hl => ?_)
  refine lv_iload_n hx hb dX8_slow_7 rfl (lv_at hl 3 rfl) ?_
  refine lv_iconst (v := 0) hx hb dX8_slow_8 (by decide) ?_
  refine lv_iconst (v := 3) hx hb dX8_slow_9 (by decide) ?_
  have hFc := m_free (C := (fun q e => TW cy L tr a κ τ q e ∨ oW ob (L 0 0) tp q e)) hP hS hA (fun _ _ h => h)
  refine va_calli (va_runS (As := [.int ra, .int 0, .int 3]) (rest := []) ⟨hx, hb, hml, hown, hts⟩ (c_isWithin l dC dI cy ((fun q e => TW cy L tr a κ τ q e ∨ oW ob (L 0 0) tp q e)) ra 0 3 H.size) (tp_cwS 3 hts tw_42 tw_43 tw_20 tw_44 rfl rfl (by decide +kernel) ⟨Nat.le_of_ble_eq_true rfl, Nat.le_of_ble_eq_true rfl⟩) ⟨m_blind, fun U hU hW => ⟨rfl, m_pay hK hP hE (fun _ _ h => h) U hU hW⟩⟩ rfl rfl hl.1 rfl (lv_room (Nat.le_of_ble_eq_true rfl)) dX8_slow_10 ⟨(Nat.le_of_ble_eq_true rfl), (Nat.le_of_ble_eq_true rfl)⟩) hS (fun q _ h => hFc q h) hFc (fun r_2 u t H1 locs ht hvm hpo hB hz1 hk1 hS => ?_)
  obtain rfl := hpo
  obtain ⟨f_2, hP1⟩ := hB
  subst f_2
  rw [ht] at hP1
  have hP : mw (dC, dI) vwCl A (fun q e => TW cy L tr a κ τ q e ∨ oW ob (L 0 0) tp q e) H1 := hP.join (fun _ _ h => h) hk1 hFc hP1 (fun _ _ h => Or.inl h)
  generalize H1 = H at hP hS ⊢
  clear hP1 hk1 hFc
  have hFc := m_free (C := (fun q e => TW cy L tr a κ τ q e ∨ oW ob (L 0 0) tp q e)) hP hS hA (fun _ _ h => h)
  refine va_callv (va_runS (As := [.int (W_in ra 0 3)]) (rest := []) ⟨hx, hb, hml, hown, hts⟩ (c_checkArgument l dC dI cy ((fun q e => TW cy L tr a κ τ q e ∨ oW ob (L 0 0) tp q e)) (W_in ra 0 3) H.size (by rw [W_in_1 hra0 hra1]; decide)) (tp_cwS 1 hts tw_45 tw_46 tw_20 tw_47 rfl rfl (by decide +kernel) ⟨Nat.le_of_ble_eq_true rfl, Nat.le_of_ble_eq_true rfl⟩) ⟨m_blind, fun U hU hW => ⟨rfl, m_pay hK hP hE (fun _ _ h => h) U hU hW⟩⟩ rfl rfl hl.1 rfl (lv_room (Nat.le_of_ble_eq_true rfl)) dX8_slow_13 ⟨(Nat.le_of_ble_eq_true rfl), (Nat.le_of_ble_eq_true rfl)⟩) hS (fun q _ h => hFc q h) hFc (fun u t H1 locs ht hvm hpo hB hz1 hk1 hS => ?_)
  have hP1 := hB
  rw [ht] at hP1
  have hP : mw (dC, dI) vwCl A (fun q e => TW cy L tr a κ τ q e ∨ oW ob (L 0 0) tp q e) H1 := hP.join (fun _ _ h => h) hk1 hFc hP1 (fun _ _ h => Or.inl h)
  generalize H1 = H at hP hS ⊢
  clear hP1 hk1 hFc
  refine lv_iload_n hx hb dX8_slow_16 rfl (lv_at hl 4 rfl) ?_
  refine lv_iconst (v := 1) hx hb dX8_slow_17 (by decide) ?_
  refine lv_sipush (v := 200) hx hb dX8_slow_18 (by decide) ?_
  have hFc := m_free (C := (fun q e => TW cy L tr a κ τ q e ∨ oW ob (L 0 0) tp q e)) hP hS hA (fun _ _ h => h)
  refine va_calli (va_runS (As := [.int tk, .int 1, .int 200]) (rest := []) ⟨hx, hb, hml, hown, hts⟩ (c_isWithin l dC dI cy ((fun q e => TW cy L tr a κ τ q e ∨ oW ob (L 0 0) tp q e)) tk 1 200 H.size) (tp_cwS 3 hts tw_42 tw_43 tw_20 tw_44 rfl rfl (by decide +kernel) ⟨Nat.le_of_ble_eq_true rfl, Nat.le_of_ble_eq_true rfl⟩) ⟨m_blind, fun U hU hW => ⟨rfl, m_pay hK hP hE (fun _ _ h => h) U hU hW⟩⟩ rfl rfl hl.1 rfl (lv_room (Nat.le_of_ble_eq_true rfl)) dX8_slow_21 ⟨(Nat.le_of_ble_eq_true rfl), (Nat.le_of_ble_eq_true rfl)⟩) hS (fun q _ h => hFc q h) hFc (fun r_4 u t H1 locs ht hvm hpo hB hz1 hk1 hS => ?_)
  obtain rfl := hpo
  obtain ⟨f_3, hP1⟩ := hB
  subst f_3
  rw [ht] at hP1
  have hP : mw (dC, dI) vwCl A (fun q e => TW cy L tr a κ τ q e ∨ oW ob (L 0 0) tp q e) H1 := hP.join (fun _ _ h => h) hk1 hFc hP1 (fun _ _ h => Or.inl h)
  generalize H1 = H at hP hS ⊢
  clear hP1 hk1 hFc
  have hFc := m_free (C := (fun q e => TW cy L tr a κ τ q e ∨ oW ob (L 0 0) tp q e)) hP hS hA (fun _ _ h => h)
  refine va_callv (va_runS (As := [.int (W_in tk 1 200)]) (rest := []) ⟨hx, hb, hml, hown, hts⟩ (c_checkArgument l dC dI cy ((fun q e => TW cy L tr a κ τ q e ∨ oW ob (L 0 0) tp q e)) (W_in tk 1 200) H.size (by rw [W_in_1 htk0 htk1]; decide)) (tp_cwS 1 hts tw_45 tw_46 tw_20 tw_47 rfl rfl (by decide +kernel) ⟨Nat.le_of_ble_eq_true rfl, Nat.le_of_ble_eq_true rfl⟩) ⟨m_blind, fun U hU hW => ⟨rfl, m_pay hK hP hE (fun _ _ h => h) U hU hW⟩⟩ rfl rfl hl.1 rfl (lv_room (Nat.le_of_ble_eq_true rfl)) dX8_slow_24 ⟨(Nat.le_of_ble_eq_true rfl), (Nat.le_of_ble_eq_true rfl)⟩) hS (fun q _ h => hFc q h) hFc (fun u t H1 locs ht hvm hpo hB hz1 hk1 hS => ?_)
  have hP1 := hB
  rw [ht] at hP1
  have hP : mw (dC, dI) vwCl A (fun q e => TW cy L tr a κ τ q e ∨ oW ob (L 0 0) tp q e) H1 := hP.join (fun _ _ h => h) hk1 hFc hP1 (fun _ _ h => Or.inl h)
  generalize H1 = H at hP hS ⊢
  clear hP1 hk1 hFc
  refine lv_aload hx hb dX8_slow_27 (lv_at hl 0 rfl) ?_
  refine va_getN (D := (dC, dI)) (ws := [(L 2 n.toNatClampNeg, .inr (1, [.int ((a 2 n.toNatClampNeg) 0), .int ((a 2 n.toNatClampNeg) 1), .int ((a 2 n.toNatClampNeg) 2), .int ((a 2 n.toNatClampNeg) 3), .int ((a 2 n.toNatClampNeg) 4), .int ((a 2 n.toNatClampNeg) 5), .int ((a 2 n.toNatClampNeg) 6), .int ((a 2 n.toNatClampNeg) 7), .int ((a 2 n.toNatClampNeg) 8), .ref (L 3 n.toNatClampNeg), .ref (L 5 n.toNatClampNeg), .int ((a 2 n.toNatClampNeg) 9), .int ((a 2 n.toNatClampNeg) 10), .int ((a 2 n.toNatClampNeg) 11), .int ((a 2 n.toNatClampNeg) 12), .ref (L 7 n.toNatClampNeg)]))]) (ci := 1) (v := .int ((a 2 n.toNatClampNeg) 5)) (C := RX1) (T := TX1) (N := 16) hx hb hts tl_X1 hown hK (hP.one (Or.inl (tw_mem (f := 2) (i := n.toNatClampNeg) (G_lt hw hf) rfl))) 0 rfl rfl 5 (by decide) (va_Nw.use rfl (te_f11 hE)) (fun _ h9 => h9) rfl dX8_slow_29 ?_
  refine lv_istore (lv' := [(5, .int ((a 2 n.toNatClampNeg) 5)), (4, .ref (L 2 n.toNatClampNeg)), (0, .ref ob), (1, .int n), (2, .int ra), (3, .int tk)]) hx hb dX8_slow_32 hl (by decide) rfl (fun ls hl => ?_)
  refine lv_aload hx hb dX8_slow_34 (lv_at hl 1 rfl) ?_
  refine lv_iload_n hx hb dX8_slow_36 rfl (lv_at hl 4 rfl) ?_
  obtain ⟨ws9, k9, hPw, hDw, hk9, -, hbk⟩ := hP.cut (e := .inr (1, [.int ((a 2 n.toNatClampNeg) 0), .int ((a 2 n.toNatClampNeg) 1), .int ((a 2 n.toNatClampNeg) 2), .int ((a 2 n.toNatClampNeg) 3), .int ((a 2 n.toNatClampNeg) 4), .int ((a 2 n.toNatClampNeg) 5), .int ((a 2 n.toNatClampNeg) 6), .int ((a 2 n.toNatClampNeg) 7), .int ((a 2 n.toNatClampNeg) 8), .ref (L 3 n.toNatClampNeg), .ref (L 5 n.toNatClampNeg), .int ((a 2 n.toNatClampNeg) 9), .int ((a 2 n.toNatClampNeg) 10), .int ((a 2 n.toNatClampNeg) 11), .int ((a 2 n.toNatClampNeg) 12), .ref (L 7 n.toNatClampNeg)])) (Or.inl (tw_mem (f := 2) (i := n.toNatClampNeg) (G_lt hw hf) rfl))
  refine va_putN (D := (dC, dI)) (ci := 1) (v := .int ra) (ty := .int) (C := RX1) (T := TX1) (N := 16) hx hb hts tl_X1 tyX1 tyX1_ok nmX1 hown hK hPw hDw hS k9 hk9 rfl 5 (by decide) (va_Nw.use rfl (te_f11 hE)) (fun _ h9 => h9) rfl (by decide +kernel) rfl rfl (Nat.le_of_ble_eq_true rfl) dX8_slow_37 (fun H locs hPw hDw hS => ?_)
  have hP : mw (dC, dI) vwCl A (fun q e => TW cy L tr (S2 a 2 n.toNatClampNeg (upd (a 2 n.toNatClampNeg) 5 ra)) κ τ q e ∨ oW ob (L 0 0) tp q e) H := (hbk _ _ hPw hDw).sub (mset_l (tw_set (b := S2 a 2 n.toNatClampNeg (upd (a 2 n.toNatClampNeg) 5 ra)) (f := 2) (i := n.toNatClampNeg) (x := upd (a 2 n.toNatClampNeg) 5 ra) hT (G_lt hw hf) (by decide) rfl) (fun q e h => ow_off hP (fun _ _ h => Or.inl h) (fun _ _ h => Or.inr h) (G_lt hw hf) h))
  clear hbk hPw hDw hk9
  refine lv_aload hx hb dX8_slow_40 (lv_at hl 1 rfl) ?_
  refine lv_iload_n hx hb dX8_slow_42 rfl (lv_at hl 5 rfl) ?_
  obtain ⟨ws9, k9, hPw, hDw, hk9, -, hbk⟩ := hP.cut (e := .inr (1, [.int ((a 2 n.toNatClampNeg) 0), .int ((a 2 n.toNatClampNeg) 1), .int ((a 2 n.toNatClampNeg) 2), .int ((a 2 n.toNatClampNeg) 3), .int ((a 2 n.toNatClampNeg) 4), .int ra, .int ((a 2 n.toNatClampNeg) 6), .int ((a 2 n.toNatClampNeg) 7), .int ((a 2 n.toNatClampNeg) 8), .ref (L 3 n.toNatClampNeg), .ref (L 5 n.toNatClampNeg), .int ((a 2 n.toNatClampNeg) 9), .int ((a 2 n.toNatClampNeg) 10), .int ((a 2 n.toNatClampNeg) 11), .int ((a 2 n.toNatClampNeg) 12), .ref (L 7 n.toNatClampNeg)])) (Or.inl (tw_mem (f := 2) (i := n.toNatClampNeg) (x := upd (a 2 n.toNatClampNeg) 5 ra) (G_lt hw hf) S2_eq))
  refine va_putN (D := (dC, dI)) (ci := 1) (v := .int tk) (ty := .int) (C := RX1) (T := TX1) (N := 16) hx hb hts tl_X1 tyX1 tyX1_ok nmX1 hown hK hPw hDw hS k9 hk9 rfl 6 (by decide) (va_Nw.use rfl (te_f12 hE)) (fun _ h9 => h9) rfl (by decide +kernel) rfl rfl (Nat.le_of_ble_eq_true rfl) dX8_slow_43 (fun H locs hPw hDw hS => ?_)
  have hP : mw (dC, dI) vwCl A (fun q e => TW cy L tr (S2 a 2 n.toNatClampNeg (upd (upd (a 2 n.toNatClampNeg) 5 ra) 6 tk)) κ τ q e ∨ oW ob (L 0 0) tp q e) H := (hbk _ _ hPw hDw).sub (mset_l (tw_set (b := S2 a 2 n.toNatClampNeg (upd (upd (a 2 n.toNatClampNeg) 5 ra) 6 tk)) (f := 2) (i := n.toNatClampNeg) (x := upd (upd (a 2 n.toNatClampNeg) 5 ra) 6 tk) hT (G_lt hw hf) (by decide) S2_S2.symm) (fun q e h => ow_off hP (fun _ _ h => Or.inl h) (fun _ _ h => Or.inr h) (G_lt hw hf) h))
  clear hbk hPw hDw hk9
  refine lv_iload hx hb dX8_slow_46 (lv_at hl 0 rfl) ?_
  refine W.widen (k := 0) (n := 0) (Nat.le_of_ble_eq_true rfl) (Nat.le_of_ble_eq_true rfl) ?_
  have s_1 : S2 a 2 n.toNatClampNeg (upd (upd (a 2 n.toNatClampNeg) 5 ra) 6 tk) = U_slow a n.toNatClampNeg ra tk := by
    rfl
  rw [s_1] at hP
  have g_1 : ((a 2 n.toNatClampNeg) 5) = a 2 n.toNatClampNeg 5 := by
    rfl
  exact W.iret (v := (a 2 n.toNatClampNeg) 5) hx hb hr (fun t ht hW => ⟨⟨((a 2 n.toNatClampNeg) 5), ((a 2 n.toNatClampNeg) 5), rfl, rfl, ⟨g_1, by show mw _ _ _ _ t.heap; rw [ht]; exact hP⟩⟩, hS.F ht⟩) hS.2.2 dX8_slow_48
set_option maxRecDepth 100000 in
set_option maxHeartbeats 4000000 in
/-- shut -/
theorem c_shut (l : Launch) (dC : Nat → ClassId) (dI : Nat → Nat → Nat) (cy : Nat → ClassId) (L : Lay) (tr : Option Nat) (a : St) (κ : Kap) (τ : Tau) (ob : Nat) (tp : Nat) (M : Nat) (n : Int32) (bo : Int32) (sz : Nat) (hT : TL L tr τ) (hw : Wf M a) (hf : ¬ G_no a n) (hsh : ∀ i, i < 24 → a 2 i 7 = 0 ∨ a 2 i 7 = 1) (hbo : bo = 0 ∨ bo = 1) (hκ : CV a κ) : Met l yX8_shut (tp_w yX8_shut cX8_shut 5 (some .boolean)) ({ frames := 2, cells := 0, slots := 0, locals := 43 }) (va_Pc [.ref ob, .int n, .int bo] (mPre dC dI cy (fun q e => TW cy L tr a κ τ q e ∨ oW ob (L 0 0) tp q e) sz)) (va_Qi (fun (r u : Int32) => r = u) (fun (u : Int32) (t : State) => ∃ (κ2 : Kap), (u = a 2 n.toNatClampNeg 7) ∧ (CV (U_shut a n.toNatClampNeg bo) κ2) ∧ mw (dC, dI) vwCl (mA (fun q e => TW cy L tr a κ τ q e ∨ oW ob (L 0 0) tp q e) sz) (fun q e => TW cy L tr (U_shut a n.toNatClampNeg bo) κ2 τ q e ∨ oW ob (L 0 0) tp q e) t.heap) (mA (fun q e => TW cy L tr a κ τ q e ∨ oW ob (L 0 0) tp q e) sz)) (0) (0) (mA (fun q e => TW cy L tr a κ τ q e ∨ oW ob (L 0 0) tp q e) sz) := by
  refine Met.ofW (cc := cX8_shut) (maxL := 5) (ret := (some .boolean)) (by decide) rfl ?_
  intro p e s m args below meth c s₁ B hml hv
  obtain ⟨rfl, hsz, hP, hK, hE⟩ := hv
  have hx := B.exec
  have hb := B.bytes
  have hr := B.returns
  have hts0 := atoms_spec (ws := tp_w yX8_shut cX8_shut 5 (some .boolean)) B.pre
  have hts : ∀ w ∈ tp_all, w.before _ s = true := fun w h => hts0 w (List.mem_cons_of_mem _ h)
  have hown : s.vm.findClass RX8 = some m.cls := findClass_of_methodNamed B.named
  have hlocks := B.notSynchronized
  subst hsz
  have hP := hP.self s.heap.size
  generalize hAe : mA (fun q e => TW cy L tr a κ τ q e ∨ oW ob (L 0 0) tp q e) s.heap.size = A at hP ⊢
  have hA : ∀ q : Nat, s.heap.size ≤ q → A q := fun q h => by rw [← hAe]; exact Or.inr h
  have hS : va_S A s.heap s.heap [] := va_S.rf
  have hl9 := lv_entry ([.ref ob, .int n, .int bo]) (n := 5) (Nat.le_of_ble_eq_true rfl)
  rw [lg_entry_eq]
  generalize (lg_sl ([.ref ob, .int n, .int bo]) ++ List.replicate (5 - (lg_sl ([.ref ob, .int n, .int bo])).length) Slot.unset).toArray = ls at hl9 ⊢
  have hl : lv_has ls 5 [(0, .ref ob), (1, .int n), (2, .int bo)] := hl9
  refine lv_aload_n hx hb dX8_shut_0 rfl (lv_at hl 0 rfl) ?_
  refine lv_iload_n hx hb dX8_shut_1 rfl (lv_at hl 1 rfl) ?_
  have hFc := m_free (C := (fun q e => TW cy L tr a κ τ q e ∨ oW ob (L 0 0) tp q e)) hP hS hA (fun _ _ h => h)
  refine va_callr (va_runV (As := [.int n]) (rest := []) ⟨hx, hb, hml, hown, hts⟩ (c_linkNumbered l dC dI cy L tr a κ τ ob tp M n s.heap.size hT hw hf) (tp_cwV 1 hts tw_122 tw_124 tw_1 tw_20 tw_126 rfl rfl (by decide +kernel) ⟨Nat.le_of_ble_eq_true rfl, Nat.le_of_ble_eq_true rfl⟩) ⟨m_blind, va_recv hK (hP.one (e := .inr (8, [.ref (L 0 0), .ref tp])) (Or.inr oW_mem)) (ci := 8) (q0 := 0) rfl rfl, fun U hU hW => ⟨rfl, m_pay hK hP hE (fun _ _ h => h) U hU hW⟩⟩ rfl rfl hl.1 rfl (lv_room (Nat.le_of_ble_eq_true rfl)) dX8_shut_2 ⟨(Nat.le_of_ble_eq_true rfl), (Nat.le_of_ble_eq_true rfl)⟩) hS (fun q _ h => hFc q h) hFc (fun u r_1 t H1 locs ht hvm hpo hB hz1 hk1 hS => ?_)
  obtain ⟨f_1, hP1⟩ := hB
  subst f_1
  rw [ht] at hP1
  have hP : mw (dC, dI) vwCl A (fun q e => TW cy L tr a κ τ q e ∨ oW ob (L 0 0) tp q e) H1 := hP.join (fun _ _ h => h) hk1 hFc hP1 (fun _ _ h => Or.inl h)
  generalize H1 = H at hP hS ⊢
  clear hP1 hk1 hFc
  refine lv_astore_n (lv' := [(3, .ref (L 2 n.toNatClampNeg)), (0, .ref ob), (1, .int n), (2, .int bo)]) hx hb dX8_shut_5 rfl hl (by decide) rfl (fun ls hl => ?_)
  refine lv_aload_n hx hb dX8_shut_6 rfl (lv_at hl 0 rfl) ?_
  refine va_getN (D := (dC, dI)) (ws := [(L 2 n.toNatClampNeg, .inr (1, [.int ((a 2 n.toNatClampNeg) 0), .int ((a 2 n.toNatClampNeg) 1), .int ((a 2 n.toNatClampNeg) 2), .int ((a 2 n.toNatClampNeg) 3), .int ((a 2 n.toNatClampNeg) 4), .int ((a 2 n.toNatClampNeg) 5), .int ((a 2 n.toNatClampNeg) 6), .int ((a 2 n.toNatClampNeg) 7), .int ((a 2 n.toNatClampNeg) 8), .ref (L 3 n.toNatClampNeg), .ref (L 5 n.toNatClampNeg), .int ((a 2 n.toNatClampNeg) 9), .int ((a 2 n.toNatClampNeg) 10), .int ((a 2 n.toNatClampNeg) 11), .int ((a 2 n.toNatClampNeg) 12), .ref (L 7 n.toNatClampNeg)]))]) (ci := 1) (v := .int ((a 2 n.toNatClampNeg) 7)) (C := RX1) (T := TX1) (N := 16) hx hb hts tl_X1 hown hK (hP.one (Or.inl (tw_mem (f := 2) (i := n.toNatClampNeg) (G_lt hw hf) rfl))) 0 rfl rfl 7 (by decide) (va_Nw.use rfl (te_f13 hE)) (fun _ h9 => h9) rfl dX8_shut_7 ?_
  refine lv_istore (lv' := [(4, .int ((a 2 n.toNatClampNeg) 7)), (3, .ref (L 2 n.toNatClampNeg)), (0, .ref ob), (1, .int n), (2, .int bo)]) hx hb dX8_shut_10 hl (by decide) rfl (fun ls hl => ?_)
  refine lv_iload hx hb dX8_shut_12 (lv_at hl 0 rfl) ?_
  refine lv_iload_n hx hb dX8_shut_14 rfl (lv_at hl 4 rfl) ?_
  refine lv_icmp_eq (tgt := 33) hx hb dX8_shut_15 (by decide) (fun c_1 => ?_) (fun c_1 => ?_)
  · refine lv_iload hx hb dX8_shut_33 (lv_at hl 0 rfl) ?_
    refine W.widen (k := 0) (n := 0) (Nat.le_of_ble_eq_true rfl) (Nat.le_of_ble_eq_true rfl) ?_
    have s_1 : a = U_shut a n.toNatClampNeg bo := by
      unfold U_shut
      rw [if_pos c_1]
    rw [s_1] at hP
    have g_1 : ((a 2 n.toNatClampNeg) 7) = a 2 n.toNatClampNeg 7 := by
      rfl
    have g_2 : CV (U_shut a n.toNatClampNeg bo) κ := by
      unfold U_shut
      rw [if_pos c_1]
      exact hκ
    exact W.zret (v := (a 2 n.toNatClampNeg) 7) hx hb hr (m_bool (hsh _ (G_lt hw hf))) (fun t ht hW => ⟨⟨((a 2 n.toNatClampNeg) 7), ((a 2 n.toNatClampNeg) 7), rfl, rfl, ⟨κ, g_1, g_2, by show mw _ _ _ _ t.heap; rw [ht]; exact hP⟩⟩, hS.F ht⟩) hS.2.2 dX8_shut_35
  · refine lv_aload_n hx hb dX8_shut_18 rfl (lv_at hl 1 rfl) ?_
    refine lv_iload_n hx hb dX8_shut_19 rfl (lv_at hl 4 rfl) ?_
    obtain ⟨ws9, k9, hPw, hDw, hk9, -, hbk⟩ := hP.cut (e := .inr (1, [.int ((a 2 n.toNatClampNeg) 0), .int ((a 2 n.toNatClampNeg) 1), .int ((a 2 n.toNatClampNeg) 2), .int ((a 2 n.toNatClampNeg) 3), .int ((a 2 n.toNatClampNeg) 4), .int ((a 2 n.toNatClampNeg) 5), .int ((a 2 n.toNatClampNeg) 6), .int ((a 2 n.toNatClampNeg) 7), .int ((a 2 n.toNatClampNeg) 8), .ref (L 3 n.toNatClampNeg), .ref (L 5 n.toNatClampNeg), .int ((a 2 n.toNatClampNeg) 9), .int ((a 2 n.toNatClampNeg) 10), .int ((a 2 n.toNatClampNeg) 11), .int ((a 2 n.toNatClampNeg) 12), .ref (L 7 n.toNatClampNeg)])) (Or.inl (tw_mem (f := 2) (i := n.toNatClampNeg) (G_lt hw hf) rfl))
    refine va_putN (D := (dC, dI)) (ci := 1) (v := .int bo) (ty := .boolean) (C := RX1) (T := TX1) (N := 16) hx hb hts tl_X1 tyX1 tyX1_ok nmX1 hown hK hPw hDw hS k9 hk9 rfl 7 (by decide) (va_Nw.use rfl (te_f13 hE)) (fun _ h9 => h9) rfl (by decide +kernel) (m_bool hbo) (m_boolf hbo) (Nat.le_of_ble_eq_true rfl) dX8_shut_20 (fun H locs hPw hDw hS => ?_)
    have hP : mw (dC, dI) vwCl A (fun q e => TW cy L tr (S2 a 2 n.toNatClampNeg (upd (a 2 n.toNatClampNeg) 7 bo)) κ τ q e ∨ oW ob (L 0 0) tp q e) H := (hbk _ _ hPw hDw).sub (mset_l (tw_set (b := S2 a 2 n.toNatClampNeg (upd (a 2 n.toNatClampNeg) 7 bo)) (f := 2) (i := n.toNatClampNeg) (x := upd (a 2 n.toNatClampNeg) 7 bo) hT (G_lt hw hf) (by decide) rfl) (fun q e h => ow_off hP (fun _ _ h => Or.inl h) (fun _ _ h => Or.inr h) (G_lt hw hf) h))
    clear hbk hPw hDw hk9
    refine lv_aload_n hx hb dX8_shut_23 rfl (lv_at hl 2 rfl) ?_
    refine va_get (D := (dC, dI)) (ws := [(ob, .inr (8, [.ref (L 0 0), .ref tp]))]) (ci := 8) (v := .ref (L 0 0)) (C := RX8) (T := TX8) (N := 2) hx hb hts tl_X8 hown hK (hP.one (Or.inr oW_mem)) 0 rfl rfl 0 (by decide) (hts _ tw_922) (fun _ h9 => h9) rfl dX8_shut_24 ?_
    refine va_getN (D := (dC, dI)) (ws := [(L 0 0, .inr (5, [.ref (L 1 0), .ref (L 20 0), .ref (L 21 0), .ref (L 22 0), .ref (L 23 0), va_rf tr, .int ((a 0 0) 0), .int ((a 0 0) 1), .int ((a 0 0) 2), .int ((a 0 0) 3), .int ((a 0 0) 4), .int ((a 0 0) 5)]))]) (ci := 5) (v := .ref (L 1 0)) (C := RX5) (T := TX5) (N := 12) hx hb hts tl_X5 hown hK (hP.one (Or.inl (tw_mem (f := 0) (i := 0) (by decide) (S2_nf (by decide))))) 0 rfl rfl 0 (by decide) (va_Nw.use rfl (te_f60 hE)) (fun _ h9 => h9) rfl dX8_shut_27 ?_
    have hFc := m_free (C := (TW cy L tr (S2 a 2 n.toNatClampNeg (upd (a 2 n.toNatClampNeg) 7 bo)) κ τ)) hP hS hA (fun _ _ h => (Or.inl h))
    refine va_callv (va_runV (As := []) (rest := []) ⟨hx, hb, hml, hown, hts⟩ (c_Roads_forgetWays l dC dI cy L tr (S2 a 2 n.toNatClampNeg (upd (a 2 n.toNatClampNeg) 7 bo)) κ τ H.size hT) (tp_cwV 0 hts tw_147 tw_148 tw_149 tw_22 tw_150 rfl rfl (by decide +kernel) ⟨Nat.le_of_ble_eq_true rfl, Nat.le_of_ble_eq_true rfl⟩) ⟨m_blind, va_recv hK (hP.one (e := .inr (2, [.ref (L 24 0), .int ((a 1 0) 0), .ref (L 25 0), .int κ.1])) (Or.inl (tw_mem (f := 1) (i := 0) (by decide) (S2_nf (by decide))))) (ci := 2) (q0 := 0) rfl rfl, fun U hU hW => ⟨rfl, m_pay hK hP hE (fun _ _ h => (Or.inl h)) U hU hW⟩⟩ rfl rfl hl.1 rfl (lv_room (Nat.le_of_ble_eq_true rfl)) dX8_shut_30 ⟨(Nat.le_of_ble_eq_true rfl), (Nat.le_of_ble_eq_true rfl)⟩) hS (fun q _ h => hFc q h) hFc (fun u t H1 locs ht hvm hpo hB hz1 hk1 hS => ?_)
    have hP1 := hB
    rw [ht] at hP1
    have hP : mw (dC, dI) vwCl A (fun q e => TW cy L tr (S2 a 2 n.toNatClampNeg (upd (a 2 n.toNatClampNeg) 7 bo)) ((0, κ.2)) τ q e ∨ oW ob (L 0 0) tp q e) H1 := hP.join (fun _ _ h => (Or.inl h)) hk1 hFc hP1 (fun q e h => (h.elim (fun h => Or.inl h) (fun h => Or.inr ⟨(Or.inr h), fun y hy => ow_dis hP (fun _ _ h => (Or.inl h)) (fun _ _ h => (Or.inr h)) h hy⟩)))
    generalize H1 = H at hP hS ⊢
    clear hP1 hk1 hFc
    refine lv_iload hx hb dX8_shut_33 (lv_at hl 0 rfl) ?_
    refine W.widen (k := 0) (n := 0) (Nat.le_of_ble_eq_true rfl) (Nat.le_of_ble_eq_true rfl) ?_
    have s_2 : S2 a 2 n.toNatClampNeg (upd (a 2 n.toNatClampNeg) 7 bo) = U_shut a n.toNatClampNeg bo := by
      unfold U_shut
      rw [if_neg c_1]
    rw [s_2] at hP
    have g_3 : ((a 2 n.toNatClampNeg) 7) = a 2 n.toNatClampNeg 7 := by
      rfl
    have g_4 : CV (U_shut a n.toNatClampNeg bo) ((0, κ.2)) := by
      unfold U_shut
      rw [if_neg c_1]
      exact CV.none
    exact W.zret (v := (a 2 n.toNatClampNeg) 7) hx hb hr (m_bool (hsh _ (G_lt hw hf))) (fun t ht hW => ⟨⟨((a 2 n.toNatClampNeg) 7), ((a 2 n.toNatClampNeg) 7), rfl, rfl, ⟨((0, κ.2)), g_3, g_4, by show mw _ _ _ _ t.heap; rw [ht]; exact hP⟩⟩, hS.F ht⟩) hS.2.2 dX8_shut_35
set_option maxRecDepth 100000 in
set_option maxHeartbeats 4000000 in
/-- addFlow -/
theorem c_addFlow (l : Launch) (dC : Nat → ClassId) (dI : Nat → Nat → Nat) (cy : Nat → ClassId) (L : Lay) (tr : Option Nat) (a : St) (κ : Kap) (τ : Tau) (ob : Nat) (tp : Nat) (M : Nat) (fr : Int32) (to : Int32) (kd : Int32) (st : Int32) (pe : Int32) (mo : Int32) (sz : Nat) (hT : TL L tr τ) (hw : Wf M a) (hf : ¬ N_no a fr) (hg : ¬ N_no a to) (hne : ¬ fr = to) (hkd0 : ¬ kd < 0) (hkd1 : ¬ 1 < kd) (hst0 : ¬ st < a 0 0 0) (hst1 : ¬ a 0 0 0 + 500 < st) (hpe0 : ¬ pe < 1) (hpe1 : ¬ 30 < pe) (hmo0 : ¬ mo < 1) (hmo1 : ¬ 40 < mo) (h10 : (a 0 0 3).toInt < 10) : Met l yX8_addFlow (tp_w yX8_addFlow cX8_addFlow 7 (some .int)) ({ frames := 1, cells := 0, slots := 0, locals := 26 }) (va_Pc [.ref ob, .int fr, .int to, .int kd, .int st, .int pe, .int mo] (mPre dC dI cy (fun q e => TW cy L tr a κ τ q e ∨ oW ob (L 0 0) tp q e) sz)) (va_Qi (fun (r u : Int32) => r = u) (fun (u : Int32) (t : State) => (u = a 0 0 3) ∧ mw (dC, dI) vwCl (mA (fun q e => TW cy L tr a κ τ q e ∨ oW ob (L 0 0) tp q e) sz) (fun q e => TW cy L tr (U_flow a fr to kd st pe mo) κ τ q e ∨ oW ob (L 0 0) tp q e) t.heap) (mA (fun q e => TW cy L tr a κ τ q e ∨ oW ob (L 0 0) tp q e) sz)) (0) (0) (mA (fun q e => TW cy L tr a κ τ q e ∨ oW ob (L 0 0) tp q e) sz) := by
  refine Met.ofW (cc := cX8_addFlow) (maxL := 7) (ret := (some .int)) (by decide) rfl ?_
  intro p e s m args below meth c s₁ B hml hv
  obtain ⟨rfl, hsz, hP, hK, hE⟩ := hv
  have hx := B.exec
  have hb := B.bytes
  have hr := B.returns
  have hts0 := atoms_spec (ws := tp_w yX8_addFlow cX8_addFlow 7 (some .int)) B.pre
  have hts : ∀ w ∈ tp_all, w.before _ s = true := fun w h => hts0 w (List.mem_cons_of_mem _ h)
  have hown : s.vm.findClass RX8 = some m.cls := findClass_of_methodNamed B.named
  have hlocks := B.notSynchronized
  subst hsz
  have hP := hP.self s.heap.size
  generalize hAe : mA (fun q e => TW cy L tr a κ τ q e ∨ oW ob (L 0 0) tp q e) s.heap.size = A at hP ⊢
  have hA : ∀ q : Nat, s.heap.size ≤ q → A q := fun q h => by rw [← hAe]; exact Or.inr h
  have hS : va_S A s.heap s.heap [] := va_S.rf
  have hl9 := lv_entry ([.ref ob, .int fr, .int to, .int kd, .int st, .int pe, .int mo]) (n := 7) (Nat.le_of_ble_eq_true rfl)
  rw [lg_entry_eq]
  generalize (lg_sl ([.ref ob, .int fr, .int to, .int kd, .int st, .int pe, .int mo]) ++ List.replicate (7 - (lg_sl ([.ref ob, .int fr, .int to, .int kd, .int st, .int pe, .int mo])).length) Slot.unset).toArray = ls at hl9 ⊢
  have hl : lv_has ls 7 [(0, .ref ob), (1, .int fr), (2, .int to), (3, .int kd), (4, .int st), (5, .int pe), (6, .int mo)] := hl9
  refine lv_aload_n hx hb dX8_addFlow_0 rfl (lv_at hl 0 rfl) ?_
  refine lv_iload_n hx hb dX8_addFlow_1 rfl (lv_at hl 1 rfl) ?_
  have hFc := m_free (C := (fun q e => TW cy L tr a κ τ q e ∨ oW ob (L 0 0) tp q e)) hP hS hA (fun _ _ h => h)
  refine va_callv (va_runV (As := [.int fr]) (rest := []) ⟨hx, hb, hml, hown, hts⟩ (c_checkNode l dC dI cy L tr a κ τ ob tp fr s.heap.size hT hf) (tp_cwV 1 hts tw_426 tw_428 tw_13 tw_20 tw_429 rfl rfl (by decide +kernel) ⟨Nat.le_of_ble_eq_true rfl, Nat.le_of_ble_eq_true rfl⟩) ⟨m_blind, va_recv hK (hP.one (e := .inr (8, [.ref (L 0 0), .ref tp])) (Or.inr oW_mem)) (ci := 8) (q0 := 0) rfl rfl, fun U hU hW => ⟨rfl, m_pay hK hP hE (fun _ _ h => h) U hU hW⟩⟩ rfl rfl hl.1 rfl (lv_room (Nat.le_of_ble_eq_true rfl)) dX8_addFlow_2 ⟨(Nat.le_of_ble_eq_true rfl), (Nat.le_of_ble_eq_true rfl)⟩) hS (fun q _ h => hFc q h) hFc (fun u t H1 locs ht hvm hpo hB hz1 hk1 hS => ?_)
  have hP1 := hB
  rw [ht] at hP1
  have hP : mw (dC, dI) vwCl A (fun q e => TW cy L tr a κ τ q e ∨ oW ob (L 0 0) tp q e) H1 := hP.join (fun _ _ h => h) hk1 hFc hP1 (fun _ _ h => Or.inl h)
  generalize H1 = H at hP hS ⊢
  clear hP1 hk1 hFc
  refine lv_aload_n hx hb dX8_addFlow_5 rfl (lv_at hl 0 rfl) ?_
  refine lv_iload_n hx hb dX8_addFlow_6 rfl (lv_at hl 2 rfl) ?_
  have hFc := m_free (C := (fun q e => TW cy L tr a κ τ q e ∨ oW ob (L 0 0) tp q e)) hP hS hA (fun _ _ h => h)
  refine va_callv (va_runV (As := [.int to]) (rest := []) ⟨hx, hb, hml, hown, hts⟩ (c_checkNode l dC dI cy L tr a κ τ ob tp to H.size hT hg) (tp_cwV 1 hts tw_426 tw_428 tw_13 tw_20 tw_429 rfl rfl (by decide +kernel) ⟨Nat.le_of_ble_eq_true rfl, Nat.le_of_ble_eq_true rfl⟩) ⟨m_blind, va_recv hK (hP.one (e := .inr (8, [.ref (L 0 0), .ref tp])) (Or.inr oW_mem)) (ci := 8) (q0 := 0) rfl rfl, fun U hU hW => ⟨rfl, m_pay hK hP hE (fun _ _ h => h) U hU hW⟩⟩ rfl rfl hl.1 rfl (lv_room (Nat.le_of_ble_eq_true rfl)) dX8_addFlow_7 ⟨(Nat.le_of_ble_eq_true rfl), (Nat.le_of_ble_eq_true rfl)⟩) hS (fun q _ h => hFc q h) hFc (fun u t H1 locs ht hvm hpo hB hz1 hk1 hS => ?_)
  have hP1 := hB
  rw [ht] at hP1
  have hP : mw (dC, dI) vwCl A (fun q e => TW cy L tr a κ τ q e ∨ oW ob (L 0 0) tp q e) H1 := hP.join (fun _ _ h => h) hk1 hFc hP1 (fun _ _ h => Or.inl h)
  generalize H1 = H at hP hS ⊢
  clear hP1 hk1 hFc
  refine lv_iload_n hx hb dX8_addFlow_10 rfl (lv_at hl 1 rfl) ?_
  refine lv_iload_n hx hb dX8_addFlow_11 rfl (lv_at hl 2 rfl) ?_
  refine lv_icmp_eq (tgt := 19) hx hb dX8_addFlow_12 (by decide) (fun c_1 => absurd c_1 hne) (fun _ => ?_)
  refine lv_iconst (v := 1) hx hb dX8_addFlow_15 (by decide) ?_
  refine lv_goto (tgt := 20) hx hb dX8_addFlow_16 (by decide) ?_
  have hFc := m_free (C := (fun q e => TW cy L tr a κ τ q e ∨ oW ob (L 0 0) tp q e)) hP hS hA (fun _ _ h => h)
  refine va_callv (va_runS (As := [.int 1]) (rest := []) ⟨hx, hb, hml, hown, hts⟩ (c_checkArgument l dC dI cy ((fun q e => TW cy L tr a κ τ q e ∨ oW ob (L 0 0) tp q e)) 1 H.size (by decide)) (tp_cwS 1 hts tw_45 tw_46 tw_20 tw_47 rfl rfl (by decide +kernel) ⟨Nat.le_of_ble_eq_true rfl, Nat.le_of_ble_eq_true rfl⟩) ⟨m_blind, fun U hU hW => ⟨rfl, m_pay hK hP hE (fun _ _ h => h) U hU hW⟩⟩ rfl rfl hl.1 rfl (lv_room (Nat.le_of_ble_eq_true rfl)) dX8_addFlow_20 ⟨(Nat.le_of_ble_eq_true rfl), (Nat.le_of_ble_eq_true rfl)⟩) hS (fun q _ h => hFc q h) hFc (fun u t H1 locs ht hvm hpo hB hz1 hk1 hS => ?_)
  have hP1 := hB
  rw [ht] at hP1
  have hP : mw (dC, dI) vwCl A (fun q e => TW cy L tr a κ τ q e ∨ oW ob (L 0 0) tp q e) H1 := hP.join (fun _ _ h => h) hk1 hFc hP1 (fun _ _ h => Or.inl h)
  generalize H1 = H at hP hS ⊢
  clear hP1 hk1 hFc
  refine lv_iload_n hx hb dX8_addFlow_23 rfl (lv_at hl 3 rfl) ?_
  refine lv_iconst (v := 0) hx hb dX8_addFlow_24 (by decide) ?_
  refine lv_iconst (v := 1) hx hb dX8_addFlow_25 (by decide) ?_
  have hFc := m_free (C := (fun q e => TW cy L tr a κ τ q e ∨ oW ob (L 0 0) tp q e)) hP hS hA (fun _ _ h => h)
  refine va_calli (va_runS (As := [.int kd, .int 0, .int 1]) (rest := []) ⟨hx, hb, hml, hown, hts⟩ (c_isWithin l dC dI cy ((fun q e => TW cy L tr a κ τ q e ∨ oW ob (L 0 0) tp q e)) kd 0 1 H.size) (tp_cwS 3 hts tw_42 tw_43 tw_20 tw_44 rfl rfl (by decide +kernel) ⟨Nat.le_of_ble_eq_true rfl, Nat.le_of_ble_eq_true rfl⟩) ⟨m_blind, fun U hU hW => ⟨rfl, m_pay hK hP hE (fun _ _ h => h) U hU hW⟩⟩ rfl rfl hl.1 rfl (lv_room (Nat.le_of_ble_eq_true rfl)) dX8_addFlow_26 ⟨(Nat.le_of_ble_eq_true rfl), (Nat.le_of_ble_eq_true rfl)⟩) hS (fun q _ h => hFc q h) hFc (fun r_4 u t H1 locs ht hvm hpo hB hz1 hk1 hS => ?_)
  obtain rfl := hpo
  obtain ⟨f_1, hP1⟩ := hB
  subst f_1
  rw [ht] at hP1
  have hP : mw (dC, dI) vwCl A (fun q e => TW cy L tr a κ τ q e ∨ oW ob (L 0 0) tp q e) H1 := hP.join (fun _ _ h => h) hk1 hFc hP1 (fun _ _ h => Or.inl h)
  generalize H1 = H at hP hS ⊢
  clear hP1 hk1 hFc
  have hFc := m_free (C := (fun q e => TW cy L tr a κ τ q e ∨ oW ob (L 0 0) tp q e)) hP hS hA (fun _ _ h => h)
  refine va_callv (va_runS (As := [.int (W_in kd 0 1)]) (rest := []) ⟨hx, hb, hml, hown, hts⟩ (c_checkArgument l dC dI cy ((fun q e => TW cy L tr a κ τ q e ∨ oW ob (L 0 0) tp q e)) (W_in kd 0 1) H.size (by rw [W_in_1 hkd0 hkd1]; decide)) (tp_cwS 1 hts tw_45 tw_46 tw_20 tw_47 rfl rfl (by decide +kernel) ⟨Nat.le_of_ble_eq_true rfl, Nat.le_of_ble_eq_true rfl⟩) ⟨m_blind, fun U hU hW => ⟨rfl, m_pay hK hP hE (fun _ _ h => h) U hU hW⟩⟩ rfl rfl hl.1 rfl (lv_room (Nat.le_of_ble_eq_true rfl)) dX8_addFlow_29 ⟨(Nat.le_of_ble_eq_true rfl), (Nat.le_of_ble_eq_true rfl)⟩) hS (fun q _ h => hFc q h) hFc (fun u t H1 locs ht hvm hpo hB hz1 hk1 hS => ?_)
  have hP1 := hB
  rw [ht] at hP1
  have hP : mw (dC, dI) vwCl A (fun q e => TW cy L tr a κ τ q e ∨ oW ob (L 0 0) tp q e) H1 := hP.join (fun _ _ h => h) hk1 hFc hP1 (fun _ _ h => Or.inl h)
  generalize H1 = H at hP hS ⊢
  clear hP1 hk1 hFc
  refine lv_iload hx hb dX8_addFlow_32 (lv_at hl 4 rfl) ?_
  refine lv_aload_n hx hb dX8_addFlow_34 rfl (lv_at hl 0 rfl) ?_
  refine va_get (D := (dC, dI)) (ws := [(ob, .inr (8, [.ref (L 0 0), .ref tp]))]) (ci := 8) (v := .ref (L 0 0)) (C := RX8) (T := TX8) (N := 2) hx hb hts tl_X8 hown hK (hP.one (Or.inr oW_mem)) 0 rfl rfl 0 (by decide) (hts _ tw_922) (fun _ h9 => h9) rfl dX8_addFlow_35 ?_
  refine va_getN (D := (dC, dI)) (ws := [(L 0 0, .inr (5, [.ref (L 1 0), .ref (L 20 0), .ref (L 21 0), .ref (L 22 0), .ref (L 23 0), va_rf tr, .int ((a 0 0) 0), .int ((a 0 0) 1), .int ((a 0 0) 2), .int ((a 0 0) 3), .int ((a 0 0) 4), .int ((a 0 0) 5)]))]) (ci := 5) (v := .int ((a 0 0) 0)) (C := RX5) (T := TX5) (N := 12) hx hb hts tl_X5 hown hK (hP.one (Or.inl (tw_mem (f := 0) (i := 0) (by decide) rfl))) 0 rfl rfl 6 (by decide) (va_Nw.use rfl (te_f66 hE)) (fun _ h9 => h9) rfl dX8_addFlow_38 ?_
  refine lv_aload_n hx hb dX8_addFlow_41 rfl (lv_at hl 0 rfl) ?_
  refine va_get (D := (dC, dI)) (ws := [(ob, .inr (8, [.ref (L 0 0), .ref tp]))]) (ci := 8) (v := .ref (L 0 0)) (C := RX8) (T := TX8) (N := 2) hx hb hts tl_X8 hown hK (hP.one (Or.inr oW_mem)) 0 rfl rfl 0 (by decide) (hts _ tw_922) (fun _ h9 => h9) rfl dX8_addFlow_42 ?_
  refine va_getN (D := (dC, dI)) (ws := [(L 0 0, .inr (5, [.ref (L 1 0), .ref (L 20 0), .ref (L 21 0), .ref (L 22 0), .ref (L 23 0), va_rf tr, .int ((a 0 0) 0), .int ((a 0 0) 1), .int ((a 0 0) 2), .int ((a 0 0) 3), .int ((a 0 0) 4), .int ((a 0 0) 5)]))]) (ci := 5) (v := .int ((a 0 0) 0)) (C := RX5) (T := TX5) (N := 12) hx hb hts tl_X5 hown hK (hP.one (Or.inl (tw_mem (f := 0) (i := 0) (by decide) rfl))) 0 rfl rfl 6 (by decide) (va_Nw.use rfl (te_f66 hE)) (fun _ h9 => h9) rfl dX8_addFlow_45 ?_
  refine lv_sipush (v := 500) hx hb dX8_addFlow_48 (by decide) ?_
  refine lv_iadd hx hb dX8_addFlow_51 ?_
  have hFc := m_free (C := (fun q e => TW cy L tr a κ τ q e ∨ oW ob (L 0 0) tp q e)) hP hS hA (fun _ _ h => h)
  refine va_calli (va_runS (As := [.int st, .int ((a 0 0) 0), .int (((a 0 0) 0) + 500)]) (rest := []) ⟨hx, hb, hml, hown, hts⟩ (c_isWithin l dC dI cy ((fun q e => TW cy L tr a κ τ q e ∨ oW ob (L 0 0) tp q e)) st ((a 0 0) 0) (((a 0 0) 0) + 500) H.size) (tp_cwS 3 hts tw_42 tw_43 tw_20 tw_44 rfl rfl (by decide +kernel) ⟨Nat.le_of_ble_eq_true rfl, Nat.le_of_ble_eq_true rfl⟩) ⟨m_blind, fun U hU hW => ⟨rfl, m_pay hK hP hE (fun _ _ h => h) U hU hW⟩⟩ rfl rfl hl.1 rfl (lv_room (Nat.le_of_ble_eq_true rfl)) dX8_addFlow_52 ⟨(Nat.le_of_ble_eq_true rfl), (Nat.le_of_ble_eq_true rfl)⟩) hS (fun q _ h => hFc q h) hFc (fun r_6 u t H1 locs ht hvm hpo hB hz1 hk1 hS => ?_)
  obtain rfl := hpo
  obtain ⟨f_2, hP1⟩ := hB
  subst f_2
  rw [ht] at hP1
  have hP : mw (dC, dI) vwCl A (fun q e => TW cy L tr a κ τ q e ∨ oW ob (L 0 0) tp q e) H1 := hP.join (fun _ _ h => h) hk1 hFc hP1 (fun _ _ h => Or.inl h)
  generalize H1 = H at hP hS ⊢
  clear hP1 hk1 hFc
  have hFc := m_free (C := (fun q e => TW cy L tr a κ τ q e ∨ oW ob (L 0 0) tp q e)) hP hS hA (fun _ _ h => h)
  refine va_callv (va_runS (As := [.int (W_in st ((a 0 0) 0) (((a 0 0) 0) + 500))]) (rest := []) ⟨hx, hb, hml, hown, hts⟩ (c_checkArgument l dC dI cy ((fun q e => TW cy L tr a κ τ q e ∨ oW ob (L 0 0) tp q e)) (W_in st ((a 0 0) 0) (((a 0 0) 0) + 500)) H.size (by rw [W_in_1 hst0 hst1]; decide)) (tp_cwS 1 hts tw_45 tw_46 tw_20 tw_47 rfl rfl (by decide +kernel) ⟨Nat.le_of_ble_eq_true rfl, Nat.le_of_ble_eq_true rfl⟩) ⟨m_blind, fun U hU hW => ⟨rfl, m_pay hK hP hE (fun _ _ h => h) U hU hW⟩⟩ rfl rfl hl.1 rfl (lv_room (Nat.le_of_ble_eq_true rfl)) dX8_addFlow_55 ⟨(Nat.le_of_ble_eq_true rfl), (Nat.le_of_ble_eq_true rfl)⟩) hS (fun q _ h => hFc q h) hFc (fun u t H1 locs ht hvm hpo hB hz1 hk1 hS => ?_)
  have hP1 := hB
  rw [ht] at hP1
  have hP : mw (dC, dI) vwCl A (fun q e => TW cy L tr a κ τ q e ∨ oW ob (L 0 0) tp q e) H1 := hP.join (fun _ _ h => h) hk1 hFc hP1 (fun _ _ h => Or.inl h)
  generalize H1 = H at hP hS ⊢
  clear hP1 hk1 hFc
  refine lv_iload hx hb dX8_addFlow_58 (lv_at hl 5 rfl) ?_
  refine lv_iconst (v := 1) hx hb dX8_addFlow_60 (by decide) ?_
  refine lv_bipush (v := 30) hx hb dX8_addFlow_61 (by decide) ?_
  have hFc := m_free (C := (fun q e => TW cy L tr a κ τ q e ∨ oW ob (L 0 0) tp q e)) hP hS hA (fun _ _ h => h)
  refine va_calli (va_runS (As := [.int pe, .int 1, .int 30]) (rest := []) ⟨hx, hb, hml, hown, hts⟩ (c_isWithin l dC dI cy ((fun q e => TW cy L tr a κ τ q e ∨ oW ob (L 0 0) tp q e)) pe 1 30 H.size) (tp_cwS 3 hts tw_42 tw_43 tw_20 tw_44 rfl rfl (by decide +kernel) ⟨Nat.le_of_ble_eq_true rfl, Nat.le_of_ble_eq_true rfl⟩) ⟨m_blind, fun U hU hW => ⟨rfl, m_pay hK hP hE (fun _ _ h => h) U hU hW⟩⟩ rfl rfl hl.1 rfl (lv_room (Nat.le_of_ble_eq_true rfl)) dX8_addFlow_63 ⟨(Nat.le_of_ble_eq_true rfl), (Nat.le_of_ble_eq_true rfl)⟩) hS (fun q _ h => hFc q h) hFc (fun r_8 u t H1 locs ht hvm hpo hB hz1 hk1 hS => ?_)
  obtain rfl := hpo
  obtain ⟨f_3, hP1⟩ := hB
  subst f_3
  rw [ht] at hP1
  have hP : mw (dC, dI) vwCl A (fun q e => TW cy L tr a κ τ q e ∨ oW ob (L 0 0) tp q e) H1 := hP.join (fun _ _ h => h) hk1 hFc hP1 (fun _ _ h => Or.inl h)
  generalize H1 = H at hP hS ⊢
  clear hP1 hk1 hFc
  have hFc := m_free (C := (fun q e => TW cy L tr a κ τ q e ∨ oW ob (L 0 0) tp q e)) hP hS hA (fun _ _ h => h)
  refine va_callv (va_runS (As := [.int (W_in pe 1 30)]) (rest := []) ⟨hx, hb, hml, hown, hts⟩ (c_checkArgument l dC dI cy ((fun q e => TW cy L tr a κ τ q e ∨ oW ob (L 0 0) tp q e)) (W_in pe 1 30) H.size (by rw [W_in_1 hpe0 hpe1]; decide)) (tp_cwS 1 hts tw_45 tw_46 tw_20 tw_47 rfl rfl (by decide +kernel) ⟨Nat.le_of_ble_eq_true rfl, Nat.le_of_ble_eq_true rfl⟩) ⟨m_blind, fun U hU hW => ⟨rfl, m_pay hK hP hE (fun _ _ h => h) U hU hW⟩⟩ rfl rfl hl.1 rfl (lv_room (Nat.le_of_ble_eq_true rfl)) dX8_addFlow_66 ⟨(Nat.le_of_ble_eq_true rfl), (Nat.le_of_ble_eq_true rfl)⟩) hS (fun q _ h => hFc q h) hFc (fun u t H1 locs ht hvm hpo hB hz1 hk1 hS => ?_)
  have hP1 := hB
  rw [ht] at hP1
  have hP : mw (dC, dI) vwCl A (fun q e => TW cy L tr a κ τ q e ∨ oW ob (L 0 0) tp q e) H1 := hP.join (fun _ _ h => h) hk1 hFc hP1 (fun _ _ h => Or.inl h)
  generalize H1 = H at hP hS ⊢
  clear hP1 hk1 hFc
  refine lv_iload hx hb dX8_addFlow_69 (lv_at hl 6 rfl) ?_
  refine lv_iconst (v := 1) hx hb dX8_addFlow_71 (by decide) ?_
  refine lv_bipush (v := 40) hx hb dX8_addFlow_72 (by decide) ?_
  have hFc := m_free (C := (fun q e => TW cy L tr a κ τ q e ∨ oW ob (L 0 0) tp q e)) hP hS hA (fun _ _ h => h)
  refine va_calli (va_runS (As := [.int mo, .int 1, .int 40]) (rest := []) ⟨hx, hb, hml, hown, hts⟩ (c_isWithin l dC dI cy ((fun q e => TW cy L tr a κ τ q e ∨ oW ob (L 0 0) tp q e)) mo 1 40 H.size) (tp_cwS 3 hts tw_42 tw_43 tw_20 tw_44 rfl rfl (by decide +kernel) ⟨Nat.le_of_ble_eq_true rfl, Nat.le_of_ble_eq_true rfl⟩) ⟨m_blind, fun U hU hW => ⟨rfl, m_pay hK hP hE (fun _ _ h => h) U hU hW⟩⟩ rfl rfl hl.1 rfl (lv_room (Nat.le_of_ble_eq_true rfl)) dX8_addFlow_74 ⟨(Nat.le_of_ble_eq_true rfl), (Nat.le_of_ble_eq_true rfl)⟩) hS (fun q _ h => hFc q h) hFc (fun r_10 u t H1 locs ht hvm hpo hB hz1 hk1 hS => ?_)
  obtain rfl := hpo
  obtain ⟨f_4, hP1⟩ := hB
  subst f_4
  rw [ht] at hP1
  have hP : mw (dC, dI) vwCl A (fun q e => TW cy L tr a κ τ q e ∨ oW ob (L 0 0) tp q e) H1 := hP.join (fun _ _ h => h) hk1 hFc hP1 (fun _ _ h => Or.inl h)
  generalize H1 = H at hP hS ⊢
  clear hP1 hk1 hFc
  have hFc := m_free (C := (fun q e => TW cy L tr a κ τ q e ∨ oW ob (L 0 0) tp q e)) hP hS hA (fun _ _ h => h)
  refine va_callv (va_runS (As := [.int (W_in mo 1 40)]) (rest := []) ⟨hx, hb, hml, hown, hts⟩ (c_checkArgument l dC dI cy ((fun q e => TW cy L tr a κ τ q e ∨ oW ob (L 0 0) tp q e)) (W_in mo 1 40) H.size (by rw [W_in_1 hmo0 hmo1]; decide)) (tp_cwS 1 hts tw_45 tw_46 tw_20 tw_47 rfl rfl (by decide +kernel) ⟨Nat.le_of_ble_eq_true rfl, Nat.le_of_ble_eq_true rfl⟩) ⟨m_blind, fun U hU hW => ⟨rfl, m_pay hK hP hE (fun _ _ h => h) U hU hW⟩⟩ rfl rfl hl.1 rfl (lv_room (Nat.le_of_ble_eq_true rfl)) dX8_addFlow_77 ⟨(Nat.le_of_ble_eq_true rfl), (Nat.le_of_ble_eq_true rfl)⟩) hS (fun q _ h => hFc q h) hFc (fun u t H1 locs ht hvm hpo hB hz1 hk1 hS => ?_)
  have hP1 := hB
  rw [ht] at hP1
  have hP : mw (dC, dI) vwCl A (fun q e => TW cy L tr a κ τ q e ∨ oW ob (L 0 0) tp q e) H1 := hP.join (fun _ _ h => h) hk1 hFc hP1 (fun _ _ h => Or.inl h)
  generalize H1 = H at hP hS ⊢
  clear hP1 hk1 hFc
  refine lv_aload_n hx hb dX8_addFlow_80 rfl (lv_at hl 0 rfl) ?_
  refine va_get (D := (dC, dI)) (ws := [(ob, .inr (8, [.ref (L 0 0), .ref tp]))]) (ci := 8) (v := .ref (L 0 0)) (C := RX8) (T := TX8) (N := 2) hx hb hts tl_X8 hown hK (hP.one (Or.inr oW_mem)) 0 rfl rfl 0 (by decide) (hts _ tw_922) (fun _ h9 => h9) rfl dX8_addFlow_81 ?_
  refine va_getN (D := (dC, dI)) (ws := [(L 0 0, .inr (5, [.ref (L 1 0), .ref (L 20 0), .ref (L 21 0), .ref (L 22 0), .ref (L 23 0), va_rf tr, .int ((a 0 0) 0), .int ((a 0 0) 1), .int ((a 0 0) 2), .int ((a 0 0) 3), .int ((a 0 0) 4), .int ((a 0 0) 5)]))]) (ci := 5) (v := .int ((a 0 0) 3)) (C := RX5) (T := TX5) (N := 12) hx hb hts tl_X5 hown hK (hP.one (Or.inl (tw_mem (f := 0) (i := 0) (by decide) rfl))) 0 rfl rfl 9 (by decide) (va_Nw.use rfl (te_f69 hE)) (fun _ h9 => h9) rfl dX8_addFlow_84 ?_
  refine lv_bipush (v := 10) hx hb dX8_addFlow_87 (by decide) ?_
  refine lv_icmp_lt (tgt := 102) hx hb dX8_addFlow_89 (by decide) (fun _ => ?_) (fun c_2 => absurd (Int32.lt_iff_toInt_lt.mpr h10) c_2)
  refine lv_aload_n hx hb dX8_addFlow_102 rfl (lv_at hl 0 rfl) ?_
  refine va_get (D := (dC, dI)) (ws := [(ob, .inr (8, [.ref (L 0 0), .ref tp]))]) (ci := 8) (v := .ref (L 0 0)) (C := RX8) (T := TX8) (N := 2) hx hb hts tl_X8 hown hK (hP.one (Or.inr oW_mem)) 0 rfl rfl 0 (by decide) (hts _ tw_922) (fun _ h9 => h9) rfl dX8_addFlow_103 ?_
  refine va_getN (D := (dC, dI)) (ws := [(L 0 0, .inr (5, [.ref (L 1 0), .ref (L 20 0), .ref (L 21 0), .ref (L 22 0), .ref (L 23 0), va_rf tr, .int ((a 0 0) 0), .int ((a 0 0) 1), .int ((a 0 0) 2), .int ((a 0 0) 3), .int ((a 0 0) 4), .int ((a 0 0) 5)]))]) (ci := 5) (v := .ref (L 22 0)) (C := RX5) (T := TX5) (N := 12) hx hb hts tl_X5 hown hK (hP.one (Or.inl (tw_mem (f := 0) (i := 0) (by decide) rfl))) 0 rfl rfl 3 (by decide) (va_Nw.use rfl (te_f63 hE)) (fun _ h9 => h9) rfl dX8_addFlow_106 ?_
  refine lv_aload_n hx hb dX8_addFlow_109 rfl (lv_at hl 0 rfl) ?_
  refine va_get (D := (dC, dI)) (ws := [(ob, .inr (8, [.ref (L 0 0), .ref tp]))]) (ci := 8) (v := .ref (L 0 0)) (C := RX8) (T := TX8) (N := 2) hx hb hts tl_X8 hown hK (hP.one (Or.inr oW_mem)) 0 rfl rfl 0 (by decide) (hts _ tw_922) (fun _ h9 => h9) rfl dX8_addFlow_110 ?_
  refine va_getN (D := (dC, dI)) (ws := [(L 0 0, .inr (5, [.ref (L 1 0), .ref (L 20 0), .ref (L 21 0), .ref (L 22 0), .ref (L 23 0), va_rf tr, .int ((a 0 0) 0), .int ((a 0 0) 1), .int ((a 0 0) 2), .int ((a 0 0) 3), .int ((a 0 0) 4), .int ((a 0 0) 5)]))]) (ci := 5) (v := .int ((a 0 0) 3)) (C := RX5) (T := TX5) (N := 12) hx hb hts tl_X5 hown hK (hP.one (Or.inl (tw_mem (f := 0) (i := 0) (by decide) rfl))) 0 rfl rfl 9 (by decide) (va_Nw.use rfl (te_f69 hE)) (fun _ h9 => h9) rfl dX8_addFlow_113 ?_
  have j_1 : ((a 0 0) 3 : Int32).toNatClampNeg = (a 0 0 3).toNatClampNeg := m_cl (m_n0 hw.1.2.2.1.1) (m_ltI hw.1.2.2.1.1 h10) (by decide)
  refine va_aldq hx hb hK (ws := [(L 22 0, .inl (cy 6, 10, .inr (.inr (.inr (.inr (fun j => some (L 14 j)))))))]) (hP.one (Or.inl (tw_mem (f := 22) (i := 0) (by decide) rfl))) 0 6 rfl rfl (m_in (m_n0 hw.1.2.2.1.1) (m_ltI hw.1.2.2.1.1 h10) (by decide)) dX8_addFlow_116 ?_
  refine W.eq (g2 := F0 m 117 ls [.ref (L 14 ((a 0 0 3).toNatClampNeg))]) (by first | (rw [j_1]; done) | (rw [j_1]; rfl)) ?_
  refine lv_iload_n hx hb dX8_addFlow_117 rfl (lv_at hl 1 rfl) ?_
  refine lv_iload_n hx hb dX8_addFlow_118 rfl (lv_at hl 2 rfl) ?_
  refine lv_iload_n hx hb dX8_addFlow_119 rfl (lv_at hl 3 rfl) ?_
  refine lv_iload hx hb dX8_addFlow_120 (lv_at hl 4 rfl) ?_
  refine lv_iload hx hb dX8_addFlow_122 (lv_at hl 5 rfl) ?_
  refine lv_iload hx hb dX8_addFlow_124 (lv_at hl 6 rfl) ?_
  have hFc := m_free (C := (TW cy L tr a κ τ)) hP hS hA (fun _ _ h => (Or.inl h))
  refine va_callv (va_runV (As := [.int fr, .int to, .int kd, .int st, .int pe, .int mo]) (rest := []) ⟨hx, hb, hml, hown, hts⟩ (c_Flow_tell l dC dI cy L tr a κ τ ((a 0 0 3).toNatClampNeg) fr to kd st pe mo H.size hT (m_ltI hw.1.2.2.1.1 h10)) (tp_cwV 6 hts tw_1076 tw_484 tw_485 tw_28 tw_486 rfl rfl (by decide +kernel) ⟨Nat.le_of_ble_eq_true rfl, Nat.le_of_ble_eq_true rfl⟩) ⟨m_blind, va_recv hK (hP.one (e := .inr (0, [.int ((a 14 ((a 0 0 3).toNatClampNeg)) 0), .int ((a 14 ((a 0 0 3).toNatClampNeg)) 1), .int ((a 14 ((a 0 0 3).toNatClampNeg)) 2), .int ((a 14 ((a 0 0 3).toNatClampNeg)) 3), .int ((a 14 ((a 0 0 3).toNatClampNeg)) 4), .int ((a 14 ((a 0 0 3).toNatClampNeg)) 5), .int ((a 14 ((a 0 0 3).toNatClampNeg)) 6), .int ((a 14 ((a 0 0 3).toNatClampNeg)) 7), .int ((a 14 ((a 0 0 3).toNatClampNeg)) 8), .int ((a 14 ((a 0 0 3).toNatClampNeg)) 9), .int ((a 14 ((a 0 0 3).toNatClampNeg)) 10), .int ((a 14 ((a 0 0 3).toNatClampNeg)) 11)])) (Or.inl (tw_mem (f := 14) (i := (a 0 0 3).toNatClampNeg) (m_ltI hw.1.2.2.1.1 h10) rfl))) (ci := 0) (q0 := 0) rfl rfl, fun U hU hW => ⟨rfl, m_pay hK hP hE (fun _ _ h => (Or.inl h)) U hU hW⟩⟩ rfl rfl hl.1 rfl (lv_room (Nat.le_of_ble_eq_true rfl)) dX8_addFlow_126 ⟨(Nat.le_of_ble_eq_true rfl), (Nat.le_of_ble_eq_true rfl)⟩) hS (fun q _ h => hFc q h) hFc (fun u t H1 locs ht hvm hpo hB hz1 hk1 hS => ?_)
  have hP1 := hB
  rw [ht] at hP1
  have hP : mw (dC, dI) vwCl A (fun q e => TW cy L tr (F_tell a ((a 0 0 3).toNatClampNeg) fr to kd st pe mo) κ τ q e ∨ oW ob (L 0 0) tp q e) H1 := hP.join (fun _ _ h => (Or.inl h)) hk1 hFc hP1 (fun q e h => (h.elim (fun h => Or.inl h) (fun h => Or.inr ⟨(Or.inr h), fun y hy => ow_dis hP (fun _ _ h => (Or.inl h)) (fun _ _ h => (Or.inr h)) h hy⟩)))
  generalize H1 = H at hP hS ⊢
  clear hP1 hk1 hFc
  refine lv_aload_n hx hb dX8_addFlow_129 rfl (lv_at hl 0 rfl) ?_
  refine va_get (D := (dC, dI)) (ws := [(ob, .inr (8, [.ref (L 0 0), .ref tp]))]) (ci := 8) (v := .ref (L 0 0)) (C := RX8) (T := TX8) (N := 2) hx hb hts tl_X8 hown hK (hP.one (Or.inr oW_mem)) 0 rfl rfl 0 (by decide) (hts _ tw_922) (fun _ h9 => h9) rfl dX8_addFlow_130 ?_
  refine lv_dup hx hb dX8_addFlow_133 rfl ?_
  refine va_getN (D := (dC, dI)) (ws := [(L 0 0, .inr (5, [.ref (L 1 0), .ref (L 20 0), .ref (L 21 0), .ref (L 22 0), .ref (L 23 0), va_rf tr, .int (((F_tell a ((a 0 0 3).toNatClampNeg) fr to kd st pe mo) 0 0) 0), .int (((F_tell a ((a 0 0 3).toNatClampNeg) fr to kd st pe mo) 0 0) 1), .int (((F_tell a ((a 0 0 3).toNatClampNeg) fr to kd st pe mo) 0 0) 2), .int (((F_tell a ((a 0 0 3).toNatClampNeg) fr to kd st pe mo) 0 0) 3), .int (((F_tell a ((a 0 0 3).toNatClampNeg) fr to kd st pe mo) 0 0) 4), .int (((F_tell a ((a 0 0 3).toNatClampNeg) fr to kd st pe mo) 0 0) 5)]))]) (ci := 5) (v := .int (((F_tell a ((a 0 0 3).toNatClampNeg) fr to kd st pe mo) 0 0) 3)) (C := RX5) (T := TX5) (N := 12) hx hb hts tl_X5 hown hK (hP.one (Or.inl (tw_mem (f := 0) (i := 0) (by decide) rfl))) 0 rfl rfl 9 (by decide) (va_Nw.use rfl (te_f69 hE)) (fun _ h9 => h9) rfl dX8_addFlow_134 ?_
  refine lv_dup_x1 hx hb dX8_addFlow_137 rfl rfl ?_
  refine lv_iconst (v := 1) hx hb dX8_addFlow_138 (by decide) ?_
  refine lv_iadd hx hb dX8_addFlow_139 ?_
  obtain ⟨ws9, k9, hPw, hDw, hk9, -, hbk⟩ := hP.cut (e := .inr (5, [.ref (L 1 0), .ref (L 20 0), .ref (L 21 0), .ref (L 22 0), .ref (L 23 0), va_rf tr, .int (((F_tell a ((a 0 0 3).toNatClampNeg) fr to kd st pe mo) 0 0) 0), .int (((F_tell a ((a 0 0 3).toNatClampNeg) fr to kd st pe mo) 0 0) 1), .int (((F_tell a ((a 0 0 3).toNatClampNeg) fr to kd st pe mo) 0 0) 2), .int (((F_tell a ((a 0 0 3).toNatClampNeg) fr to kd st pe mo) 0 0) 3), .int (((F_tell a ((a 0 0 3).toNatClampNeg) fr to kd st pe mo) 0 0) 4), .int (((F_tell a ((a 0 0 3).toNatClampNeg) fr to kd st pe mo) 0 0) 5)])) (Or.inl (tw_mem (f := 0) (i := 0) (by decide) rfl))
  refine va_putN (D := (dC, dI)) (ci := 5) (v := .int ((((F_tell a ((a 0 0 3).toNatClampNeg) fr to kd st pe mo) 0 0) 3) + 1)) (ty := .int) (C := RX5) (T := TX5) (N := 12) hx hb hts tl_X5 tyX5 tyX5_ok nmX5 hown hK hPw hDw hS k9 hk9 rfl 9 (by decide) (va_Nw.use rfl (te_f69 hE)) (fun _ h9 => h9) rfl (by decide +kernel) rfl rfl (Nat.le_of_ble_eq_true rfl) dX8_addFlow_140 (fun H locs hPw hDw hS => ?_)
  have hP : mw (dC, dI) vwCl A (fun q e => TW cy L tr (S2 (F_tell a ((a 0 0 3).toNatClampNeg) fr to kd st pe mo) 0 0 (upd ((F_tell a ((a 0 0 3).toNatClampNeg) fr to kd st pe mo) 0 0) 3 ((((F_tell a ((a 0 0 3).toNatClampNeg) fr to kd st pe mo) 0 0) 3) + 1))) κ τ q e ∨ oW ob (L 0 0) tp q e) H := (hbk _ _ hPw hDw).sub (mset_l (tw_set (b := S2 (F_tell a ((a 0 0 3).toNatClampNeg) fr to kd st pe mo) 0 0 (upd ((F_tell a ((a 0 0 3).toNatClampNeg) fr to kd st pe mo) 0 0) 3 ((((F_tell a ((a 0 0 3).toNatClampNeg) fr to kd st pe mo) 0 0) 3) + 1))) (f := 0) (i := 0) (x := upd ((F_tell a ((a 0 0 3).toNatClampNeg) fr to kd st pe mo) 0 0) 3 ((((F_tell a ((a 0 0 3).toNatClampNeg) fr to kd st pe mo) 0 0) 3) + 1)) hT (by decide) (by decide) rfl) (fun q e h => ow_off hP (fun _ _ h => Or.inl h) (fun _ _ h => Or.inr h) (by decide) h))
  clear hbk hPw hDw hk9
  refine W.widen (k := 0) (n := 0) (Nat.le_of_ble_eq_true rfl) (Nat.le_of_ble_eq_true rfl) ?_
  have s_1 : S2 (F_tell a ((a 0 0 3).toNatClampNeg) fr to kd st pe mo) 0 0 (upd ((F_tell a ((a 0 0 3).toNatClampNeg) fr to kd st pe mo) 0 0) 3 ((((F_tell a ((a 0 0 3).toNatClampNeg) fr to kd st pe mo) 0 0) 3) + 1)) = U_flow a fr to kd st pe mo := by
    rfl
  rw [s_1] at hP
  have g_1 : (((F_tell a ((a 0 0 3).toNatClampNeg) fr to kd st pe mo) 0 0) 3) = a 0 0 3 := by
    rfl
  exact W.iret (v := ((F_tell a ((a 0 0 3).toNatClampNeg) fr to kd st pe mo) 0 0) 3) hx hb hr (fun t ht hW => ⟨⟨(((F_tell a ((a 0 0 3).toNatClampNeg) fr to kd st pe mo) 0 0) 3), (((F_tell a ((a 0 0 3).toNatClampNeg) fr to kd st pe mo) 0 0) 3), rfl, rfl, ⟨g_1, by show mw _ _ _ _ t.heap; rw [ht]; exact hP⟩⟩, hS.F ht⟩) hS.2.2 dX8_addFlow_143

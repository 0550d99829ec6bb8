theorem tw_179 : Cond.fieldLink RX2 23 "Turnpike$Roads" "links" "I" ∈ tp_all := tp_mem 179 (by decide +kernel) rfl
theorem tw_377 : Cond.fieldLink RX5 59 "Turnpike$Traffic" "vehicles" "I" ∈ tp_all := tp_mem 377 (by decide +kernel) rfl
theorem tw_607 : Cond.classLink RX8 216 "java/lang/IllegalArgumentException" ∈ tp_all := tp_mem 607 (by decide +kernel) rfl
theorem tw_55 : Cond.initialized "java/lang/IllegalArgumentException" ∈ tp_all := tp_mem 55 (by decide +kernel) rfl
theorem tw_712 : Cond.code yX8_isWithin cX8_isWithin 3 (some .boolean) ∈ tp_all := tp_mem 712 (by decide +kernel) rfl
theorem tw_710 : Cond.methodLink RX8 39 yX8_isWithin ∈ tp_all := tp_mem 710 (by decide +kernel) rfl
theorem tw_711 : Cond.static yX8_isWithin ∈ tp_all := tp_mem 711 (by decide +kernel) rfl
theorem tw_38 : Cond.initialized RX8 ∈ tp_all := tp_mem 38 (by decide +kernel) rfl
theorem tw_708 : Cond.code yX8_checkArgument cX8_checkArgument 1 none ∈ tp_all := tp_mem 708 (by decide +kernel) rfl
theorem tw_706 : Cond.methodLink RX8 36 yX8_checkArgument ∈ tp_all := tp_mem 706 (by decide +kernel) rfl
theorem tw_707 : Cond.static yX8_checkArgument ∈ tp_all := tp_mem 707 (by decide +kernel) rfl
theorem tw_460 : Cond.classLink RX8 168 "java/lang/IndexOutOfBoundsException" ∈ tp_all := tp_mem 460 (by decide +kernel) rfl
theorem tw_54 : Cond.initialized "java/lang/IndexOutOfBoundsException" ∈ tp_all := tp_mem 54 (by decide +kernel) rfl
theorem tw_571 : Cond.code yX2_find cX2_find 2 (some (.object "Turnpike$Link")) ∈ tp_all := tp_mem 571 (by decide +kernel) rfl
theorem tw_568 : Cond.methodLink RX8 351 yX2_find ∈ tp_all := tp_mem 568 (by decide +kernel) rfl
theorem tw_569 : Cond.instanceMethod yX2_find ∈ tp_all := tp_mem 569 (by decide +kernel) rfl
theorem tw_570 : Cond.selects RX2 yX2_find yX2_find ∈ tp_all := tp_mem 570 (by decide +kernel) rfl
theorem tw_651 : Cond.code yX5_find cX5_find 2 (some (.object "Turnpike$Vehicle")) ∈ tp_all := tp_mem 651 (by decide +kernel) rfl
theorem tw_648 : Cond.methodLink RX8 356 yX5_find ∈ tp_all := tp_mem 648 (by decide +kernel) rfl
theorem tw_649 : Cond.instanceMethod yX5_find ∈ tp_all := tp_mem 649 (by decide +kernel) rfl
theorem tw_650 : Cond.selects RX5 yX5_find yX5_find ∈ tp_all := tp_mem 650 (by decide +kernel) rfl
theorem tw_459 : Cond.code yX8_checkNode cX8_checkNode 2 none ∈ tp_all := tp_mem 459 (by decide +kernel) rfl
theorem tw_456 : Cond.methodLink RX8 32 yX8_checkNode ∈ tp_all := tp_mem 456 (by decide +kernel) rfl
theorem tw_458 : Cond.instanceMethod yX8_checkNode ∈ tp_all := tp_mem 458 (by decide +kernel) rfl
theorem tw_1 : Cond.selects RX8 yX8_checkNode yX8_checkNode ∈ tp_all := tp_mem 1 (by decide +kernel) rfl
theorem tw_567 : Cond.code yX8_linkNumbered cX8_linkNumbered 3 (some (.object "Turnpike$Link")) ∈ tp_all := tp_mem 567 (by decide +kernel) rfl
theorem tw_564 : Cond.methodLink RX8 83 yX8_linkNumbered ∈ tp_all := tp_mem 564 (by decide +kernel) rfl
theorem tw_566 : Cond.instanceMethod yX8_linkNumbered ∈ tp_all := tp_mem 566 (by decide +kernel) rfl
theorem tw_4 : Cond.selects RX8 yX8_linkNumbered yX8_linkNumbered ∈ tp_all := tp_mem 4 (by decide +kernel) rfl
theorem tw_647 : Cond.code yX8_vehicleNumbered cX8_vehicleNumbered 3 (some (.object "Turnpike$Vehicle")) ∈ tp_all := tp_mem 647 (by decide +kernel) rfl
theorem tw_644 : Cond.methodLink RX8 146 yX8_vehicleNumbered ∈ tp_all := tp_mem 644 (by decide +kernel) rfl
theorem tw_646 : Cond.instanceMethod yX8_vehicleNumbered ∈ tp_all := tp_mem 646 (by decide +kernel) rfl
theorem tw_7 : Cond.selects RX8 yX8_vehicleNumbered yX8_vehicleNumbered ∈ tp_all := tp_mem 7 (by decide +kernel) rfl
theorem te_f68 {U : State} (h : tp_E U) : va_Nw (.fieldLinkNest "Turnpike" 21 "Turnpike$Traffic" "nodes" "I" "Turnpike") U := h.1 _ (List.mem_of_getElem? (i := 68) rfl)
theorem te_f60 {U : State} (h : tp_E U) : va_Nw (.fieldLinkNest "Turnpike" 43 "Turnpike$Traffic" "roads" "LTurnpike$Roads;" "Turnpike") U := h.1 _ (List.mem_of_getElem? (i := 60) rfl)
theorem te_f69 {U : State} (h : tp_E U) : va_Nw (.fieldLinkNest "Turnpike" 105 "Turnpike$Traffic" "flows" "I" "Turnpike") U := h.1 _ (List.mem_of_getElem? (i := 69) rfl)
theorem dX2_find_0 : decode cX2_find 0 = .ok (.iload_n 1, 1) := by decide +kernel
theorem dX2_find_1 : decode cX2_find 1 = .ok (.ifCond .lt 20, 3) := by decide +kernel
theorem dX2_find_21 : decode cX2_find 21 = .ok (.aconst_null, 1) := by decide +kernel
theorem dX2_find_22 : decode cX2_find 22 = .ok (.areturn, 1) := by decide +kernel
theorem dX2_find_4 : decode cX2_find 4 = .ok (.iload_n 1, 1) := by decide +kernel
theorem dX2_find_5 : decode cX2_find 5 = .ok (.aload_n 0, 1) := by decide +kernel
theorem dX2_find_6 : decode cX2_find 6 = .ok (.getfield 23, 3) := by decide +kernel
theorem dX2_find_9 : decode cX2_find 9 = .ok (.if_icmp .ge 12, 3) := by decide +kernel
theorem dX5_find_0 : decode cX5_find 0 = .ok (.iload_n 1, 1) := by decide +kernel
theorem dX5_find_1 : decode cX5_find 1 = .ok (.ifCond .lt 20, 3) := by decide +kernel
theorem dX5_find_21 : decode cX5_find 21 = .ok (.aconst_null, 1) := by decide +kernel
theorem dX5_find_22 : decode cX5_find 22 = .ok (.areturn, 1) := by decide +kernel
theorem dX5_find_4 : decode cX5_find 4 = .ok (.iload_n 1, 1) := by decide +kernel
theorem dX5_find_5 : decode cX5_find 5 = .ok (.aload_n 0, 1) := by decide +kernel
theorem dX5_find_6 : decode cX5_find 6 = .ok (.getfield 59, 3) := by decide +kernel
theorem dX5_find_9 : decode cX5_find 9 = .ok (.if_icmp .ge 12, 3) := by decide +kernel
theorem dX8_isWithin_0 : decode cX8_isWithin 0 = .ok (.iload_n 0, 1) := by decide +kernel
theorem dX8_isWithin_1 : decode cX8_isWithin 1 = .ok (.iload_n 1, 1) := by decide +kernel
theorem dX8_isWithin_2 : decode cX8_isWithin 2 = .ok (.if_icmp .lt 12, 3) := by decide +kernel
theorem dX8_isWithin_5 : decode cX8_isWithin 5 = .ok (.iload_n 0, 1) := by decide +kernel
theorem dX8_isWithin_6 : decode cX8_isWithin 6 = .ok (.iload_n 2, 1) := by decide +kernel
theorem dX8_isWithin_7 : decode cX8_isWithin 7 = .ok (.if_icmp .gt 7, 3) := by decide +kernel
theorem dX8_isWithin_10 : decode cX8_isWithin 10 = .ok (.iconst 1, 1) := by decide +kernel
theorem dX8_isWithin_11 : decode cX8_isWithin 11 = .ok (.goto 4, 3) := by decide +kernel
theorem dX8_isWithin_15 : decode cX8_isWithin 15 = .ok (.ireturn, 1) := by decide +kernel
theorem dX8_isWithin_14 : decode cX8_isWithin 14 = .ok (.iconst 0, 1) := by decide +kernel
theorem dX8_checkArgument_0 : decode cX8_checkArgument 0 = .ok (.iload_n 0, 1) := by decide +kernel
theorem dX8_checkArgument_1 : decode cX8_checkArgument 1 = .ok (.ifCond .ne 14, 3) := by decide +kernel
theorem dX8_checkArgument_15 : decode cX8_checkArgument 15 = .ok (.return_, 1) := by decide +kernel
theorem dX8_checkArgument_4 : decode cX8_checkArgument 4 = .ok (.new 216, 3) := by decide +kernel
theorem dX8_checkArgument_7 : decode cX8_checkArgument 7 = .ok (.dup, 1) := by decide +kernel
theorem dX8_checkArgument_8 : decode cX8_checkArgument 8 = .ok (.ldc_w 347, 3) := by decide +kernel
theorem dX8_checkArgument_11 : decode cX8_checkArgument 11 = .ok (.invokespecial 220, 3) := by decide +kernel
theorem dX8_checkArgument_14 : decode cX8_checkArgument 14 = .ok (.athrow, 1) := by decide +kernel
theorem dX8_checkTicks_0 : decode cX8_checkTicks 0 = .ok (.iload_n 0, 1) := by decide +kernel
theorem dX8_checkTicks_1 : decode cX8_checkTicks 1 = .ok (.iconst 1, 1) := by decide +kernel
theorem dX8_checkTicks_2 : decode cX8_checkTicks 2 = .ok (.bipush 60, 2) := by decide +kernel
theorem dX8_checkTicks_4 : decode cX8_checkTicks 4 = .ok (.invokestatic 39, 3) := by decide +kernel
theorem dX8_checkTicks_7 : decode cX8_checkTicks 7 = .ok (.invokestatic 36, 3) := by decide +kernel
theorem dX8_checkTicks_10 : decode cX8_checkTicks 10 = .ok (.return_, 1) := by decide +kernel
theorem dX8_checkNode_0 : decode cX8_checkNode 0 = .ok (.iload_n 1, 1) := by decide +kernel
theorem dX8_checkNode_1 : decode cX8_checkNode 1 = .ok (.ifCond .lt 14, 3) := by decide +kernel
theorem dX8_checkNode_15 : decode cX8_checkNode 15 = .ok (.new 168, 3) := by decide +kernel
theorem dX8_checkNode_18 : decode cX8_checkNode 18 = .ok (.dup, 1) := by decide +kernel
theorem dX8_checkNode_19 : decode cX8_checkNode 19 = .ok (.ldc_w 349, 3) := by decide +kernel
theorem dX8_checkNode_22 : decode cX8_checkNode 22 = .ok (.invokespecial 172, 3) := by decide +kernel
theorem dX8_checkNode_25 : decode cX8_checkNode 25 = .ok (.athrow, 1) := by decide +kernel
theorem dX8_checkNode_4 : decode cX8_checkNode 4 = .ok (.iload_n 1, 1) := by decide +kernel
theorem dX8_checkNode_5 : decode cX8_checkNode 5 = .ok (.aload_n 0, 1) := by decide +kernel
theorem dX8_checkNode_6 : decode cX8_checkNode 6 = .ok (.getfield 12, 3) := by decide +kernel
theorem dX8_checkNode_9 : decode cX8_checkNode 9 = .ok (.getfield 21, 3) := by decide +kernel
theorem dX8_checkNode_12 : decode cX8_checkNode 12 = .ok (.if_icmp .lt 14, 3) := by decide +kernel
theorem dX8_linkNumbered_0 : decode cX8_linkNumbered 0 = .ok (.aload_n 0, 1) := by decide +kernel
theorem dX8_linkNumbered_1 : decode cX8_linkNumbered 1 = .ok (.getfield 12, 3) := by decide +kernel
theorem dX8_linkNumbered_4 : decode cX8_linkNumbered 4 = .ok (.getfield 43, 3) := by decide +kernel
theorem dX8_linkNumbered_7 : decode cX8_linkNumbered 7 = .ok (.iload_n 1, 1) := by decide +kernel
theorem dX8_linkNumbered_8 : decode cX8_linkNumbered 8 = .ok (.invokevirtual 351, 3) := by decide +kernel
theorem dX8_linkNumbered_11 : decode cX8_linkNumbered 11 = .ok (.astore_n 2, 1) := by decide +kernel
theorem dX8_linkNumbered_12 : decode cX8_linkNumbered 12 = .ok (.aload_n 2, 1) := by decide +kernel
theorem dX8_linkNumbered_13 : decode cX8_linkNumbered 13 = .ok (.ifnonnull 14, 3) := by decide +kernel
theorem dX8_linkNumbered_16 : decode cX8_linkNumbered 16 = .ok (.new 168, 3) := by decide +kernel
theorem dX8_linkNumbered_19 : decode cX8_linkNumbered 19 = .ok (.dup, 1) := by decide +kernel
theorem dX8_linkNumbered_20 : decode cX8_linkNumbered 20 = .ok (.ldc_w 354, 3) := by decide +kernel
theorem dX8_linkNumbered_23 : decode cX8_linkNumbered 23 = .ok (.invokespecial 172, 3) := by decide +kernel
theorem dX8_linkNumbered_26 : decode cX8_linkNumbered 26 = .ok (.athrow, 1) := by decide +kernel
theorem dX8_vehicleNumbered_0 : decode cX8_vehicleNumbered 0 = .ok (.aload_n 0, 1) := by decide +kernel
theorem dX8_vehicleNumbered_1 : decode cX8_vehicleNumbered 1 = .ok (.getfield 12, 3) := by decide +kernel
theorem dX8_vehicleNumbered_4 : decode cX8_vehicleNumbered 4 = .ok (.iload_n 1, 1) := by decide +kernel
theorem dX8_vehicleNumbered_5 : decode cX8_vehicleNumbered 5 = .ok (.invokevirtual 356, 3) := by decide +kernel
theorem dX8_vehicleNumbered_8 : decode cX8_vehicleNumbered 8 = .ok (.astore_n 2, 1) := by decide +kernel
theorem dX8_vehicleNumbered_9 : decode cX8_vehicleNumbered 9 = .ok (.aload_n 2, 1) := by decide +kernel
theorem dX8_vehicleNumbered_10 : decode cX8_vehicleNumbered 10 = .ok (.ifnonnull 14, 3) := by decide +kernel
theorem dX8_vehicleNumbered_13 : decode cX8_vehicleNumbered 13 = .ok (.new 168, 3) := by decide +kernel
theorem dX8_vehicleNumbered_16 : decode cX8_vehicleNumbered 16 = .ok (.dup, 1) := by decide +kernel
theorem dX8_vehicleNumbered_17 : decode cX8_vehicleNumbered 17 = .ok (.ldc_w 358, 3) := by decide +kernel
theorem dX8_vehicleNumbered_20 : decode cX8_vehicleNumbered 20 = .ok (.invokespecial 172, 3) := by decide +kernel
theorem dX8_vehicleNumbered_23 : decode cX8_vehicleNumbered 23 = .ok (.athrow, 1) := by decide +kernel
theorem dX8_addLink_0 : decode cX8_addLink 0 = .ok (.aload_n 0, 1) := by decide +kernel
theorem dX8_addLink_1 : decode cX8_addLink 1 = .ok (.iload_n 1, 1) := by decide +kernel
theorem dX8_addLink_2 : decode cX8_addLink 2 = .ok (.invokevirtual 32, 3) := by decide +kernel
theorem dX8_addPhase_0 : decode cX8_addPhase 0 = .ok (.aload_n 0, 1) := by decide +kernel
theorem dX8_addPhase_1 : decode cX8_addPhase 1 = .ok (.iload_n 1, 1) := by decide +kernel
theorem dX8_addPhase_2 : decode cX8_addPhase 2 = .ok (.invokevirtual 32, 3) := by decide +kernel
theorem dX8_dropSignal_0 : decode cX8_dropSignal 0 = .ok (.aload_n 0, 1) := by decide +kernel
theorem dX8_dropSignal_1 : decode cX8_dropSignal 1 = .ok (.iload_n 1, 1) := by decide +kernel
theorem dX8_dropSignal_2 : decode cX8_dropSignal 2 = .ok (.invokevirtual 32, 3) := by decide +kernel
theorem dX8_shut_0 : decode cX8_shut 0 = .ok (.aload_n 0, 1) := by decide +kernel
theorem dX8_shut_1 : decode cX8_shut 1 = .ok (.iload_n 1, 1) := by decide +kernel
theorem dX8_shut_2 : decode cX8_shut 2 = .ok (.invokevirtual 83, 3) := by decide +kernel
theorem dX8_slow_0 : decode cX8_slow 0 = .ok (.aload_n 0, 1) := by decide +kernel
theorem dX8_slow_1 : decode cX8_slow 1 = .ok (.iload_n 1, 1) := by decide +kernel
theorem dX8_slow_2 : decode cX8_slow 2 = .ok (.invokevirtual 83, 3) := by decide +kernel
theorem dX8_addFlow_0 : decode cX8_addFlow 0 = .ok (.aload_n 0, 1) := by decide +kernel
theorem dX8_addFlow_1 : decode cX8_addFlow 1 = .ok (.iload_n 1, 1) := by decide +kernel
theorem dX8_addFlow_2 : decode cX8_addFlow 2 = .ok (.invokevirtual 32, 3) := by decide +kernel
theorem dX8_isShut_0 : decode cX8_isShut 0 = .ok (.aload_n 0, 1) := by decide +kernel
theorem dX8_isShut_1 : decode cX8_isShut 1 = .ok (.iload_n 1, 1) := by decide +kernel
theorem dX8_isShut_2 : decode cX8_isShut 2 = .ok (.invokevirtual 83, 3) := by decide +kernel
theorem dX8_rateOf_0 : decode cX8_rateOf 0 = .ok (.aload_n 0, 1) := by decide +kernel
theorem dX8_rateOf_1 : decode cX8_rateOf 1 = .ok (.iload_n 1, 1) := by decide +kernel
theorem dX8_rateOf_2 : decode cX8_rateOf 2 = .ok (.invokevirtual 83, 3) := by decide +kernel
theorem dX8_costOf_0 : decode cX8_costOf 0 = .ok (.aload_n 0, 1) := by decide +kernel
theorem dX8_costOf_1 : decode cX8_costOf 1 = .ok (.iload_n 1, 1) := by decide +kernel
theorem dX8_costOf_2 : decode cX8_costOf 2 = .ok (.invokevirtual 83, 3) := by decide +kernel
theorem dX8_phaseOf_0 : decode cX8_phaseOf 0 = .ok (.aload_n 0, 1) := by decide +kernel
theorem dX8_phaseOf_1 : decode cX8_phaseOf 1 = .ok (.iload_n 1, 1) := by decide +kernel
theorem dX8_phaseOf_2 : decode cX8_phaseOf 2 = .ok (.invokevirtual 32, 3) := by decide +kernel
theorem dX8_phaseTicks_0 : decode cX8_phaseTicks 0 = .ok (.aload_n 0, 1) := by decide +kernel
theorem dX8_phaseTicks_1 : decode cX8_phaseTicks 1 = .ok (.iload_n 1, 1) := by decide +kernel
theorem dX8_phaseTicks_2 : decode cX8_phaseTicks 2 = .ok (.invokevirtual 32, 3) := by decide +kernel
theorem dX8_distance_0 : decode cX8_distance 0 = .ok (.aload_n 0, 1) := by decide +kernel
theorem dX8_distance_1 : decode cX8_distance 1 = .ok (.iload_n 1, 1) := by decide +kernel
theorem dX8_distance_2 : decode cX8_distance 2 = .ok (.invokevirtual 32, 3) := by decide +kernel
theorem dX8_nextLink_0 : decode cX8_nextLink 0 = .ok (.aload_n 0, 1) := by decide +kernel
theorem dX8_nextLink_1 : decode cX8_nextLink 1 = .ok (.iload_n 1, 1) := by decide +kernel
theorem dX8_nextLink_2 : decode cX8_nextLink 2 = .ok (.invokevirtual 32, 3) := by decide +kernel
theorem dX8_stateOf_0 : decode cX8_stateOf 0 = .ok (.aload_n 0, 1) := by decide +kernel
theorem dX8_stateOf_1 : decode cX8_stateOf 1 = .ok (.iload_n 1, 1) := by decide +kernel
theorem dX8_stateOf_2 : decode cX8_stateOf 2 = .ok (.invokevirtual 146, 3) := by decide +kernel
theorem dX8_linkOf_0 : decode cX8_linkOf 0 = .ok (.aload_n 0, 1) := by decide +kernel
theorem dX8_linkOf_1 : decode cX8_linkOf 1 = .ok (.iload_n 1, 1) := by decide +kernel
theorem dX8_linkOf_2 : decode cX8_linkOf 2 = .ok (.invokevirtual 146, 3) := by decide +kernel
theorem dX8_endOf_0 : decode cX8_endOf 0 = .ok (.aload_n 0, 1) := by decide +kernel
theorem dX8_endOf_1 : decode cX8_endOf 1 = .ok (.iload_n 1, 1) := by decide +kernel
theorem dX8_endOf_2 : decode cX8_endOf 2 = .ok (.invokevirtual 146, 3) := by decide +kernel
theorem dX8_linksOf_0 : decode cX8_linksOf 0 = .ok (.aload_n 0, 1) := by decide +kernel
theorem dX8_linksOf_1 : decode cX8_linksOf 1 = .ok (.iload_n 1, 1) := by decide +kernel
theorem dX8_linksOf_2 : decode cX8_linksOf 2 = .ok (.invokevirtual 146, 3) := by decide +kernel
theorem dX8_linkAt_0 : decode cX8_linkAt 0 = .ok (.aload_n 0, 1) := by decide +kernel
theorem dX8_linkAt_1 : decode cX8_linkAt 1 = .ok (.iload_n 1, 1) := by decide +kernel
theorem dX8_linkAt_2 : decode cX8_linkAt 2 = .ok (.invokevirtual 146, 3) := by decide +kernel
theorem dX8_tripOf_0 : decode cX8_tripOf 0 = .ok (.aload_n 0, 1) := by decide +kernel
theorem dX8_tripOf_1 : decode cX8_tripOf 1 = .ok (.iload_n 1, 1) := by decide +kernel
theorem dX8_tripOf_2 : decode cX8_tripOf 2 = .ok (.invokevirtual 146, 3) := by decide +kernel
theorem dX8_delayOf_0 : decode cX8_delayOf 0 = .ok (.aload_n 0, 1) := by decide +kernel
theorem dX8_delayOf_1 : decode cX8_delayOf 1 = .ok (.iload_n 1, 1) := by decide +kernel
theorem dX8_delayOf_2 : decode cX8_delayOf 2 = .ok (.invokevirtual 146, 3) := by decide +kernel
theorem dX8_waiting_0 : decode cX8_waiting 0 = .ok (.aload_n 0, 1) := by decide +kernel
theorem dX8_waiting_1 : decode cX8_waiting 1 = .ok (.iload_n 1, 1) := by decide +kernel
theorem dX8_waiting_2 : decode cX8_waiting 2 = .ok (.invokevirtual 32, 3) := by decide +kernel
theorem dX8_onLink_0 : decode cX8_onLink 0 = .ok (.aload_n 0, 1) := by decide +kernel
theorem dX8_onLink_1 : decode cX8_onLink 1 = .ok (.iload_n 1, 1) := by decide +kernel
theorem dX8_onLink_2 : decode cX8_onLink 2 = .ok (.invokevirtual 83, 3) := by decide +kernel
theorem dX8_vehicleAt_0 : decode cX8_vehicleAt 0 = .ok (.aload_n 0, 1) := by decide +kernel
theorem dX8_vehicleAt_1 : decode cX8_vehicleAt 1 = .ok (.iload_n 1, 1) := by decide +kernel
theorem dX8_vehicleAt_2 : decode cX8_vehicleAt 2 = .ok (.invokevirtual 83, 3) := by decide +kernel
theorem dX8_queue_0 : decode cX8_queue 0 = .ok (.aload_n 0, 1) := by decide +kernel
theorem dX8_queue_1 : decode cX8_queue 1 = .ok (.iload_n 1, 1) := by decide +kernel
theorem dX8_queue_2 : decode cX8_queue 2 = .ok (.invokevirtual 83, 3) := by decide +kernel
theorem dX8_count_0 : decode cX8_count 0 = .ok (.aload_n 0, 1) := by decide +kernel
theorem dX8_count_1 : decode cX8_count 1 = .ok (.iload_n 1, 1) := by decide +kernel
theorem dX8_count_2 : decode cX8_count 2 = .ok (.invokevirtual 83, 3) := by decide +kernel
theorem dX8_turned_0 : decode cX8_turned 0 = .ok (.aload_n 0, 1) := by decide +kernel
theorem dX8_turned_1 : decode cX8_turned 1 = .ok (.iload_n 1, 1) := by decide +kernel
theorem dX8_turned_2 : decode cX8_turned 2 = .ok (.invokevirtual 83, 3) := by decide +kernel
theorem dX8_ofFlow_0 : decode cX8_ofFlow 0 = .ok (.iload_n 1, 1) := by decide +kernel
theorem dX8_ofFlow_1 : decode cX8_ofFlow 1 = .ok (.ifCond .lt 14, 3) := by decide +kernel
theorem dX8_ofFlow_15 : decode cX8_ofFlow 15 = .ok (.new 168, 3) := by decide +kernel
theorem dX8_ofFlow_18 : decode cX8_ofFlow 18 = .ok (.dup, 1) := by decide +kernel
theorem dX8_ofFlow_19 : decode cX8_ofFlow 19 = .ok (.ldc 225, 2) := by decide +kernel
theorem dX8_ofFlow_21 : decode cX8_ofFlow 21 = .ok (.invokespecial 172, 3) := by decide +kernel
theorem dX8_ofFlow_24 : decode cX8_ofFlow 24 = .ok (.athrow, 1) := by decide +kernel
theorem dX8_ofFlow_4 : decode cX8_ofFlow 4 = .ok (.iload_n 1, 1) := by decide +kernel
theorem dX8_ofFlow_5 : decode cX8_ofFlow 5 = .ok (.aload_n 0, 1) := by decide +kernel
theorem dX8_ofFlow_6 : decode cX8_ofFlow 6 = .ok (.getfield 12, 3) := by decide +kernel
theorem dX8_ofFlow_9 : decode cX8_ofFlow 9 = .ok (.getfield 105, 3) := by decide +kernel
theorem dX8_ofFlow_12 : decode cX8_ofFlow 12 = .ok (.if_icmp .lt 13, 3) := by decide +kernel
theorem dX8_arrivesIn_0 : decode cX8_arrivesIn 0 = .ok (.aload_n 0, 1) := by decide +kernel
theorem dX8_arrivesIn_1 : decode cX8_arrivesIn 1 = .ok (.iload_n 1, 1) := by decide +kernel
theorem dX8_arrivesIn_2 : decode cX8_arrivesIn 2 = .ok (.invokevirtual 146, 3) := by decide +kernel
theorem dX8_distanceWithout_0 : decode cX8_distanceWithout 0 = .ok (.aload_n 0, 1) := by decide +kernel
theorem dX8_distanceWithout_1 : decode cX8_distanceWithout 1 = .ok (.iload_n 1, 1) := by decide +kernel
theorem dX8_distanceWithout_2 : decode cX8_distanceWithout 2 = .ok (.invokevirtual 83, 3) := by decide +kernel
set_option maxRecDepth 100000 in
set_option maxHeartbeats 4000000 in
/-- Roads.find without links: null -/
theorem tm_findL (l : Launch) (hst : l.stackTraces = false) (dC : Nat → ClassId) (dI : Nat → Nat → Nat) (cy : Nat → ClassId) (a2 : Nat) (b6 : Nat) (b7 : Nat) (x : Int32) (sz : Nat) : Met l yX2_find (tp_w yX2_find cX2_find 2 (some (.object "Turnpike$Link"))) ({ frames := 0, cells := 0, slots := 0, locals := 0 }) (va_Pc [.ref a2, .int x] (tp_Pre dC dI cy [(a2, .inr (2, [.ref b6, .int 0, .ref b7, .int 0]))] sz)) (va_Qq (fun (r u : Option Nat) => r = u) (fun (u : Option Nat) (t : State) => (u = none) ∧ tp_Post dC dI (va_A [(a2, .inr (2, [.ref b6, .int 0, .ref b7, .int 0]))] sz) [(a2, .inr (2, [.ref b6, .int 0, .ref b7, .int 0]))] t) (va_A [(a2, .inr (2, [.ref b6, .int 0, .ref b7, .int 0]))] sz)) 0 0 (va_A [(a2, .inr (2, [.ref b6, .int 0, .ref b7, .int 0]))] sz) := by
  refine Met.ofW (cc := cX2_find) (maxL := 2) (ret := (some (.object "Turnpike$Link"))) (by decide) rfl ?_
  intro p e s m args below meth c s₁ B hml hv
  obtain ⟨rfl, hsz, hP, hK, hD0, hE, hZ⟩ := hv
  have hx := B.exec
  have hb := B.bytes
  have hr := B.returns
  have hts0 := atoms_spec (ws := tp_w yX2_find cX2_find 2 (some (.object "Turnpike$Link"))) B.pre
  have hts : ∀ w ∈ tp_all, w.before _ s = true := fun w h => hts0 w (List.mem_cons_of_mem _ h)
  have hown : s.vm.findClass RX2 = some m.cls := findClass_of_methodNamed B.named
  have hlocks := B.notSynchronized
  subst hsz
  have hD := hD0.self (sz := s.heap.size)
  generalize hAe : va_A [(a2, .inr (2, [.ref b6, .int 0, .ref b7, .int 0]))] s.heap.size = A at hD hZ ⊢
  have hA : ∀ q : Nat, s.heap.size ≤ q → A q := fun q h => by rw [← hAe]; exact Or.inr h
  have hS : va_S A s.heap s.heap [] := va_S.rf
  have hl9 := lv_entry ([.ref a2, .int x]) (n := 2) (Nat.le_of_ble_eq_true rfl)
  rw [lg_entry_eq]
  generalize (lg_sl ([.ref a2, .int x]) ++ List.replicate (2 - (lg_sl ([.ref a2, .int x])).length) Slot.unset).toArray = ls at hl9 ⊢
  have hl : lv_has ls 2 [(0, .ref a2), (1, .int x)] := hl9
  refine lv_iload_n hx hb dX2_find_0 rfl (lv_at hl 1 rfl) ?_
  refine lv_if_lt (tgt := 21) hx hb dX2_find_1 (by decide) (fun c_1 => ?_) (fun c_1 => ?_)
  · refine lv_null hx hb dX2_find_21 ?_
    refine W.widen (k := 0) (n := 0) (Nat.le_of_ble_eq_true rfl) (Nat.le_of_ble_eq_true rfl) ?_
    have hP9 := hP.sub (ws' := [(a2, .inr (2, [.ref b6, .int 0, .ref b7, .int 0]))]) [0] rfl
    have hD9 := hD.sub (ws' := [(a2, .inr (2, [.ref b6, .int 0, .ref b7, .int 0]))]) [0] (by decide) rfl
    exact W.aret (v := .null) hx hb hr (Or.inl ⟨_, rfl⟩) (Or.inl rfl) (fun t ht hW => ⟨⟨none, none, rfl, rfl, ⟨(by first | rfl | assumption), by rw [ht]; exact hP9, hD9⟩⟩, hS.F ht⟩) hS.2.2 dX2_find_22
  · refine lv_iload_n hx hb dX2_find_4 rfl (lv_at hl 1 rfl) ?_
    refine lv_aload_n hx hb dX2_find_5 rfl (lv_at hl 0 rfl) ?_
    refine va_get (D := (dC, dI)) (ci := 2) (v := .int 0) (C := RX2) (T := TX2) (N := 4) hx hb hts tl_X2 hown hK hP 0 rfl rfl 1 (by decide) (hts _ tw_179) (fun _ h9 => h9) rfl dX2_find_6 ?_
    refine lv_icmp_ge (tgt := 21) hx hb dX2_find_9 (by decide) (fun _ => ?_) (fun c_2 => absurd (Int32.not_lt.mp c_1) c_2)
    refine lv_null hx hb dX2_find_21 ?_
    refine W.widen (k := 0) (n := 0) (Nat.le_of_ble_eq_true rfl) (Nat.le_of_ble_eq_true rfl) ?_
    have hP9 := hP.sub (ws' := [(a2, .inr (2, [.ref b6, .int 0, .ref b7, .int 0]))]) [0] rfl
    have hD9 := hD.sub (ws' := [(a2, .inr (2, [.ref b6, .int 0, .ref b7, .int 0]))]) [0] (by decide) rfl
    exact W.aret (v := .null) hx hb hr (Or.inl ⟨_, rfl⟩) (Or.inl rfl) (fun t ht hW => ⟨⟨none, none, rfl, rfl, ⟨(by first | rfl | assumption), by rw [ht]; exact hP9, hD9⟩⟩, hS.F ht⟩) hS.2.2 dX2_find_22
set_option maxRecDepth 100000 in
set_option maxHeartbeats 4000000 in
/-- Traffic.find without vehicles: null -/
theorem tm_findV (l : Launch) (hst : l.stackTraces = false) (dC : Nat → ClassId) (dI : Nat → Nat → Nat) (cy : Nat → ClassId) (a1 : Nat) (a2 : Nat) (b1 : Nat) (b2 : Nat) (b3 : Nat) (b4 : Nat) (b5 : Nat) (x : Int32) (sz : Nat) : Met l yX5_find (tp_w yX5_find cX5_find 2 (some (.object "Turnpike$Vehicle"))) ({ frames := 0, cells := 0, slots := 0, locals := 0 }) (va_Pc [.ref a1, .int x] (tp_Pre dC dI cy [(a1, .inr (5, [.ref a2, .ref b1, .ref b2, .ref b3, .ref b4, .ref b5, .int 0, .int 1, .int 0, .int 0, .int 0, .int 0]))] sz)) (va_Qq (fun (r u : Option Nat) => r = u) (fun (u : Option Nat) (t : State) => (u = none) ∧ tp_Post dC dI (va_A [(a1, .inr (5, [.ref a2, .ref b1, .ref b2, .ref b3, .ref b4, .ref b5, .int 0, .int 1, .int 0, .int 0, .int 0, .int 0]))] sz) [(a1, .inr (5, [.ref a2, .ref b1, .ref b2, .ref b3, .ref b4, .ref b5, .int 0, .int 1, .int 0, .int 0, .int 0, .int 0]))] t) (va_A [(a1, .inr (5, [.ref a2, .ref b1, .ref b2, .ref b3, .ref b4, .ref b5, .int 0, .int 1, .int 0, .int 0, .int 0, .int 0]))] sz)) 0 0 (va_A [(a1, .inr (5, [.ref a2, .ref b1, .ref b2, .ref b3, .ref b4, .ref b5, .int 0, .int 1, .int 0, .int 0, .int 0, .int 0]))] sz) := by
  refine Met.ofW (cc := cX5_find) (maxL := 2) (ret := (some (.object "Turnpike$Vehicle"))) (by decide) rfl ?_
  intro p e s m args below meth c s₁ B hml hv
  obtain ⟨rfl, hsz, hP, hK, hD0, hE, hZ⟩ := hv
  have hx := B.exec
  have hb := B.bytes
  have hr := B.returns
  have hts0 := atoms_spec (ws := tp_w yX5_find cX5_find 2 (some (.object "Turnpike$Vehicle"))) B.pre
  have hts : ∀ w ∈ tp_all, w.before _ s = true := fun w h => hts0 w (List.mem_cons_of_mem _ h)
  have hown : s.vm.findClass RX5 = some m.cls := findClass_of_methodNamed B.named
  have hlocks := B.notSynchronized
  subst hsz
  have hD := hD0.self (sz := s.heap.size)
  generalize hAe : va_A [(a1, .inr (5, [.ref a2, .ref b1, .ref b2, .ref b3, .ref b4, .ref b5, .int 0, .int 1, .int 0, .int 0, .int 0, .int 0]))] s.heap.size = A at hD hZ ⊢
  have hA : ∀ q : Nat, s.heap.size ≤ q → A q := fun q h => by rw [← hAe]; exact Or.inr h
  have hS : va_S A s.heap s.heap [] := va_S.rf
  have hl9 := lv_entry ([.ref a1, .int x]) (n := 2) (Nat.le_of_ble_eq_true rfl)
  rw [lg_entry_eq]
  generalize (lg_sl ([.ref a1, .int x]) ++ List.replicate (2 - (lg_sl ([.ref a1, .int x])).length) Slot.unset).toArray = ls at hl9 ⊢
  have hl : lv_has ls 2 [(0, .ref a1), (1, .int x)] := hl9
  refine lv_iload_n hx hb dX5_find_0 rfl (lv_at hl 1 rfl) ?_
  refine lv_if_lt (tgt := 21) hx hb dX5_find_1 (by decide) (fun c_1 => ?_) (fun c_1 => ?_)
  · refine lv_null hx hb dX5_find_21 ?_
    refine W.widen (k := 0) (n := 0) (Nat.le_of_ble_eq_true rfl) (Nat.le_of_ble_eq_true rfl) ?_
    have hP9 := hP.sub (ws' := [(a1, .inr (5, [.ref a2, .ref b1, .ref b2, .ref b3, .ref b4, .ref b5, .int 0, .int 1, .int 0, .int 0, .int 0, .int 0]))]) [0] rfl
    have hD9 := hD.sub (ws' := [(a1, .inr (5, [.ref a2, .ref b1, .ref b2, .ref b3, .ref b4, .ref b5, .int 0, .int 1, .int 0, .int 0, .int 0, .int 0]))]) [0] (by decide) rfl
    exact W.aret (v := .null) hx hb hr (Or.inl ⟨_, rfl⟩) (Or.inl rfl) (fun t ht hW => ⟨⟨none, none, rfl, rfl, ⟨(by first | rfl | assumption), by rw [ht]; exact hP9, hD9⟩⟩, hS.F ht⟩) hS.2.2 dX5_find_22
  · refine lv_iload_n hx hb dX5_find_4 rfl (lv_at hl 1 rfl) ?_
    refine lv_aload_n hx hb dX5_find_5 rfl (lv_at hl 0 rfl) ?_
    refine va_get (D := (dC, dI)) (ci := 5) (v := .int 0) (C := RX5) (T := TX5) (N := 12) hx hb hts tl_X5 hown hK hP 0 rfl rfl 10 (by decide) (hts _ tw_377) (fun _ h9 => h9) rfl dX5_find_6 ?_
    refine lv_icmp_ge (tgt := 21) hx hb dX5_find_9 (by decide) (fun _ => ?_) (fun c_2 => absurd (Int32.not_lt.mp c_1) c_2)
    refine lv_null hx hb dX5_find_21 ?_
    refine W.widen (k := 0) (n := 0) (Nat.le_of_ble_eq_true rfl) (Nat.le_of_ble_eq_true rfl) ?_
    have hP9 := hP.sub (ws' := [(a1, .inr (5, [.ref a2, .ref b1, .ref b2, .ref b3, .ref b4, .ref b5, .int 0, .int 1, .int 0, .int 0, .int 0, .int 0]))]) [0] rfl
    have hD9 := hD.sub (ws' := [(a1, .inr (5, [.ref a2, .ref b1, .ref b2, .ref b3, .ref b4, .ref b5, .int 0, .int 1, .int 0, .int 0, .int 0, .int 0]))]) [0] (by decide) rfl
    exact W.aret (v := .null) hx hb hr (Or.inl ⟨_, rfl⟩) (Or.inl rfl) (fun t ht hW => ⟨⟨none, none, rfl, rfl, ⟨(by first | rfl | assumption), by rw [ht]; exact hP9, hD9⟩⟩, hS.F ht⟩) hS.2.2 dX5_find_22
set_option maxRecDepth 100000 in
set_option maxHeartbeats 4000000 in
/-- isWithin: so -/
theorem tm_within_in (l : Launch) (hst : l.stackTraces = false) (dC : Nat → ClassId) (dI : Nat → Nat → Nat) (cy : Nat → ClassId) (x : Int32) (lo : Int32) (hi : Int32) (sz : Nat) (hc : lo ≤ x ∧ x ≤ hi) : Met l yX8_isWithin (tp_w yX8_isWithin cX8_isWithin 3 (some .boolean)) ({ frames := 0, cells := 0, slots := 0, locals := 0 }) (va_Pc [.int x, .int lo, .int hi] (tp_Pre dC dI cy [] sz)) (va_Qi (fun (r u : Int32) => r = u) (fun (u : Int32) (t : State) => (u = 1) ∧ tp_Post dC dI (va_A [] sz) [] t) (va_A [] sz)) 0 0 (va_A [] sz) := by
  refine Met.ofW (cc := cX8_isWithin) (maxL := 3) (ret := (some .boolean)) (by decide) rfl ?_
  intro p e s m args below meth c s₁ B hml hv
  obtain ⟨rfl, hsz, hP, hK, hD0, hE, hZ⟩ := hv
  have hx := B.exec
  have hb := B.bytes
  have hr := B.returns
  have hts0 := atoms_spec (ws := tp_w yX8_isWithin cX8_isWithin 3 (some .boolean)) B.pre
  have hts : ∀ w ∈ tp_all, w.before _ s = true := fun w h => hts0 w (List.mem_cons_of_mem _ h)
  have hown : s.vm.findClass RX8 = some m.cls := findClass_of_methodNamed B.named
  have hlocks := B.notSynchronized
  subst hsz
  have hD := hD0.self (sz := s.heap.size)
  generalize hAe : va_A [] s.heap.size = A at hD hZ ⊢
  have hA : ∀ q : Nat, s.heap.size ≤ q → A q := fun q h => by rw [← hAe]; exact Or.inr h
  have hS : va_S A s.heap s.heap [] := va_S.rf
  have hl9 := lv_entry ([.int x, .int lo, .int hi]) (n := 3) (Nat.le_of_ble_eq_true rfl)
  rw [lg_entry_eq]
  generalize (lg_sl ([.int x, .int lo, .int hi]) ++ List.replicate (3 - (lg_sl ([.int x, .int lo, .int hi])).length) Slot.unset).toArray = ls at hl9 ⊢
  have hl : lv_has ls 3 [(0, .int x), (1, .int lo), (2, .int hi)] := hl9
  refine lv_iload_n hx hb dX8_isWithin_0 rfl (lv_at hl 0 rfl) ?_
  refine lv_iload_n hx hb dX8_isWithin_1 rfl (lv_at hl 1 rfl) ?_
  refine lv_icmp_lt (tgt := 14) hx hb dX8_isWithin_2 (by decide) (fun c_1 => absurd c_1 (tp_nlt hc.1)) (fun _ => ?_)
  refine lv_iload_n hx hb dX8_isWithin_5 rfl (lv_at hl 0 rfl) ?_
  refine lv_iload_n hx hb dX8_isWithin_6 rfl (lv_at hl 2 rfl) ?_
  refine lv_icmp_gt (tgt := 14) hx hb dX8_isWithin_7 (by decide) (fun c_2 => absurd c_2 (tp_nlt hc.2)) (fun _ => ?_)
  refine lv_iconst (v := 1) hx hb dX8_isWithin_10 (by decide) ?_
  refine lv_goto (tgt := 15) hx hb dX8_isWithin_11 (by decide) ?_
  refine W.widen (k := 0) (n := 0) (Nat.le_of_ble_eq_true rfl) (Nat.le_of_ble_eq_true rfl) ?_
  have hP9 := hP.sub (ws' := []) [] rfl
  have hD9 := hD.sub (ws' := []) [] (by decide) rfl
  exact W.zret (v := 1) hx hb hr rfl (fun t ht hW => ⟨⟨1, 1, rfl, rfl, ⟨(by first | rfl | assumption), by rw [ht]; exact hP9, hD9⟩⟩, hS.F ht⟩) hS.2.2 dX8_isWithin_15
set_option maxRecDepth 100000 in
set_option maxHeartbeats 4000000 in
/-- isWithin: not so -/
theorem tm_within_out (l : Launch) (hst : l.stackTraces = false) (dC : Nat → ClassId) (dI : Nat → Nat → Nat) (cy : Nat → ClassId) (x : Int32) (lo : Int32) (hi : Int32) (sz : Nat) (hc : ¬ (lo ≤ x ∧ x ≤ hi)) : Met l yX8_isWithin (tp_w yX8_isWithin cX8_isWithin 3 (some .boolean)) ({ frames := 0, cells := 0, slots := 0, locals := 0 }) (va_Pc [.int x, .int lo, .int hi] (tp_Pre dC dI cy [] sz)) (va_Qi (fun (r u : Int32) => r = u) (fun (u : Int32) (t : State) => (u = 0) ∧ tp_Post dC dI (va_A [] sz) [] t) (va_A [] sz)) 0 0 (va_A [] sz) := by
  refine Met.ofW (cc := cX8_isWithin) (maxL := 3) (ret := (some .boolean)) (by decide) rfl ?_
  intro p e s m args below meth c s₁ B hml hv
  obtain ⟨rfl, hsz, hP, hK, hD0, hE, hZ⟩ := hv
  have hx := B.exec
  have hb := B.bytes
  have hr := B.returns
  have hts0 := atoms_spec (ws := tp_w yX8_isWithin cX8_isWithin 3 (some .boolean)) B.pre
  have hts : ∀ w ∈ tp_all, w.before _ s = true := fun w h => hts0 w (List.mem_cons_of_mem _ h)
  have hown : s.vm.findClass RX8 = some m.cls := findClass_of_methodNamed B.named
  have hlocks := B.notSynchronized
  subst hsz
  have hD := hD0.self (sz := s.heap.size)
  generalize hAe : va_A [] s.heap.size = A at hD hZ ⊢
  have hA : ∀ q : Nat, s.heap.size ≤ q → A q := fun q h => by rw [← hAe]; exact Or.inr h
  have hS : va_S A s.heap s.heap [] := va_S.rf
  have hl9 := lv_entry ([.int x, .int lo, .int hi]) (n := 3) (Nat.le_of_ble_eq_true rfl)
  rw [lg_entry_eq]
  generalize (lg_sl ([.int x, .int lo, .int hi]) ++ List.replicate (3 - (lg_sl ([.int x, .int lo, .int hi])).length) Slot.unset).toArray = ls at hl9 ⊢
  have hl : lv_has ls 3 [(0, .int x), (1, .int lo), (2, .int hi)] := hl9
  refine lv_iload_n hx hb dX8_isWithin_0 rfl (lv_at hl 0 rfl) ?_
  refine lv_iload_n hx hb dX8_isWithin_1 rfl (lv_at hl 1 rfl) ?_
  refine lv_icmp_lt (tgt := 14) hx hb dX8_isWithin_2 (by decide) (fun c_1 => ?_) (fun c_1 => ?_)
  · refine lv_iconst (v := 0) hx hb dX8_isWithin_14 (by decide) ?_
    refine W.widen (k := 0) (n := 0) (Nat.le_of_ble_eq_true rfl) (Nat.le_of_ble_eq_true rfl) ?_
    have hP9 := hP.sub (ws' := []) [] rfl
    have hD9 := hD.sub (ws' := []) [] (by decide) rfl
    exact W.zret (v := 0) hx hb hr rfl (fun t ht hW => ⟨⟨0, 0, rfl, rfl, ⟨(by first | rfl | assumption), by rw [ht]; exact hP9, hD9⟩⟩, hS.F ht⟩) hS.2.2 dX8_isWithin_15
  · refine lv_iload_n hx hb dX8_isWithin_5 rfl (lv_at hl 0 rfl) ?_
    refine lv_iload_n hx hb dX8_isWithin_6 rfl (lv_at hl 2 rfl) ?_
    refine lv_icmp_gt (tgt := 14) hx hb dX8_isWithin_7 (by decide) (fun _ => ?_) (fun c_2 => absurd (tp_out hc c_1) c_2)
    refine lv_iconst (v := 0) hx hb dX8_isWithin_14 (by decide) ?_
    refine W.widen (k := 0) (n := 0) (Nat.le_of_ble_eq_true rfl) (Nat.le_of_ble_eq_true rfl) ?_
    have hP9 := hP.sub (ws' := []) [] rfl
    have hD9 := hD.sub (ws' := []) [] (by decide) rfl
    exact W.zret (v := 0) hx hb hr rfl (fun t ht hW => ⟨⟨0, 0, rfl, rfl, ⟨(by first | rfl | assumption), by rw [ht]; exact hP9, hD9⟩⟩, hS.F ht⟩) hS.2.2 dX8_isWithin_15
set_option maxRecDepth 100000 in
set_option maxHeartbeats 4000000 in
/-- checkArgument(true) -/
theorem tm_checkArgument_in (l : Launch) (hst : l.stackTraces = false) (dC : Nat → ClassId) (dI : Nat → Nat → Nat) (cy : Nat → ClassId) (sz : Nat) : Met l yX8_checkArgument (tp_w yX8_checkArgument cX8_checkArgument 1 none) ({ frames := 0, cells := 0, slots := 0, locals := 0 }) (va_Pc [.int 1] (tp_Pre dC dI cy [] sz)) (va_Qv (fun _ : Unit => True) (fun (_ : Unit) (t : State) => tp_Post dC dI (va_A [] sz) [] t) (va_A [] sz)) 0 0 (va_A [] sz) := by
  refine Met.ofW (cc := cX8_checkArgument) (maxL := 1) (ret := none) (by decide) rfl ?_
  intro p e s m args below meth c s₁ B hml hv
  obtain ⟨rfl, hsz, hP, hK, hD0, hE, hZ⟩ := hv
  have hx := B.exec
  have hb := B.bytes
  have hr := B.returns
  have hts0 := atoms_spec (ws := tp_w yX8_checkArgument cX8_checkArgument 1 none) B.pre
  have hts : ∀ w ∈ tp_all, w.before _ s = true := fun w h => hts0 w (List.mem_cons_of_mem _ h)
  have hown : s.vm.findClass RX8 = some m.cls := findClass_of_methodNamed B.named
  have hlocks := B.notSynchronized
  subst hsz
  have hD := hD0.self (sz := s.heap.size)
  generalize hAe : va_A [] s.heap.size = A at hD hZ ⊢
  have hA : ∀ q : Nat, s.heap.size ≤ q → A q := fun q h => by rw [← hAe]; exact Or.inr h
  have hS : va_S A s.heap s.heap [] := va_S.rf
  have hl9 := lv_entry ([.int 1]) (n := 1) (Nat.le_of_ble_eq_true rfl)
  rw [lg_entry_eq]
  generalize (lg_sl ([.int 1]) ++ List.replicate (1 - (lg_sl ([.int 1])).length) Slot.unset).toArray = ls at hl9 ⊢
  have hl : lv_has ls 1 [(0, .int 1)] := hl9
  refine lv_iload_n hx hb dX8_checkArgument_0 rfl (lv_at hl 0 rfl) ?_
  refine lv_if_ne (tgt := 15) hx hb dX8_checkArgument_1 (by decide) (fun _ => ?_) (fun c_1 => absurd c_1 (by decide))
  refine W.widen (k := 0) (n := 0) (Nat.le_of_ble_eq_true rfl) (Nat.le_of_ble_eq_true rfl) ?_
  have hP9 := hP.sub (ws' := []) [] rfl
  have hD9 := hD.sub (ws' := []) [] (by decide) rfl
  exact W.vret hx hb hr (fun t ht hW => ⟨⟨(), rfl, trivial, ⟨by rw [ht]; exact hP9, hD9⟩⟩, hS.F ht⟩) hS.2.2 dX8_checkArgument_15
set_option maxRecDepth 100000 in
set_option maxHeartbeats 4000000 in
/-- checkArgument(false) -/
theorem tm_checkArgument_out (l : Launch) (hst : l.stackTraces = false) (dC : Nat → ClassId) (dI : Nat → Nat → Nat) (cy : Nat → ClassId) (sz : Nat) : vx_Met l yX8_checkArgument (tp_w yX8_checkArgument cX8_checkArgument 1 none) ({ frames := 6, cells := 1, slots := 6, locals := 82 }) (va_Pc [.int 0] (tp_Pre dC dI cy [] sz)) (va_Qv (fun _ : Unit => False) (fun (_ : Unit) (_ : State) => False) (va_A [] sz)) (vx_X (fun _ : Unit => True) (fun (E : String) (_ : Unit) (t : State) => (E = "java/lang/IllegalArgumentException") ∧ tp_Post dC dI (va_A [] sz) [] t) (va_A [] sz)) 1 6 (va_A [] sz) := by
  refine vx_ofW (cc := cX8_checkArgument) (maxL := 1) (ret := none) (by decide) rfl ?_
  intro p e s m args below meth c s₁ B hml htb hv
  obtain ⟨rfl, hsz, hP, hK, hD0, hE, hZ⟩ := hv
  have hx := B.exec
  have hb := B.bytes
  have hr := B.returns
  have hts0 := atoms_spec (ws := tp_w yX8_checkArgument cX8_checkArgument 1 none) B.pre
  have hts : ∀ w ∈ tp_all, w.before _ s = true := fun w h => hts0 w (List.mem_cons_of_mem _ h)
  have hown : s.vm.findClass RX8 = some m.cls := findClass_of_methodNamed B.named
  have hlocks := B.notSynchronized
  subst hsz
  have hD := hD0.self (sz := s.heap.size)
  generalize hAe : va_A [] s.heap.size = A at hD hZ ⊢
  have hA : ∀ q : Nat, s.heap.size ≤ q → A q := fun q h => by rw [← hAe]; exact Or.inr h
  have hS : va_S A s.heap s.heap [] := va_S.rf
  have hl9 := lv_entry ([.int 0]) (n := 1) (Nat.le_of_ble_eq_true rfl)
  rw [lg_entry_eq]
  generalize (lg_sl ([.int 0]) ++ List.replicate (1 - (lg_sl ([.int 0])).length) Slot.unset).toArray = ls at hl9 ⊢
  have hl : lv_has ls 1 [(0, .int 0)] := hl9
  refine lv_iload_n hx hb dX8_checkArgument_0 rfl (lv_at hl 0 rfl) ?_
  refine lv_if_ne (tgt := 15) hx hb dX8_checkArgument_1 (by decide) (fun c_1 => absurd (by decide) c_1) (fun _ => ?_)
  obtain ⟨sa, hsa⟩ := hE.2.2.2.2.1 _ (List.mem_of_getElem? (i := 7) rfl)
  refine vx_throwSW (own := RX8) (cls := "java/lang/IllegalArgumentException") (names := tp_up) (ik := 216) (is := 347) (ic := 220) hx hb hst hown (by decide +kernel) (by decide +kernel) (hts _ tw_607) (hts _ tw_55) hsa (tt_IAE hts hE) tg_IAE hZ.1 hZ.2 hS (hl.1.trans hml.symm) dX8_checkArgument_4 dX8_checkArgument_7 dX8_checkArgument_8 dX8_checkArgument_11 dX8_checkArgument_14 (fun x hx9 => (htb x hx9).elim)  (Nat.le_of_ble_eq_true rfl) (Nat.le_of_ble_eq_true rfl) (Nat.le_of_ble_eq_true rfl) (Nat.le_of_ble_eq_true rfl) hlocks (fun t hv hz hq => ?_) hS.2.2 (Nat.le_of_ble_eq_true rfl) (Nat.le_of_ble_eq_true rfl)
  obtain ⟨h5, h6⟩ := tp_thrown hP hD hS hz hq
  exact ⟨(), trivial, ⟨rfl, h5.1.sub [] rfl, h5.2.sub [] (by decide) rfl⟩, h6⟩
set_option maxRecDepth 100000 in
set_option maxHeartbeats 4000000 in
/-- checkTicks, within -/
theorem tm_checkTicks_in (l : Launch) (hst : l.stackTraces = false) (dC : Nat → ClassId) (dI : Nat → Nat → Nat) (cy : Nat → ClassId) (x : Int32) (sz : Nat) (hc : (1 : Int32) ≤ x ∧ x ≤ 60) : Met l yX8_checkTicks (tp_w yX8_checkTicks cX8_checkTicks 1 none) ({ frames := 1, cells := 0, slots := 0, locals := 22 }) (va_Pc [.int x] (tp_Pre dC dI cy [] sz)) (va_Qv (fun _ : Unit => True) (fun (_ : Unit) (t : State) => tp_Post dC dI (va_A [] sz) [] t) (va_A [] sz)) 0 0 (va_A [] sz) := by
  refine Met.ofW (cc := cX8_checkTicks) (maxL := 1) (ret := none) (by decide) rfl ?_
  intro p e s m args below meth c s₁ B hml hv
  obtain ⟨rfl, hsz, hP, hK, hD0, hE, hZ⟩ := hv
  have hx := B.exec
  have hb := B.bytes
  have hr := B.returns
  have hts0 := atoms_spec (ws := tp_w yX8_checkTicks cX8_checkTicks 1 none) B.pre
  have hts : ∀ w ∈ tp_all, w.before _ s = true := fun w h => hts0 w (List.mem_cons_of_mem _ h)
  have hown : s.vm.findClass RX8 = some m.cls := findClass_of_methodNamed B.named
  have hlocks := B.notSynchronized
  subst hsz
  have hD := hD0.self (sz := s.heap.size)
  generalize hAe : va_A [] s.heap.size = A at hD hZ ⊢
  have hA : ∀ q : Nat, s.heap.size ≤ q → A q := fun q h => by rw [← hAe]; exact Or.inr h
  have hS : va_S A s.heap s.heap [] := va_S.rf
  have hl9 := lv_entry ([.int x]) (n := 1) (Nat.le_of_ble_eq_true rfl)
  rw [lg_entry_eq]
  generalize (lg_sl ([.int x]) ++ List.replicate (1 - (lg_sl ([.int x])).length) Slot.unset).toArray = ls at hl9 ⊢
  have hl : lv_has ls 1 [(0, .int x)] := hl9
  refine lv_iload_n hx hb dX8_checkTicks_0 rfl (lv_at hl 0 rfl) ?_
  refine lv_iconst (v := 1) hx hb dX8_checkTicks_1 (by decide) ?_
  refine lv_bipush (v := 60) hx hb dX8_checkTicks_2 (by decide) ?_
  have hFc := va_free (wc := []) hD hS hA [] rfl
  refine va_calli (va_runS (As := [.int x, .int 1, .int 60]) (rest := []) ⟨hx, hb, hml, hown, hts⟩ (tm_within_in l hst dC dI cy x 1 60 s.heap.size (by first | assumption | exact tp_none _ | decide | omega)) (tp_cwS 3 hts tw_710 tw_711 tw_38 tw_712 rfl rfl (by decide +kernel) ⟨Nat.le_of_ble_eq_true rfl, Nat.le_of_ble_eq_true rfl⟩) ⟨tp_blind, fun U hU hW => ⟨rfl, tp_pay hK hP hD hE hZ hS [] (by decide) rfl hFc U hU hW⟩⟩ rfl rfl hl.1 rfl (lv_room (Nat.le_of_ble_eq_true rfl)) dX8_checkTicks_4 ⟨(Nat.le_of_ble_eq_true rfl), (Nat.le_of_ble_eq_true rfl)⟩) hS (fun q _ h => hFc q h) hFc (fun r_1 u t H1 locs ht hvm hw hB hz1 hk1 hS => ?_)
  obtain rfl := hw
  obtain ⟨f_2, hP1, hD1⟩ := hB
  subst f_2
  rw [ht] at hP1
  obtain ⟨hP, hD⟩ := va_join (wr := []) (w1 := []) hP hD [] [] rfl rfl (by decide) (by decide) hk1 hFc hP1 hD1
  generalize H1 = H at hP hS ⊢
  have hP : va_P (dC, dI) vwCl [] _ := hP
  have hD : va_D A [] := hD
  have hFc := va_free (wc := []) hD hS hA [] rfl
  refine va_callv (va_runS (As := [.int 1]) (rest := []) ⟨hx, hb, hml, hown, hts⟩ (tm_checkArgument_in l hst dC dI cy H.size) (tp_cwS 1 hts tw_706 tw_707 tw_38 tw_708 rfl rfl (by decide +kernel) ⟨Nat.le_of_ble_eq_true rfl, Nat.le_of_ble_eq_true rfl⟩) ⟨tp_blind, fun U hU hW => ⟨rfl, tp_pay hK hP hD hE hZ hS [] (by decide) rfl hFc U hU hW⟩⟩ rfl rfl hl.1 rfl (lv_room (Nat.le_of_ble_eq_true rfl)) dX8_checkTicks_7 ⟨(Nat.le_of_ble_eq_true rfl), (Nat.le_of_ble_eq_true rfl)⟩) hS (fun q _ h => hFc q h) hFc (fun u t H1 locs ht hvm hw hB hz1 hk1 hS => ?_)
  obtain ⟨hP1, hD1⟩ := hB
  rw [ht] at hP1
  obtain ⟨hP, hD⟩ := va_join (wr := []) (w1 := []) hP hD [] [] rfl rfl (by decide) (by decide) hk1 hFc hP1 hD1
  generalize H1 = H at hP hS ⊢
  have hP : va_P (dC, dI) vwCl [] _ := hP
  have hD : va_D A [] := hD
  refine W.widen (k := 0) (n := 0) (Nat.le_of_ble_eq_true rfl) (Nat.le_of_ble_eq_true rfl) ?_
  have hP9 := hP.sub (ws' := []) [] rfl
  have hD9 := hD.sub (ws' := []) [] (by decide) rfl
  exact W.vret hx hb hr (fun t ht hW => ⟨⟨(), rfl, trivial, ⟨by rw [ht]; exact hP9, hD9⟩⟩, hS.F ht⟩) hS.2.2 dX8_checkTicks_10
set_option maxRecDepth 100000 in
set_option maxHeartbeats 4000000 in
/-- checkTicks, not within -/
theorem tm_checkTicks_out (l : Launch) (hst : l.stackTraces = false) (dC : Nat → ClassId) (dI : Nat → Nat → Nat) (cy : Nat → ClassId) (x : Int32) (sz : Nat) (hc : ¬ ((1 : Int32) ≤ x ∧ x ≤ 60)) : vx_Met l yX8_checkTicks (tp_w yX8_checkTicks cX8_checkTicks 1 none) ({ frames := 7, cells := 1, slots := 6, locals := 102 }) (va_Pc [.int x] (tp_Pre dC dI cy [] sz)) (va_Qv (fun _ : Unit => False) (fun (_ : Unit) (_ : State) => False) (va_A [] sz)) (vx_X (fun _ : Unit => True) (fun (E : String) (_ : Unit) (t : State) => (E = "java/lang/IllegalArgumentException") ∧ tp_Post dC dI (va_A [] sz) [] t) (va_A [] sz)) 1 6 (va_A [] sz) := by
  refine vx_ofW (cc := cX8_checkTicks) (maxL := 1) (ret := none) (by decide) rfl ?_
  intro p e s m args below meth c s₁ B hml htb hv
  obtain ⟨rfl, hsz, hP, hK, hD0, hE, hZ⟩ := hv
  have hx := B.exec
  have hb := B.bytes
  have hr := B.returns
  have hts0 := atoms_spec (ws := tp_w yX8_checkTicks cX8_checkTicks 1 none) B.pre
  have hts : ∀ w ∈ tp_all, w.before _ s = true := fun w h => hts0 w (List.mem_cons_of_mem _ h)
  have hown : s.vm.findClass RX8 = some m.cls := findClass_of_methodNamed B.named
  have hlocks := B.notSynchronized
  subst hsz
  have hD := hD0.self (sz := s.heap.size)
  generalize hAe : va_A [] s.heap.size = A at hD hZ ⊢
  have hA : ∀ q : Nat, s.heap.size ≤ q → A q := fun q h => by rw [← hAe]; exact Or.inr h
  have hS : va_S A s.heap s.heap [] := va_S.rf
  have hl9 := lv_entry ([.int x]) (n := 1) (Nat.le_of_ble_eq_true rfl)
  rw [lg_entry_eq]
  generalize (lg_sl ([.int x]) ++ List.replicate (1 - (lg_sl ([.int x])).length) Slot.unset).toArray = ls at hl9 ⊢
  have hl : lv_has ls 1 [(0, .int x)] := hl9
  refine lv_iload_n hx hb dX8_checkTicks_0 rfl (lv_at hl 0 rfl) ?_
  refine lv_iconst (v := 1) hx hb dX8_checkTicks_1 (by decide) ?_
  refine lv_bipush (v := 60) hx hb dX8_checkTicks_2 (by decide) ?_
  have hFc := va_free (wc := []) hD hS hA [] rfl
  refine va_calli (va_runS (As := [.int x, .int 1, .int 60]) (rest := []) ⟨hx, hb, hml, hown, hts⟩ (tm_within_out l hst dC dI cy x 1 60 s.heap.size (by first | assumption | exact tp_none _ | decide | omega)) (tp_cwS 3 hts tw_710 tw_711 tw_38 tw_712 rfl rfl (by decide +kernel) ⟨Nat.le_of_ble_eq_true rfl, Nat.le_of_ble_eq_true rfl⟩) ⟨tp_blind, fun U hU hW => ⟨rfl, tp_pay hK hP hD hE hZ hS [] (by decide) rfl hFc U hU hW⟩⟩ rfl rfl hl.1 rfl (lv_room (Nat.le_of_ble_eq_true rfl)) dX8_checkTicks_4 ⟨(Nat.le_of_ble_eq_true rfl), (Nat.le_of_ble_eq_true rfl)⟩) hS (fun q _ h => hFc q h) hFc (fun r_1 u t H1 locs ht hvm hw hB hz1 hk1 hS => ?_)
  obtain rfl := hw
  obtain ⟨f_2, hP1, hD1⟩ := hB
  subst f_2
  rw [ht] at hP1
  obtain ⟨hP, hD⟩ := va_join (wr := []) (w1 := []) hP hD [] [] rfl rfl (by decide) (by decide) hk1 hFc hP1 hD1
  generalize H1 = H at hP hS ⊢
  have hP : va_P (dC, dI) vwCl [] _ := hP
  have hD : va_D A [] := hD
  have hFc := va_free (wc := []) hD hS hA [] rfl
  refine vx_callv (vx_runS (As := [.int 0]) (rest := []) ⟨hx, hb, hml, hown, hts⟩ (tm_checkArgument_out l hst dC dI cy H.size) (tp_cwS 1 hts tw_706 tw_707 tw_38 tw_708 rfl rfl (by decide +kernel) ⟨Nat.le_of_ble_eq_true rfl, Nat.le_of_ble_eq_true rfl⟩) ⟨tp_blind, fun U hU hW => ⟨rfl, tp_pay hK hP hD hE hZ hS [] (by decide) rfl hFc U hU hW⟩⟩ rfl rfl hl.1 rfl (lv_room (Nat.le_of_ble_eq_true rfl)) dX8_checkTicks_7 ⟨(Nat.le_of_ble_eq_true rfl), (Nat.le_of_ble_eq_true rfl)⟩) hS (fun q _ h => hFc q h) hFc (fun q _ h => hFc q h) (fun E9 ce q9 u t H1 locs ht hvm hw hB hz1 hk1 hS hce hcv hcl => ?_) (fun u t H1 locs ht hvm hw hB hz1 hk1 hS => ?_)
  · obtain ⟨rfl, hP1, hD1⟩ := hB
    rw [ht] at hP1
    obtain ⟨hP, hD⟩ := va_join (wr := []) (w1 := []) hP hD [] [] rfl rfl (by decide) (by decide) hk1 hFc hP1 hD1
    generalize H1 = H at hP hS hce ⊢
    have hP : va_P (dC, dI) vwCl [] _ := hP
    have hD : va_D A [] := hD
    refine vx_widen (k := 1) (n := 6) (Nat.le_of_ble_eq_true rfl) (Nat.le_of_ble_eq_true rfl) ?_
    exact vx_out (fun x hx9 => (htb x hx9).elim) hlocks hce hcv hcl (fun t ht hv => ⟨(), trivial, ⟨rfl, by rw [ht]; exact hP.sub [] rfl, hD.sub [] (by decide) rfl⟩, hS.F ht⟩) hS.2.2 (Nat.le_refl _) (Nat.le_refl _)
  · exact hw.elim
set_option maxRecDepth 100000 in
set_option maxHeartbeats 4000000 in
/-- checkNode without nodes: thrown -/
theorem tm_checkNode (l : Launch) (hst : l.stackTraces = false) (dC : Nat → ClassId) (dI : Nat → Nat → Nat) (cy : Nat → ClassId) (a0 : Nat) (a1 : Nat) (a2 : Nat) (aT : Nat) (b1 : Nat) (b2 : Nat) (b3 : Nat) (b4 : Nat) (b5 : Nat) (b6 : Nat) (b7 : Nat) (x : Int32) (sz : Nat) : vx_Met l yX8_checkNode (tp_w yX8_checkNode cX8_checkNode 2 none) ({ frames := 6, cells := 1, slots := 6, locals := 82 }) (va_Pc [.ref a0, .int x] (tp_Pre dC dI cy [(a0, .inr (8, [.ref a1, .ref aT])), (a1, .inr (5, [.ref a2, .ref b1, .ref b2, .ref b3, .ref b4, .ref b5, .int 0, .int 1, .int 0, .int 0, .int 0, .int 0])), (a2, .inr (2, [.ref b6, .int 0, .ref b7, .int 0]))] sz)) (va_Qv (fun _ : Unit => False) (fun (_ : Unit) (_ : State) => False) (va_A [(a0, .inr (8, [.ref a1, .ref aT])), (a1, .inr (5, [.ref a2, .ref b1, .ref b2, .ref b3, .ref b4, .ref b5, .int 0, .int 1, .int 0, .int 0, .int 0, .int 0])), (a2, .inr (2, [.ref b6, .int 0, .ref b7, .int 0]))] sz)) (vx_X (fun _ : Unit => True) (fun (E : String) (_ : Unit) (t : State) => (E = "java/lang/IndexOutOfBoundsException") ∧ tp_Post dC dI (va_A [(a0, .inr (8, [.ref a1, .ref aT])), (a1, .inr (5, [.ref a2, .ref b1, .ref b2, .ref b3, .ref b4, .ref b5, .int 0, .int 1, .int 0, .int 0, .int 0, .int 0])), (a2, .inr (2, [.ref b6, .int 0, .ref b7, .int 0]))] sz) [] t) (va_A [(a0, .inr (8, [.ref a1, .ref aT])), (a1, .inr (5, [.ref a2, .ref b1, .ref b2, .ref b3, .ref b4, .ref b5, .int 0, .int 1, .int 0, .int 0, .int 0, .int 0])), (a2, .inr (2, [.ref b6, .int 0, .ref b7, .int 0]))] sz)) 1 6 (va_A [(a0, .inr (8, [.ref a1, .ref aT])), (a1, .inr (5, [.ref a2, .ref b1, .ref b2, .ref b3, .ref b4, .ref b5, .int 0, .int 1, .int 0, .int 0, .int 0, .int 0])), (a2, .inr (2, [.ref b6, .int 0, .ref b7, .int 0]))] sz) := by
  refine vx_ofW (cc := cX8_checkNode) (maxL := 2) (ret := none) (by decide) rfl ?_
  intro p e s m args below meth c s₁ B hml htb hv
  obtain ⟨rfl, hsz, hP, hK, hD0, hE, hZ⟩ := hv
  have hx := B.exec
  have hb := B.bytes
  have hr := B.returns
  have hts0 := atoms_spec (ws := tp_w yX8_checkNode cX8_checkNode 2 none) B.pre
  have hts : ∀ w ∈ tp_all, w.before _ s = true := fun w h => hts0 w (List.mem_cons_of_mem _ h)
  have hown : s.vm.findClass RX8 = some m.cls := findClass_of_methodNamed B.named
  have hlocks := B.notSynchronized
  subst hsz
  have hD := hD0.self (sz := s.heap.size)
  generalize hAe : va_A [(a0, .inr (8, [.ref a1, .ref aT])), (a1, .inr (5, [.ref a2, .ref b1, .ref b2, .ref b3, .ref b4, .ref b5, .int 0, .int 1, .int 0, .int 0, .int 0, .int 0])), (a2, .inr (2, [.ref b6, .int 0, .ref b7, .int 0]))] s.heap.size = A at hD hZ ⊢
  have hA : ∀ q : Nat, s.heap.size ≤ q → A q := fun q h => by rw [← hAe]; exact Or.inr h
  have hS : va_S A s.heap s.heap [] := va_S.rf
  have hl9 := lv_entry ([.ref a0, .int x]) (n := 2) (Nat.le_of_ble_eq_true rfl)
  rw [lg_entry_eq]
  generalize (lg_sl ([.ref a0, .int x]) ++ List.replicate (2 - (lg_sl ([.ref a0, .int x])).length) Slot.unset).toArray = ls at hl9 ⊢
  have hl : lv_has ls 2 [(0, .ref a0), (1, .int x)] := hl9
  refine lv_iload_n hx hb dX8_checkNode_0 rfl (lv_at hl 1 rfl) ?_
  refine lv_if_lt (tgt := 15) hx hb dX8_checkNode_1 (by decide) (fun c_1 => ?_) (fun c_1 => ?_)
  · obtain ⟨sa, hsa⟩ := hE.2.2.2.2.1 _ (List.mem_of_getElem? (i := 0) rfl)
    refine vx_throwSW (own := RX8) (cls := "java/lang/IndexOutOfBoundsException") (names := tp_up) (ik := 168) (is := 349) (ic := 172) hx hb hst hown (by decide +kernel) (by decide +kernel) (hts _ tw_460) (hts _ tw_54) hsa (tt_IOB hts hE) tg_IOB hZ.1 hZ.2 hS (hl.1.trans hml.symm) dX8_checkNode_15 dX8_checkNode_18 dX8_checkNode_19 dX8_checkNode_22 dX8_checkNode_25 (fun x hx9 => (htb x hx9).elim)  (Nat.le_of_ble_eq_true rfl) (Nat.le_of_ble_eq_true rfl) (Nat.le_of_ble_eq_true rfl) (Nat.le_of_ble_eq_true rfl) hlocks (fun t hv hz hq => ?_) hS.2.2 (Nat.le_of_ble_eq_true rfl) (Nat.le_of_ble_eq_true rfl)
    obtain ⟨h5, h6⟩ := tp_thrown hP hD hS hz hq
    exact ⟨(), trivial, ⟨rfl, h5.1.sub [] rfl, h5.2.sub [] (by decide) rfl⟩, h6⟩
  · refine lv_iload_n hx hb dX8_checkNode_4 rfl (lv_at hl 1 rfl) ?_
    refine lv_aload_n hx hb dX8_checkNode_5 rfl (lv_at hl 0 rfl) ?_
    refine va_get (D := (dC, dI)) (ci := 8) (v := .ref a1) (C := RX8) (T := TX8) (N := 2) hx hb hts tl_X8 hown hK hP 0 rfl rfl 0 (by decide) (hts _ tw_406) (fun _ h9 => h9) rfl dX8_checkNode_6 ?_
    refine va_getN (D := (dC, dI)) (ci := 5) (v := .int 0) (C := RX5) (T := TX5) (N := 12) hx hb hts tl_X5 hown hK hP 1 rfl rfl 8 (by decide) (va_Nw.use rfl (te_f68 hE)) (fun _ h9 => h9) rfl dX8_checkNode_9 ?_
    refine lv_icmp_lt (tgt := 26) hx hb dX8_checkNode_12 (by decide) (fun c_2 => absurd c_2 c_1) (fun _ => ?_)
    obtain ⟨sa, hsa⟩ := hE.2.2.2.2.1 _ (List.mem_of_getElem? (i := 0) rfl)
    refine vx_throwSW (own := RX8) (cls := "java/lang/IndexOutOfBoundsException") (names := tp_up) (ik := 168) (is := 349) (ic := 172) hx hb hst hown (by decide +kernel) (by decide +kernel) (hts _ tw_460) (hts _ tw_54) hsa (tt_IOB hts hE) tg_IOB hZ.1 hZ.2 hS (hl.1.trans hml.symm) dX8_checkNode_15 dX8_checkNode_18 dX8_checkNode_19 dX8_checkNode_22 dX8_checkNode_25 (fun x hx9 => (htb x hx9).elim)  (Nat.le_of_ble_eq_true rfl) (Nat.le_of_ble_eq_true rfl) (Nat.le_of_ble_eq_true rfl) (Nat.le_of_ble_eq_true rfl) hlocks (fun t hv hz hq => ?_) hS.2.2 (Nat.le_of_ble_eq_true rfl) (Nat.le_of_ble_eq_true rfl)
    obtain ⟨h5, h6⟩ := tp_thrown hP hD hS hz hq
    exact ⟨(), trivial, ⟨rfl, h5.1.sub [] rfl, h5.2.sub [] (by decide) rfl⟩, h6⟩
set_option maxRecDepth 100000 in
set_option maxHeartbeats 4000000 in
/-- linkNumbered without links: thrown -/
theorem tm_linkNumbered (l : Launch) (hst : l.stackTraces = false) (dC : Nat → ClassId) (dI : Nat → Nat → Nat) (cy : Nat → ClassId) (a0 : Nat) (a1 : Nat) (a2 : Nat) (aT : Nat) (b1 : Nat) (b2 : Nat) (b3 : Nat) (b4 : Nat) (b5 : Nat) (b6 : Nat) (b7 : Nat) (x : Int32) (sz : Nat) : vx_Met l yX8_linkNumbered (tp_w yX8_linkNumbered cX8_linkNumbered 3 (some (.object "Turnpike$Link"))) ({ frames := 6, cells := 1, slots := 6, locals := 82 }) (va_Pc [.ref a0, .int x] (tp_Pre dC dI cy [(a0, .inr (8, [.ref a1, .ref aT])), (a1, .inr (5, [.ref a2, .ref b1, .ref b2, .ref b3, .ref b4, .ref b5, .int 0, .int 1, .int 0, .int 0, .int 0, .int 0])), (a2, .inr (2, [.ref b6, .int 0, .ref b7, .int 0]))] sz)) (va_Qv (fun _ : Unit => False) (fun (_ : Unit) (_ : State) => False) (va_A [(a0, .inr (8, [.ref a1, .ref aT])), (a1, .inr (5, [.ref a2, .ref b1, .ref b2, .ref b3, .ref b4, .ref b5, .int 0, .int 1, .int 0, .int 0, .int 0, .int 0])), (a2, .inr (2, [.ref b6, .int 0, .ref b7, .int 0]))] sz)) (vx_X (fun _ : Unit => True) (fun (E : String) (_ : Unit) (t : State) => (E = "java/lang/IndexOutOfBoundsException") ∧ tp_Post dC dI (va_A [(a0, .inr (8, [.ref a1, .ref aT])), (a1, .inr (5, [.ref a2, .ref b1, .ref b2, .ref b3, .ref b4, .ref b5, .int 0, .int 1, .int 0, .int 0, .int 0, .int 0])), (a2, .inr (2, [.ref b6, .int 0, .ref b7, .int 0]))] sz) [] t) (va_A [(a0, .inr (8, [.ref a1, .ref aT])), (a1, .inr (5, [.ref a2, .ref b1, .ref b2, .ref b3, .ref b4, .ref b5, .int 0, .int 1, .int 0, .int 0, .int 0, .int 0])), (a2, .inr (2, [.ref b6, .int 0, .ref b7, .int 0]))] sz)) 1 6 (va_A [(a0, .inr (8, [.ref a1, .ref aT])), (a1, .inr (5, [.ref a2, .ref b1, .ref b2, .ref b3, .ref b4, .ref b5, .int 0, .int 1, .int 0, .int 0, .int 0, .int 0])), (a2, .inr (2, [.ref b6, .int 0, .ref b7, .int 0]))] sz) := by
  refine vx_ofW (cc := cX8_linkNumbered) (maxL := 3) (ret := (some (.object "Turnpike$Link"))) (by decide) rfl ?_
  intro p e s m args below meth c s₁ B hml htb hv
  obtain ⟨rfl, hsz, hP, hK, hD0, hE, hZ⟩ := hv
  have hx := B.exec
  have hb := B.bytes
  have hr := B.returns
  have hts0 := atoms_spec (ws := tp_w yX8_linkNumbered cX8_linkNumbered 3 (some (.object "Turnpike$Link"))) B.pre
  have hts : ∀ w ∈ tp_all, w.before _ s = true := fun w h => hts0 w (List.mem_cons_of_mem _ h)
  have hown : s.vm.findClass RX8 = some m.cls := findClass_of_methodNamed B.named
  have hlocks := B.notSynchronized
  subst hsz
  have hD := hD0.self (sz := s.heap.size)
  generalize hAe : va_A [(a0, .inr (8, [.ref a1, .ref aT])), (a1, .inr (5, [.ref a2, .ref b1, .ref b2, .ref b3, .ref b4, .ref b5, .int 0, .int 1, .int 0, .int 0, .int 0, .int 0])), (a2, .inr (2, [.ref b6, .int 0, .ref b7, .int 0]))] s.heap.size = A at hD hZ ⊢
  have hA : ∀ q : Nat, s.heap.size ≤ q → A q := fun q h => by rw [← hAe]; exact Or.inr h
  have hS : va_S A s.heap s.heap [] := va_S.rf
  have hl9 := lv_entry ([.ref a0, .int x]) (n := 3) (Nat.le_of_ble_eq_true rfl)
  rw [lg_entry_eq]
  generalize (lg_sl ([.ref a0, .int x]) ++ List.replicate (3 - (lg_sl ([.ref a0, .int x])).length) Slot.unset).toArray = ls at hl9 ⊢
  have hl : lv_has ls 3 [(0, .ref a0), (1, .int x)] := hl9
  refine lv_aload_n hx hb dX8_linkNumbered_0 rfl (lv_at hl 0 rfl) ?_
  refine va_get (D := (dC, dI)) (ci := 8) (v := .ref a1) (C := RX8) (T := TX8) (N := 2) hx hb hts tl_X8 hown hK hP 0 rfl rfl 0 (by decide) (hts _ tw_406) (fun _ h9 => h9) rfl dX8_linkNumbered_1 ?_
  refine va_getN (D := (dC, dI)) (ci := 5) (v := .ref a2) (C := RX5) (T := TX5) (N := 12) hx hb hts tl_X5 hown hK hP 1 rfl rfl 0 (by decide) (va_Nw.use rfl (te_f60 hE)) (fun _ h9 => h9) rfl dX8_linkNumbered_4 ?_
  refine lv_iload_n hx hb dX8_linkNumbered_7 rfl (lv_at hl 1 rfl) ?_
  have hFc := va_free (wc := [(a2, .inr (2, [.ref b6, .int 0, .ref b7, .int 0]))]) hD hS hA [2] rfl
  refine va_callq (va_runV (As := [.int x]) (rest := []) ⟨hx, hb, hml, hown, hts⟩ (tm_findL l hst dC dI cy a2 b6 b7 x s.heap.size) (tp_cwV 1 hts tw_568 tw_569 tw_570 tw_40 tw_571 rfl rfl (by decide +kernel) ⟨Nat.le_of_ble_eq_true rfl, Nat.le_of_ble_eq_true rfl⟩) ⟨tp_blind, va_recv hK hP (ci := 2) (q0 := 2) rfl rfl, fun U hU hW => ⟨rfl, tp_pay hK hP hD hE hZ hS [2] (by decide) rfl hFc U hU hW⟩⟩ rfl rfl hl.1 rfl (lv_room (Nat.le_of_ble_eq_true rfl)) dX8_linkNumbered_8 ⟨(Nat.le_of_ble_eq_true rfl), (Nat.le_of_ble_eq_true rfl)⟩) hS (fun q _ h => hFc q h) hFc (fun r_1 u t H1 locs ht hvm hw hB hz1 hk1 hS => ?_)
  obtain rfl := hw
  obtain ⟨f_2, hP1, hD1⟩ := hB
  subst f_2
  rw [ht] at hP1
  obtain ⟨hP, hD⟩ := va_join (wr := [(a0, .inr (8, [.ref a1, .ref aT])), (a1, .inr (5, [.ref a2, .ref b1, .ref b2, .ref b3, .ref b4, .ref b5, .int 0, .int 1, .int 0, .int 0, .int 0, .int 0]))]) (w1 := [(a2, .inr (2, [.ref b6, .int 0, .ref b7, .int 0]))]) hP hD [2] [0, 1] rfl rfl (by decide) (by decide) hk1 hFc hP1 hD1
  generalize H1 = H at hP hS ⊢
  have hP : va_P (dC, dI) vwCl [(a0, .inr (8, [.ref a1, .ref aT])), (a1, .inr (5, [.ref a2, .ref b1, .ref b2, .ref b3, .ref b4, .ref b5, .int 0, .int 1, .int 0, .int 0, .int 0, .int 0])), (a2, .inr (2, [.ref b6, .int 0, .ref b7, .int 0]))] _ := hP
  have hD : va_D A [(a0, .inr (8, [.ref a1, .ref aT])), (a1, .inr (5, [.ref a2, .ref b1, .ref b2, .ref b3, .ref b4, .ref b5, .int 0, .int 1, .int 0, .int 0, .int 0, .int 0])), (a2, .inr (2, [.ref b6, .int 0, .ref b7, .int 0]))] := hD
  refine W.eq (g2 := F0 m 11 ls [.null]) rfl ?_
  refine lv_astore_nN (lv' := [(2, .null), (0, .ref a0), (1, .int x)]) hx hb dX8_linkNumbered_11 rfl hl (by decide) rfl (fun ls hl => ?_)
  refine lv_aload_nN hx hb dX8_linkNumbered_12 rfl (lv_at hl 0 rfl) ?_
  refine lv_ifnonnullN hx hb dX8_linkNumbered_13 ?_
  obtain ⟨sa, hsa⟩ := hE.2.2.2.2.1 _ (List.mem_of_getElem? (i := 1) rfl)
  refine vx_throwSW (own := RX8) (cls := "java/lang/IndexOutOfBoundsException") (names := tp_up) (ik := 168) (is := 354) (ic := 172) hx hb hst hown (by decide +kernel) (by decide +kernel) (hts _ tw_460) (hts _ tw_54) hsa (tt_IOB hts hE) tg_IOB hZ.1 hZ.2 hS (hl.1.trans hml.symm) dX8_linkNumbered_16 dX8_linkNumbered_19 dX8_linkNumbered_20 dX8_linkNumbered_23 dX8_linkNumbered_26 (fun x hx9 => (htb x hx9).elim)  (Nat.le_of_ble_eq_true rfl) (Nat.le_of_ble_eq_true rfl) (Nat.le_of_ble_eq_true rfl) (Nat.le_of_ble_eq_true rfl) hlocks (fun t hv hz hq => ?_) hS.2.2 (Nat.le_of_ble_eq_true rfl) (Nat.le_of_ble_eq_true rfl)
  obtain ⟨h5, h6⟩ := tp_thrown hP hD hS hz hq
  exact ⟨(), trivial, ⟨rfl, h5.1.sub [] rfl, h5.2.sub [] (by decide) rfl⟩, h6⟩
set_option maxRecDepth 100000 in
set_option maxHeartbeats 4000000 in
/-- vehicleNumbered without vehicles: thrown -/
theorem tm_vehicleNumbered (l : Launch) (hst : l.stackTraces = false) (dC : Nat → ClassId) (dI : Nat → Nat → Nat) (cy : Nat → ClassId) (a0 : Nat) (a1 : Nat) (a2 : Nat) (aT : Nat) (b1 : Nat) (b2 : Nat) (b3 : Nat) (b4 : Nat) (b5 : Nat) (b6 : Nat) (b7 : Nat) (x : Int32) (sz : Nat) : vx_Met l yX8_vehicleNumbered (tp_w yX8_vehicleNumbered cX8_vehicleNumbered 3 (some (.object "Turnpike$Vehicle"))) ({ frames := 6, cells := 1, slots := 6, locals := 82 }) (va_Pc [.ref a0, .int x] (tp_Pre dC dI cy [(a0, .inr (8, [.ref a1, .ref aT])), (a1, .inr (5, [.ref a2, .ref b1, .ref b2, .ref b3, .ref b4, .ref b5, .int 0, .int 1, .int 0, .int 0, .int 0, .int 0])), (a2, .inr (2, [.ref b6, .int 0, .ref b7, .int 0]))] sz)) (va_Qv (fun _ : Unit => False) (fun (_ : Unit) (_ : State) => False) (va_A [(a0, .inr (8, [.ref a1, .ref aT])), (a1, .inr (5, [.ref a2, .ref b1, .ref b2, .ref b3, .ref b4, .ref b5, .int 0, .int 1, .int 0, .int 0, .int 0, .int 0])), (a2, .inr (2, [.ref b6, .int 0, .ref b7, .int 0]))] sz)) (vx_X (fun _ : Unit => True) (fun (E : String) (_ : Unit) (t : State) => (E = "java/lang/IndexOutOfBoundsException") ∧ tp_Post dC dI (va_A [(a0, .inr (8, [.ref a1, .ref aT])), (a1, .inr (5, [.ref a2, .ref b1, .ref b2, .ref b3, .ref b4, .ref b5, .int 0, .int 1, .int 0, .int 0, .int 0, .int 0])), (a2, .inr (2, [.ref b6, .int 0, .ref b7, .int 0]))] sz) [] t) (va_A [(a0, .inr (8, [.ref a1, .ref aT])), (a1, .inr (5, [.ref a2, .ref b1, .ref b2, .ref b3, .ref b4, .ref b5, .int 0, .int 1, .int 0, .int 0, .int 0, .int 0])), (a2, .inr (2, [.ref b6, .int 0, .ref b7, .int 0]))] sz)) 1 6 (va_A [(a0, .inr (8, [.ref a1, .ref aT])), (a1, .inr (5, [.ref a2, .ref b1, .ref b2, .ref b3, .ref b4, .ref b5, .int 0, .int 1, .int 0, .int 0, .int 0, .int 0])), (a2, .inr (2, [.ref b6, .int 0, .ref b7, .int 0]))] sz) := by
  refine vx_ofW (cc := cX8_vehicleNumbered) (maxL := 3) (ret := (some (.object "Turnpike$Vehicle"))) (by decide) rfl ?_
  intro p e s m args below meth c s₁ B hml htb hv
  obtain ⟨rfl, hsz, hP, hK, hD0, hE, hZ⟩ := hv
  have hx := B.exec
  have hb := B.bytes
  have hr := B.returns
  have hts0 := atoms_spec (ws := tp_w yX8_vehicleNumbered cX8_vehicleNumbered 3 (some (.object "Turnpike$Vehicle"))) B.pre
  have hts : ∀ w ∈ tp_all, w.before _ s = true := fun w h => hts0 w (List.mem_cons_of_mem _ h)
  have hown : s.vm.findClass RX8 = some m.cls := findClass_of_methodNamed B.named
  have hlocks := B.notSynchronized
  subst hsz
  have hD := hD0.self (sz := s.heap.size)
  generalize hAe : va_A [(a0, .inr (8, [.ref a1, .ref aT])), (a1, .inr (5, [.ref a2, .ref b1, .ref b2, .ref b3, .ref b4, .ref b5, .int 0, .int 1, .int 0, .int 0, .int 0, .int 0])), (a2, .inr (2, [.ref b6, .int 0, .ref b7, .int 0]))] s.heap.size = A at hD hZ ⊢
  have hA : ∀ q : Nat, s.heap.size ≤ q → A q := fun q h => by rw [← hAe]; exact Or.inr h
  have hS : va_S A s.heap s.heap [] := va_S.rf
  have hl9 := lv_entry ([.ref a0, .int x]) (n := 3) (Nat.le_of_ble_eq_true rfl)
  rw [lg_entry_eq]
  generalize (lg_sl ([.ref a0, .int x]) ++ List.replicate (3 - (lg_sl ([.ref a0, .int x])).length) Slot.unset).toArray = ls at hl9 ⊢
  have hl : lv_has ls 3 [(0, .ref a0), (1, .int x)] := hl9
  refine lv_aload_n hx hb dX8_vehicleNumbered_0 rfl (lv_at hl 0 rfl) ?_
  refine va_get (D := (dC, dI)) (ci := 8) (v := .ref a1) (C := RX8) (T := TX8) (N := 2) hx hb hts tl_X8 hown hK hP 0 rfl rfl 0 (by decide) (hts _ tw_406) (fun _ h9 => h9) rfl dX8_vehicleNumbered_1 ?_
  refine lv_iload_n hx hb dX8_vehicleNumbered_4 rfl (lv_at hl 1 rfl) ?_
  have hFc := va_free (wc := [(a1, .inr (5, [.ref a2, .ref b1, .ref b2, .ref b3, .ref b4, .ref b5, .int 0, .int 1, .int 0, .int 0, .int 0, .int 0]))]) hD hS hA [1] rfl
  refine va_callq (va_runV (As := [.int x]) (rest := []) ⟨hx, hb, hml, hown, hts⟩ (tm_findV l hst dC dI cy a1 a2 b1 b2 b3 b4 b5 x s.heap.size) (tp_cwV 1 hts tw_648 tw_649 tw_650 tw_39 tw_651 rfl rfl (by decide +kernel) ⟨Nat.le_of_ble_eq_true rfl, Nat.le_of_ble_eq_true rfl⟩) ⟨tp_blind, va_recv hK hP (ci := 5) (q0 := 1) rfl rfl, fun U hU hW => ⟨rfl, tp_pay hK hP hD hE hZ hS [1] (by decide) rfl hFc U hU hW⟩⟩ rfl rfl hl.1 rfl (lv_room (Nat.le_of_ble_eq_true rfl)) dX8_vehicleNumbered_5 ⟨(Nat.le_of_ble_eq_true rfl), (Nat.le_of_ble_eq_true rfl)⟩) hS (fun q _ h => hFc q h) hFc (fun r_1 u t H1 locs ht hvm hw hB hz1 hk1 hS => ?_)
  obtain rfl := hw
  obtain ⟨f_2, hP1, hD1⟩ := hB
  subst f_2
  rw [ht] at hP1
  obtain ⟨hP, hD⟩ := va_join (wr := [(a0, .inr (8, [.ref a1, .ref aT])), (a2, .inr (2, [.ref b6, .int 0, .ref b7, .int 0]))]) (w1 := [(a1, .inr (5, [.ref a2, .ref b1, .ref b2, .ref b3, .ref b4, .ref b5, .int 0, .int 1, .int 0, .int 0, .int 0, .int 0]))]) hP hD [1] [0, 2] rfl rfl (by decide) (by decide) hk1 hFc hP1 hD1
  generalize H1 = H at hP hS ⊢
  have hP : va_P (dC, dI) vwCl [(a0, .inr (8, [.ref a1, .ref aT])), (a2, .inr (2, [.ref b6, .int 0, .ref b7, .int 0])), (a1, .inr (5, [.ref a2, .ref b1, .ref b2, .ref b3, .ref b4, .ref b5, .int 0, .int 1, .int 0, .int 0, .int 0, .int 0]))] _ := hP
  have hD : va_D A [(a0, .inr (8, [.ref a1, .ref aT])), (a2, .inr (2, [.ref b6, .int 0, .ref b7, .int 0])), (a1, .inr (5, [.ref a2, .ref b1, .ref b2, .ref b3, .ref b4, .ref b5, .int 0, .int 1, .int 0, .int 0, .int 0, .int 0]))] := hD
  refine W.eq (g2 := F0 m 8 ls [.null]) rfl ?_
  refine lv_astore_nN (lv' := [(2, .null), (0, .ref a0), (1, .int x)]) hx hb dX8_vehicleNumbered_8 rfl hl (by decide) rfl (fun ls hl => ?_)
  refine lv_aload_nN hx hb dX8_vehicleNumbered_9 rfl (lv_at hl 0 rfl) ?_
  refine lv_ifnonnullN hx hb dX8_vehicleNumbered_10 ?_
  obtain ⟨sa, hsa⟩ := hE.2.2.2.2.1 _ (List.mem_of_getElem? (i := 5) rfl)
  refine vx_throwSW (own := RX8) (cls := "java/lang/IndexOutOfBoundsException") (names := tp_up) (ik := 168) (is := 358) (ic := 172) hx hb hst hown (by decide +kernel) (by decide +kernel) (hts _ tw_460) (hts _ tw_54) hsa (tt_IOB hts hE) tg_IOB hZ.1 hZ.2 hS (hl.1.trans hml.symm) dX8_vehicleNumbered_13 dX8_vehicleNumbered_16 dX8_vehicleNumbered_17 dX8_vehicleNumbered_20 dX8_vehicleNumbered_23 (fun x hx9 => (htb x hx9).elim)  (Nat.le_of_ble_eq_true rfl) (Nat.le_of_ble_eq_true rfl) (Nat.le_of_ble_eq_true rfl) (Nat.le_of_ble_eq_true rfl) hlocks (fun t hv hz hq => ?_) hS.2.2 (Nat.le_of_ble_eq_true rfl) (Nat.le_of_ble_eq_true rfl)
  obtain ⟨h5, h6⟩ := tp_thrown hP hD hS hz hq
  exact ⟨(), trivial, ⟨rfl, h5.1.sub [] rfl, h5.2.sub [] (by decide) rfl⟩, h6⟩
set_option maxRecDepth 100000 in
set_option maxHeartbeats 4000000 in
/-- addLink on a new object: IndexOutOfBoundsException -/
theorem tm_addLink (l : Launch) (hst : l.stackTraces = false) (dC : Nat → ClassId) (dI : Nat → Nat → Nat) (cy : Nat → ClassId) (a0 : Nat) (a1 : Nat) (a2 : Nat) (aT : Nat) (b1 : Nat) (b2 : Nat) (b3 : Nat) (b4 : Nat) (b5 : Nat) (b6 : Nat) (b7 : Nat) (p1 : Int32) (p2 : Int32) (p3 : Int32) (p4 : Int32) (p5 : Int32) (sz : Nat) : vx_Met l yX8_addLink (tp_w yX8_addLink cX8_addLink 6 (some .int)) ({ frames := 7, cells := 1, slots := 6, locals := 103 }) (va_Pc [.ref a0, .int p1, .int p2, .int p3, .int p4, .int p5] (tp_Pre dC dI cy [(a0, .inr (8, [.ref a1, .ref aT])), (a1, .inr (5, [.ref a2, .ref b1, .ref b2, .ref b3, .ref b4, .ref b5, .int 0, .int 1, .int 0, .int 0, .int 0, .int 0])), (a2, .inr (2, [.ref b6, .int 0, .ref b7, .int 0]))] sz)) (va_Qv (fun _ : Unit => False) (fun (_ : Unit) (_ : State) => False) (va_A [(a0, .inr (8, [.ref a1, .ref aT])), (a1, .inr (5, [.ref a2, .ref b1, .ref b2, .ref b3, .ref b4, .ref b5, .int 0, .int 1, .int 0, .int 0, .int 0, .int 0])), (a2, .inr (2, [.ref b6, .int 0, .ref b7, .int 0]))] sz)) (vx_X (fun _ : Unit => True) (fun (E : String) (_ : Unit) (t : State) => (E = "java/lang/IndexOutOfBoundsException") ∧ tp_Post dC dI (va_A [(a0, .inr (8, [.ref a1, .ref aT])), (a1, .inr (5, [.ref a2, .ref b1, .ref b2, .ref b3, .ref b4, .ref b5, .int 0, .int 1, .int 0, .int 0, .int 0, .int 0])), (a2, .inr (2, [.ref b6, .int 0, .ref b7, .int 0]))] sz) [] t) (va_A [(a0, .inr (8, [.ref a1, .ref aT])), (a1, .inr (5, [.ref a2, .ref b1, .ref b2, .ref b3, .ref b4, .ref b5, .int 0, .int 1, .int 0, .int 0, .int 0, .int 0])), (a2, .inr (2, [.ref b6, .int 0, .ref b7, .int 0]))] sz)) 1 6 (va_A [(a0, .inr (8, [.ref a1, .ref aT])), (a1, .inr (5, [.ref a2, .ref b1, .ref b2, .ref b3, .ref b4, .ref b5, .int 0, .int 1, .int 0, .int 0, .int 0, .int 0])), (a2, .inr (2, [.ref b6, .int 0, .ref b7, .int 0]))] sz) := by
  refine vx_ofW (cc := cX8_addLink) (maxL := 6) (ret := (some .int)) (by decide) rfl ?_
  intro p e s m args below meth c s₁ B hml htb hv
  obtain ⟨rfl, hsz, hP, hK, hD0, hE, hZ⟩ := hv
  have hx := B.exec
  have hb := B.bytes
  have hr := B.returns
  have hts0 := atoms_spec (ws := tp_w yX8_addLink cX8_addLink 6 (some .int)) B.pre
  have hts : ∀ w ∈ tp_all, w.before _ s = true := fun w h => hts0 w (List.mem_cons_of_mem _ h)
  have hown : s.vm.findClass RX8 = some m.cls := findClass_of_methodNamed B.named
  have hlocks := B.notSynchronized
  subst hsz
  have hD := hD0.self (sz := s.heap.size)
  generalize hAe : va_A [(a0, .inr (8, [.ref a1, .ref aT])), (a1, .inr (5, [.ref a2, .ref b1, .ref b2, .ref b3, .ref b4, .ref b5, .int 0, .int 1, .int 0, .int 0, .int 0, .int 0])), (a2, .inr (2, [.ref b6, .int 0, .ref b7, .int 0]))] s.heap.size = A at hD hZ ⊢
  have hA : ∀ q : Nat, s.heap.size ≤ q → A q := fun q h => by rw [← hAe]; exact Or.inr h
  have hS : va_S A s.heap s.heap [] := va_S.rf
  have hl9 := lv_entry ([.ref a0, .int p1, .int p2, .int p3, .int p4, .int p5]) (n := 6) (Nat.le_of_ble_eq_true rfl)
  rw [lg_entry_eq]
  generalize (lg_sl ([.ref a0, .int p1, .int p2, .int p3, .int p4, .int p5]) ++ List.replicate (6 - (lg_sl ([.ref a0, .int p1, .int p2, .int p3, .int p4, .int p5])).length) Slot.unset).toArray = ls at hl9 ⊢
  have hl : lv_has ls 6 [(0, .ref a0), (1, .int p1), (2, .int p2), (3, .int p3), (4, .int p4), (5, .int p5)] := hl9
  refine lv_aload_n hx hb dX8_addLink_0 rfl (lv_at hl 0 rfl) ?_
  refine lv_iload_n hx hb dX8_addLink_1 rfl (lv_at hl 1 rfl) ?_
  have hFc := va_free (wc := [(a0, .inr (8, [.ref a1, .ref aT])), (a1, .inr (5, [.ref a2, .ref b1, .ref b2, .ref b3, .ref b4, .ref b5, .int 0, .int 1, .int 0, .int 0, .int 0, .int 0])), (a2, .inr (2, [.ref b6, .int 0, .ref b7, .int 0]))]) hD hS hA [0, 1, 2] rfl
  refine vx_callv (vx_runV (As := [.int p1]) (rest := []) ⟨hx, hb, hml, hown, hts⟩ (tm_checkNode l hst dC dI cy a0 a1 a2 aT b1 b2 b3 b4 b5 b6 b7 p1 s.heap.size) (tp_cwV 1 hts tw_456 tw_458 tw_1 tw_38 tw_459 rfl rfl (by decide +kernel) ⟨Nat.le_of_ble_eq_true rfl, Nat.le_of_ble_eq_true rfl⟩) ⟨tp_blind, va_recv hK hP (ci := 8) (q0 := 0) rfl rfl, fun U hU hW => ⟨rfl, tp_pay hK hP hD hE hZ hS [0, 1, 2] (by decide) rfl hFc U hU hW⟩⟩ rfl rfl hl.1 rfl (lv_room (Nat.le_of_ble_eq_true rfl)) dX8_addLink_2 ⟨(Nat.le_of_ble_eq_true rfl), (Nat.le_of_ble_eq_true rfl)⟩) hS (fun q _ h => hFc q h) hFc (fun q _ h => hFc q h) (fun E9 ce q9 u t H1 locs ht hvm hw hB hz1 hk1 hS hce hcv hcl => ?_) (fun u t H1 locs ht hvm hw hB hz1 hk1 hS => ?_)
  · obtain ⟨rfl, hP1, hD1⟩ := hB
    rw [ht] at hP1
    obtain ⟨hP, hD⟩ := va_join (wr := []) (w1 := []) hP hD [0, 1, 2] [] rfl rfl (by decide) (by decide) hk1 hFc hP1 hD1
    generalize H1 = H at hP hS hce ⊢
    have hP : va_P (dC, dI) vwCl [] _ := hP
    have hD : va_D A [] := hD
    refine vx_widen (k := 1) (n := 6) (Nat.le_of_ble_eq_true rfl) (Nat.le_of_ble_eq_true rfl) ?_
    exact vx_out (fun x hx9 => (htb x hx9).elim) hlocks hce hcv hcl (fun t ht hv => ⟨(), trivial, ⟨rfl, by rw [ht]; exact hP.sub [] rfl, hD.sub [] (by decide) rfl⟩, hS.F ht⟩) hS.2.2 (Nat.le_refl _) (Nat.le_refl _)
  · exact hw.elim
set_option maxRecDepth 100000 in
set_option maxHeartbeats 4000000 in
/-- addPhase on a new object: IndexOutOfBoundsException -/
theorem tm_addPhase (l : Launch) (hst : l.stackTraces = false) (dC : Nat → ClassId) (dI : Nat → Nat → Nat) (cy : Nat → ClassId) (a0 : Nat) (a1 : Nat) (a2 : Nat) (aT : Nat) (b1 : Nat) (b2 : Nat) (b3 : Nat) (b4 : Nat) (b5 : Nat) (b6 : Nat) (b7 : Nat) (p1 : Int32) (p2 : Int32) (p3 : Int32) (p4 : Int32) (sz : Nat) : vx_Met l yX8_addPhase (tp_w yX8_addPhase cX8_addPhase 6 (some .int)) ({ frames := 7, cells := 1, slots := 6, locals := 103 }) (va_Pc [.ref a0, .int p1, .int p2, .int p3, .int p4] (tp_Pre dC dI cy [(a0, .inr (8, [.ref a1, .ref aT])), (a1, .inr (5, [.ref a2, .ref b1, .ref b2, .ref b3, .ref b4, .ref b5, .int 0, .int 1, .int 0, .int 0, .int 0, .int 0])), (a2, .inr (2, [.ref b6, .int 0, .ref b7, .int 0]))] sz)) (va_Qv (fun _ : Unit => False) (fun (_ : Unit) (_ : State) => False) (va_A [(a0, .inr (8, [.ref a1, .ref aT])), (a1, .inr (5, [.ref a2, .ref b1, .ref b2, .ref b3, .ref b4, .ref b5, .int 0, .int 1, .int 0, .int 0, .int 0, .int 0])), (a2, .inr (2, [.ref b6, .int 0, .ref b7, .int 0]))] sz)) (vx_X (fun _ : Unit => True) (fun (E : String) (_ : Unit) (t : State) => (E = "java/lang/IndexOutOfBoundsException") ∧ tp_Post dC dI (va_A [(a0, .inr (8, [.ref a1, .ref aT])), (a1, .inr (5, [.ref a2, .ref b1, .ref b2, .ref b3, .ref b4, .ref b5, .int 0, .int 1, .int 0, .int 0, .int 0, .int 0])), (a2, .inr (2, [.ref b6, .int 0, .ref b7, .int 0]))] sz) [] t) (va_A [(a0, .inr (8, [.ref a1, .ref aT])), (a1, .inr (5, [.ref a2, .ref b1, .ref b2, .ref b3, .ref b4, .ref b5, .int 0, .int 1, .int 0, .int 0, .int 0, .int 0])), (a2, .inr (2, [.ref b6, .int 0, .ref b7, .int 0]))] sz)) 1 6 (va_A [(a0, .inr (8, [.ref a1, .ref aT])), (a1, .inr (5, [.ref a2, .ref b1, .ref b2, .ref b3, .ref b4, .ref b5, .int 0, .int 1, .int 0, .int 0, .int 0, .int 0])), (a2, .inr (2, [.ref b6, .int 0, .ref b7, .int 0]))] sz) := by
  refine vx_ofW (cc := cX8_addPhase) (maxL := 6) (ret := (some .int)) (by decide) rfl ?_
  intro p e s m args below meth c s₁ B hml htb hv
  obtain ⟨rfl, hsz, hP, hK, hD0, hE, hZ⟩ := hv
  have hx := B.exec
  have hb := B.bytes
  have hr := B.returns
  have hts0 := atoms_spec (ws := tp_w yX8_addPhase cX8_addPhase 6 (some .int)) B.pre
  have hts : ∀ w ∈ tp_all, w.before _ s = true := fun w h => hts0 w (List.mem_cons_of_mem _ h)
  have hown : s.vm.findClass RX8 = some m.cls := findClass_of_methodNamed B.named
  have hlocks := B.notSynchronized
  subst hsz
  have hD := hD0.self (sz := s.heap.size)
  generalize hAe : va_A [(a0, .inr (8, [.ref a1, .ref aT])), (a1, .inr (5, [.ref a2, .ref b1, .ref b2, .ref b3, .ref b4, .ref b5, .int 0, .int 1, .int 0, .int 0, .int 0, .int 0])), (a2, .inr (2, [.ref b6, .int 0, .ref b7, .int 0]))] s.heap.size = A at hD hZ ⊢
  have hA : ∀ q : Nat, s.heap.size ≤ q → A q := fun q h => by rw [← hAe]; exact Or.inr h
  have hS : va_S A s.heap s.heap [] := va_S.rf
  have hl9 := lv_entry ([.ref a0, .int p1, .int p2, .int p3, .int p4]) (n := 6) (Nat.le_of_ble_eq_true rfl)
  rw [lg_entry_eq]
  generalize (lg_sl ([.ref a0, .int p1, .int p2, .int p3, .int p4]) ++ List.replicate (6 - (lg_sl ([.ref a0, .int p1, .int p2, .int p3, .int p4])).length) Slot.unset).toArray = ls at hl9 ⊢
  have hl : lv_has ls 6 [(0, .ref a0), (1, .int p1), (2, .int p2), (3, .int p3), (4, .int p4)] := hl9
  refine lv_aload_n hx hb dX8_addPhase_0 rfl (lv_at hl 0 rfl) ?_
  refine lv_iload_n hx hb dX8_addPhase_1 rfl (lv_at hl 1 rfl) ?_
  have hFc := va_free (wc := [(a0, .inr (8, [.ref a1, .ref aT])), (a1, .inr (5, [.ref a2, .ref b1, .ref b2, .ref b3, .ref b4, .ref b5, .int 0, .int 1, .int 0, .int 0, .int 0, .int 0])), (a2, .inr (2, [.ref b6, .int 0, .ref b7, .int 0]))]) hD hS hA [0, 1, 2] rfl
  refine vx_callv (vx_runV (As := [.int p1]) (rest := []) ⟨hx, hb, hml, hown, hts⟩ (tm_checkNode l hst dC dI cy a0 a1 a2 aT b1 b2 b3 b4 b5 b6 b7 p1 s.heap.size) (tp_cwV 1 hts tw_456 tw_458 tw_1 tw_38 tw_459 rfl rfl (by decide +kernel) ⟨Nat.le_of_ble_eq_true rfl, Nat.le_of_ble_eq_true rfl⟩) ⟨tp_blind, va_recv hK hP (ci := 8) (q0 := 0) rfl rfl, fun U hU hW => ⟨rfl, tp_pay hK hP hD hE hZ hS [0, 1, 2] (by decide) rfl hFc U hU hW⟩⟩ rfl rfl hl.1 rfl (lv_room (Nat.le_of_ble_eq_true rfl)) dX8_addPhase_2 ⟨(Nat.le_of_ble_eq_true rfl), (Nat.le_of_ble_eq_true rfl)⟩) hS (fun q _ h => hFc q h) hFc (fun q _ h => hFc q h) (fun E9 ce q9 u t H1 locs ht hvm hw hB hz1 hk1 hS hce hcv hcl => ?_) (fun u t H1 locs ht hvm hw hB hz1 hk1 hS => ?_)
  · obtain ⟨rfl, hP1, hD1⟩ := hB
    rw [ht] at hP1
    obtain ⟨hP, hD⟩ := va_join (wr := []) (w1 := []) hP hD [0, 1, 2] [] rfl rfl (by decide) (by decide) hk1 hFc hP1 hD1
    generalize H1 = H at hP hS hce ⊢
    have hP : va_P (dC, dI) vwCl [] _ := hP
    have hD : va_D A [] := hD
    refine vx_widen (k := 1) (n := 6) (Nat.le_of_ble_eq_true rfl) (Nat.le_of_ble_eq_true rfl) ?_
    exact vx_out (fun x hx9 => (htb x hx9).elim) hlocks hce hcv hcl (fun t ht hv => ⟨(), trivial, ⟨rfl, by rw [ht]; exact hP.sub [] rfl, hD.sub [] (by decide) rfl⟩, hS.F ht⟩) hS.2.2 (Nat.le_refl _) (Nat.le_refl _)
  · exact hw.elim
set_option maxRecDepth 100000 in
set_option maxHeartbeats 4000000 in
/-- dropSignal on a new object: IndexOutOfBoundsException -/
theorem tm_dropSignal (l : Launch) (hst : l.stackTraces = false) (dC : Nat → ClassId) (dI : Nat → Nat → Nat) (cy : Nat → ClassId) (a0 : Nat) (a1 : Nat) (a2 : Nat) (aT : Nat) (b1 : Nat) (b2 : Nat) (b3 : Nat) (b4 : Nat) (b5 : Nat) (b6 : Nat) (b7 : Nat) (p1 : Int32) (sz : Nat) : vx_Met l yX8_dropSignal (tp_w yX8_dropSignal cX8_dropSignal 4 (some .int)) ({ frames := 7, cells := 1, slots := 6, locals := 103 }) (va_Pc [.ref a0, .int p1] (tp_Pre dC dI cy [(a0, .inr (8, [.ref a1, .ref aT])), (a1, .inr (5, [.ref a2, .ref b1, .ref b2, .ref b3, .ref b4, .ref b5, .int 0, .int 1, .int 0, .int 0, .int 0, .int 0])), (a2, .inr (2, [.ref b6, .int 0, .ref b7, .int 0]))] sz)) (va_Qv (fun _ : Unit => False) (fun (_ : Unit) (_ : State) => False) (va_A [(a0, .inr (8, [.ref a1, .ref aT])), (a1, .inr (5, [.ref a2, .ref b1, .ref b2, .ref b3, .ref b4, .ref b5, .int 0, .int 1, .int 0, .int 0, .int 0, .int 0])), (a2, .inr (2, [.ref b6, .int 0, .ref b7, .int 0]))] sz)) (vx_X (fun _ : Unit => True) (fun (E : String) (_ : Unit) (t : State) => (E = "java/lang/IndexOutOfBoundsException") ∧ tp_Post dC dI (va_A [(a0, .inr (8, [.ref a1, .ref aT])), (a1, .inr (5, [.ref a2, .ref b1, .ref b2, .ref b3, .ref b4, .ref b5, .int 0, .int 1, .int 0, .int 0, .int 0, .int 0])), (a2, .inr (2, [.ref b6, .int 0, .ref b7, .int 0]))] sz) [] t) (va_A [(a0, .inr (8, [.ref a1, .ref aT])), (a1, .inr (5, [.ref a2, .ref b1, .ref b2, .ref b3, .ref b4, .ref b5, .int 0, .int 1, .int 0, .int 0, .int 0, .int 0])), (a2, .inr (2, [.ref b6, .int 0, .ref b7, .int 0]))] sz)) 1 6 (va_A [(a0, .inr (8, [.ref a1, .ref aT])), (a1, .inr (5, [.ref a2, .ref b1, .ref b2, .ref b3, .ref b4, .ref b5, .int 0, .int 1, .int 0, .int 0, .int 0, .int 0])), (a2, .inr (2, [.ref b6, .int 0, .ref b7, .int 0]))] sz) := by
  refine vx_ofW (cc := cX8_dropSignal) (maxL := 4) (ret := (some .int)) (by decide) rfl ?_
  intro p e s m args below meth c s₁ B hml htb hv
  obtain ⟨rfl, hsz, hP, hK, hD0, hE, hZ⟩ := hv
  have hx := B.exec
  have hb := B.bytes
  have hr := B.returns
  have hts0 := atoms_spec (ws := tp_w yX8_dropSignal cX8_dropSignal 4 (some .int)) B.pre
  have hts : ∀ w ∈ tp_all, w.before _ s = true := fun w h => hts0 w (List.mem_cons_of_mem _ h)
  have hown : s.vm.findClass RX8 = some m.cls := findClass_of_methodNamed B.named
  have hlocks := B.notSynchronized
  subst hsz
  have hD := hD0.self (sz := s.heap.size)
  generalize hAe : va_A [(a0, .inr (8, [.ref a1, .ref aT])), (a1, .inr (5, [.ref a2, .ref b1, .ref b2, .ref b3, .ref b4, .ref b5, .int 0, .int 1, .int 0, .int 0, .int 0, .int 0])), (a2, .inr (2, [.ref b6, .int 0, .ref b7, .int 0]))] s.heap.size = A at hD hZ ⊢
  have hA : ∀ q : Nat, s.heap.size ≤ q → A q := fun q h => by rw [← hAe]; exact Or.inr h
  have hS : va_S A s.heap s.heap [] := va_S.rf
  have hl9 := lv_entry ([.ref a0, .int p1]) (n := 4) (Nat.le_of_ble_eq_true rfl)
  rw [lg_entry_eq]
  generalize (lg_sl ([.ref a0, .int p1]) ++ List.replicate (4 - (lg_sl ([.ref a0, .int p1])).length) Slot.unset).toArray = ls at hl9 ⊢
  have hl : lv_has ls 4 [(0, .ref a0), (1, .int p1)] := hl9
  refine lv_aload_n hx hb dX8_dropSignal_0 rfl (lv_at hl 0 rfl) ?_
  refine lv_iload_n hx hb dX8_dropSignal_1 rfl (lv_at hl 1 rfl) ?_
  have hFc := va_free (wc := [(a0, .inr (8, [.ref a1, .ref aT])), (a1, .inr (5, [.ref a2, .ref b1, .ref b2, .ref b3, .ref b4, .ref b5, .int 0, .int 1, .int 0, .int 0, .int 0, .int 0])), (a2, .inr (2, [.ref b6, .int 0, .ref b7, .int 0]))]) hD hS hA [0, 1, 2] rfl
  refine vx_callv (vx_runV (As := [.int p1]) (rest := []) ⟨hx, hb, hml, hown, hts⟩ (tm_checkNode l hst dC dI cy a0 a1 a2 aT b1 b2 b3 b4 b5 b6 b7 p1 s.heap.size) (tp_cwV 1 hts tw_456 tw_458 tw_1 tw_38 tw_459 rfl rfl (by decide +kernel) ⟨Nat.le_of_ble_eq_true rfl, Nat.le_of_ble_eq_true rfl⟩) ⟨tp_blind, va_recv hK hP (ci := 8) (q0 := 0) rfl rfl, fun U hU hW => ⟨rfl, tp_pay hK hP hD hE hZ hS [0, 1, 2] (by decide) rfl hFc U hU hW⟩⟩ rfl rfl hl.1 rfl (lv_room (Nat.le_of_ble_eq_true rfl)) dX8_dropSignal_2 ⟨(Nat.le_of_ble_eq_true rfl), (Nat.le_of_ble_eq_true rfl)⟩) hS (fun q _ h => hFc q h) hFc (fun q _ h => hFc q h) (fun E9 ce q9 u t H1 locs ht hvm hw hB hz1 hk1 hS hce hcv hcl => ?_) (fun u t H1 locs ht hvm hw hB hz1 hk1 hS => ?_)
  · obtain ⟨rfl, hP1, hD1⟩ := hB
    rw [ht] at hP1
    obtain ⟨hP, hD⟩ := va_join (wr := []) (w1 := []) hP hD [0, 1, 2] [] rfl rfl (by decide) (by decide) hk1 hFc hP1 hD1
    generalize H1 = H at hP hS hce ⊢
    have hP : va_P (dC, dI) vwCl [] _ := hP
    have hD : va_D A [] := hD
    refine vx_widen (k := 1) (n := 6) (Nat.le_of_ble_eq_true rfl) (Nat.le_of_ble_eq_true rfl) ?_
    exact vx_out (fun x hx9 => (htb x hx9).elim) hlocks hce hcv hcl (fun t ht hv => ⟨(), trivial, ⟨rfl, by rw [ht]; exact hP.sub [] rfl, hD.sub [] (by decide) rfl⟩, hS.F ht⟩) hS.2.2 (Nat.le_refl _) (Nat.le_refl _)
  · exact hw.elim
set_option maxRecDepth 100000 in
set_option maxHeartbeats 4000000 in
/-- shut on a new object: IndexOutOfBoundsException -/
theorem tm_shut (l : Launch) (hst : l.stackTraces = false) (dC : Nat → ClassId) (dI : Nat → Nat → Nat) (cy : Nat → ClassId) (a0 : Nat) (a1 : Nat) (a2 : Nat) (aT : Nat) (b1 : Nat) (b2 : Nat) (b3 : Nat) (b4 : Nat) (b5 : Nat) (b6 : Nat) (b7 : Nat) (p1 : Int32) (p2 : Int32) (sz : Nat) : vx_Met l yX8_shut (tp_w yX8_shut cX8_shut 5 (some .boolean)) ({ frames := 7, cells := 1, slots := 6, locals := 104 }) (va_Pc [.ref a0, .int p1, .int p2] (tp_Pre dC dI cy [(a0, .inr (8, [.ref a1, .ref aT])), (a1, .inr (5, [.ref a2, .ref b1, .ref b2, .ref b3, .ref b4, .ref b5, .int 0, .int 1, .int 0, .int 0, .int 0, .int 0])), (a2, .inr (2, [.ref b6, .int 0, .ref b7, .int 0]))] sz)) (va_Qv (fun _ : Unit => False) (fun (_ : Unit) (_ : State) => False) (va_A [(a0, .inr (8, [.ref a1, .ref aT])), (a1, .inr (5, [.ref a2, .ref b1, .ref b2, .ref b3, .ref b4, .ref b5, .int 0, .int 1, .int 0, .int 0, .int 0, .int 0])), (a2, .inr (2, [.ref b6, .int 0, .ref b7, .int 0]))] sz)) (vx_X (fun _ : Unit => True) (fun (E : String) (_ : Unit) (t : State) => (E = "java/lang/IndexOutOfBoundsException") ∧ tp_Post dC dI (va_A [(a0, .inr (8, [.ref a1, .ref aT])), (a1, .inr (5, [.ref a2, .ref b1, .ref b2, .ref b3, .ref b4, .ref b5, .int 0, .int 1, .int 0, .int 0, .int 0, .int 0])), (a2, .inr (2, [.ref b6, .int 0, .ref b7, .int 0]))] sz) [] t) (va_A [(a0, .inr (8, [.ref a1, .ref aT])), (a1, .inr (5, [.ref a2, .ref b1, .ref b2, .ref b3, .ref b4, .ref b5, .int 0, .int 1, .int 0, .int 0, .int 0, .int 0])), (a2, .inr (2, [.ref b6, .int 0, .ref b7, .int 0]))] sz)) 1 6 (va_A [(a0, .inr (8, [.ref a1, .ref aT])), (a1, .inr (5, [.ref a2, .ref b1, .ref b2, .ref b3, .ref b4, .ref b5, .int 0, .int 1, .int 0, .int 0, .int 0, .int 0])), (a2, .inr (2, [.ref b6, .int 0, .ref b7, .int 0]))] sz) := by
  refine vx_ofW (cc := cX8_shut) (maxL := 5) (ret := (some .boolean)) (by decide) rfl ?_
  intro p e s m args below meth c s₁ B hml htb hv
  obtain ⟨rfl, hsz, hP, hK, hD0, hE, hZ⟩ := hv
  have hx := B.exec
  have hb := B.bytes
  have hr := B.returns
  have hts0 := atoms_spec (ws := tp_w yX8_shut cX8_shut 5 (some .boolean)) B.pre
  have hts : ∀ w ∈ tp_all, w.before _ s = true := fun w h => hts0 w (List.mem_cons_of_mem _ h)
  have hown : s.vm.findClass RX8 = some m.cls := findClass_of_methodNamed B.named
  have hlocks := B.notSynchronized
  subst hsz
  have hD := hD0.self (sz := s.heap.size)
  generalize hAe : va_A [(a0, .inr (8, [.ref a1, .ref aT])), (a1, .inr (5, [.ref a2, .ref b1, .ref b2, .ref b3, .ref b4, .ref b5, .int 0, .int 1, .int 0, .int 0, .int 0, .int 0])), (a2, .inr (2, [.ref b6, .int 0, .ref b7, .int 0]))] s.heap.size = A at hD hZ ⊢
  have hA : ∀ q : Nat, s.heap.size ≤ q → A q := fun q h => by rw [← hAe]; exact Or.inr h
  have hS : va_S A s.heap s.heap [] := va_S.rf
  have hl9 := lv_entry ([.ref a0, .int p1, .int p2]) (n := 5) (Nat.le_of_ble_eq_true rfl)
  rw [lg_entry_eq]
  generalize (lg_sl ([.ref a0, .int p1, .int p2]) ++ List.replicate (5 - (lg_sl ([.ref a0, .int p1, .int p2])).length) Slot.unset).toArray = ls at hl9 ⊢
  have hl : lv_has ls 5 [(0, .ref a0), (1, .int p1), (2, .int p2)] := hl9
  refine lv_aload_n hx hb dX8_shut_0 rfl (lv_at hl 0 rfl) ?_
  refine lv_iload_n hx hb dX8_shut_1 rfl (lv_at hl 1 rfl) ?_
  have hFc := va_free (wc := [(a0, .inr (8, [.ref a1, .ref aT])), (a1, .inr (5, [.ref a2, .ref b1, .ref b2, .ref b3, .ref b4, .ref b5, .int 0, .int 1, .int 0, .int 0, .int 0, .int 0])), (a2, .inr (2, [.ref b6, .int 0, .ref b7, .int 0]))]) hD hS hA [0, 1, 2] rfl
  refine vx_callv (vx_runV (As := [.int p1]) (rest := []) ⟨hx, hb, hml, hown, hts⟩ (tm_linkNumbered l hst dC dI cy a0 a1 a2 aT b1 b2 b3 b4 b5 b6 b7 p1 s.heap.size) (tp_cwV 1 hts tw_564 tw_566 tw_4 tw_38 tw_567 rfl rfl (by decide +kernel) ⟨Nat.le_of_ble_eq_true rfl, Nat.le_of_ble_eq_true rfl⟩) ⟨tp_blind, va_recv hK hP (ci := 8) (q0 := 0) rfl rfl, fun U hU hW => ⟨rfl, tp_pay hK hP hD hE hZ hS [0, 1, 2] (by decide) rfl hFc U hU hW⟩⟩ rfl rfl hl.1 rfl (lv_room (Nat.le_of_ble_eq_true rfl)) dX8_shut_2 ⟨(Nat.le_of_ble_eq_true rfl), (Nat.le_of_ble_eq_true rfl)⟩) hS (fun q _ h => hFc q h) hFc (fun q _ h => hFc q h) (fun E9 ce q9 u t H1 locs ht hvm hw hB hz1 hk1 hS hce hcv hcl => ?_) (fun u t H1 locs ht hvm hw hB hz1 hk1 hS => ?_)
  · obtain ⟨rfl, hP1, hD1⟩ := hB
    rw [ht] at hP1
    obtain ⟨hP, hD⟩ := va_join (wr := []) (w1 := []) hP hD [0, 1, 2] [] rfl rfl (by decide) (by decide) hk1 hFc hP1 hD1
    generalize H1 = H at hP hS hce ⊢
    have hP : va_P (dC, dI) vwCl [] _ := hP
    have hD : va_D A [] := hD
    refine vx_widen (k := 1) (n := 6) (Nat.le_of_ble_eq_true rfl) (Nat.le_of_ble_eq_true rfl) ?_
    exact vx_out (fun x hx9 => (htb x hx9).elim) hlocks hce hcv hcl (fun t ht hv => ⟨(), trivial, ⟨rfl, by rw [ht]; exact hP.sub [] rfl, hD.sub [] (by decide) rfl⟩, hS.F ht⟩) hS.2.2 (Nat.le_refl _) (Nat.le_refl _)
  · exact hw.elim
set_option maxRecDepth 100000 in
set_option maxHeartbeats 4000000 in
/-- slow on a new object: IndexOutOfBoundsException -/
theorem tm_slow (l : Launch) (hst : l.stackTraces = false) (dC : Nat → ClassId) (dI : Nat → Nat → Nat) (cy : Nat → ClassId) (a0 : Nat) (a1 : Nat) (a2 : Nat) (aT : Nat) (b1 : Nat) (b2 : Nat) (b3 : Nat) (b4 : Nat) (b5 : Nat) (b6 : Nat) (b7 : Nat) (p1 : Int32) (p2 : Int32) (p3 : Int32) (sz : Nat) : vx_Met l yX8_slow (tp_w yX8_slow cX8_slow 6 (some .int)) ({ frames := 7, cells := 1, slots := 6, locals := 104 }) (va_Pc [.ref a0, .int p1, .int p2, .int p3] (tp_Pre dC dI cy [(a0, .inr (8, [.ref a1, .ref aT])), (a1, .inr (5, [.ref a2, .ref b1, .ref b2, .ref b3, .ref b4, .ref b5, .int 0, .int 1, .int 0, .int 0, .int 0, .int 0])), (a2, .inr (2, [.ref b6, .int 0, .ref b7, .int 0]))] sz)) (va_Qv (fun _ : Unit => False) (fun (_ : Unit) (_ : State) => False) (va_A [(a0, .inr (8, [.ref a1, .ref aT])), (a1, .inr (5, [.ref a2, .ref b1, .ref b2, .ref b3, .ref b4, .ref b5, .int 0, .int 1, .int 0, .int 0, .int 0, .int 0])), (a2, .inr (2, [.ref b6, .int 0, .ref b7, .int 0]))] sz)) (vx_X (fun _ : Unit => True) (fun (E : String) (_ : Unit) (t : State) => (E = "java/lang/IndexOutOfBoundsException") ∧ tp_Post dC dI (va_A [(a0, .inr (8, [.ref a1, .ref aT])), (a1, .inr (5, [.ref a2, .ref b1, .ref b2, .ref b3, .ref b4, .ref b5, .int 0, .int 1, .int 0, .int 0, .int 0, .int 0])), (a2, .inr (2, [.ref b6, .int 0, .ref b7, .int 0]))] sz) [] t) (va_A [(a0, .inr (8, [.ref a1, .ref aT])), (a1, .inr (5, [.ref a2, .ref b1, .ref b2, .ref b3, .ref b4, .ref b5, .int 0, .int 1, .int 0, .int 0, .int 0, .int 0])), (a2, .inr (2, [.ref b6, .int 0, .ref b7, .int 0]))] sz)) 1 6 (va_A [(a0, .inr (8, [.ref a1, .ref aT])), (a1, .inr (5, [.ref a2, .ref b1, .ref b2, .ref b3, .ref b4, .ref b5, .int 0, .int 1, .int 0, .int 0, .int 0, .int 0])), (a2, .inr (2, [.ref b6, .int 0, .ref b7, .int 0]))] sz) := by
  refine vx_ofW (cc := cX8_slow) (maxL := 6) (ret := (some .int)) (by decide) rfl ?_
  intro p e s m args below meth c s₁ B hml htb hv
  obtain ⟨rfl, hsz, hP, hK, hD0, hE, hZ⟩ := hv
  have hx := B.exec
  have hb := B.bytes
  have hr := B.returns
  have hts0 := atoms_spec (ws := tp_w yX8_slow cX8_slow 6 (some .int)) B.pre
  have hts : ∀ w ∈ tp_all, w.before _ s = true := fun w h => hts0 w (List.mem_cons_of_mem _ h)
  have hown : s.vm.findClass RX8 = some m.cls := findClass_of_methodNamed B.named
  have hlocks := B.notSynchronized
  subst hsz
  have hD := hD0.self (sz := s.heap.size)
  generalize hAe : va_A [(a0, .inr (8, [.ref a1, .ref aT])), (a1, .inr (5, [.ref a2, .ref b1, .ref b2, .ref b3, .ref b4, .ref b5, .int 0, .int 1, .int 0, .int 0, .int 0, .int 0])), (a2, .inr (2, [.ref b6, .int 0, .ref b7, .int 0]))] s.heap.size = A at hD hZ ⊢
  have hA : ∀ q : Nat, s.heap.size ≤ q → A q := fun q h => by rw [← hAe]; exact Or.inr h
  have hS : va_S A s.heap s.heap [] := va_S.rf
  have hl9 := lv_entry ([.ref a0, .int p1, .int p2, .int p3]) (n := 6) (Nat.le_of_ble_eq_true rfl)
  rw [lg_entry_eq]
  generalize (lg_sl ([.ref a0, .int p1, .int p2, .int p3]) ++ List.replicate (6 - (lg_sl ([.ref a0, .int p1, .int p2, .int p3])).length) Slot.unset).toArray = ls at hl9 ⊢
  have hl : lv_has ls 6 [(0, .ref a0), (1, .int p1), (2, .int p2), (3, .int p3)] := hl9
  refine lv_aload_n hx hb dX8_slow_0 rfl (lv_at hl 0 rfl) ?_
  refine lv_iload_n hx hb dX8_slow_1 rfl (lv_at hl 1 rfl) ?_
  have hFc := va_free (wc := [(a0, .inr (8, [.ref a1, .ref aT])), (a1, .inr (5, [.ref a2, .ref b1, .ref b2, .ref b3, .ref b4, .ref b5, .int 0, .int 1, .int 0, .int 0, .int 0, .int 0])), (a2, .inr (2, [.ref b6, .int 0, .ref b7, .int 0]))]) hD hS hA [0, 1, 2] rfl
  refine vx_callv (vx_runV (As := [.int p1]) (rest := []) ⟨hx, hb, hml, hown, hts⟩ (tm_linkNumbered l hst dC dI cy a0 a1 a2 aT b1 b2 b3 b4 b5 b6 b7 p1 s.heap.size) (tp_cwV 1 hts tw_564 tw_566 tw_4 tw_38 tw_567 rfl rfl (by decide +kernel) ⟨Nat.le_of_ble_eq_true rfl, Nat.le_of_ble_eq_true rfl⟩) ⟨tp_blind, va_recv hK hP (ci := 8) (q0 := 0) rfl rfl, fun U hU hW => ⟨rfl, tp_pay hK hP hD hE hZ hS [0, 1, 2] (by decide) rfl hFc U hU hW⟩⟩ rfl rfl hl.1 rfl (lv_room (Nat.le_of_ble_eq_true rfl)) dX8_slow_2 ⟨(Nat.le_of_ble_eq_true rfl), (Nat.le_of_ble_eq_true rfl)⟩) hS (fun q _ h => hFc q h) hFc (fun q _ h => hFc q h) (fun E9 ce q9 u t H1 locs ht hvm hw hB hz1 hk1 hS hce hcv hcl => ?_) (fun u t H1 locs ht hvm hw hB hz1 hk1 hS => ?_)
  · obtain ⟨rfl, hP1, hD1⟩ := hB
    rw [ht] at hP1
    obtain ⟨hP, hD⟩ := va_join (wr := []) (w1 := []) hP hD [0, 1, 2] [] rfl rfl (by decide) (by decide) hk1 hFc hP1 hD1
    generalize H1 = H at hP hS hce ⊢
    have hP : va_P (dC, dI) vwCl [] _ := hP
    have hD : va_D A [] := hD
    refine vx_widen (k := 1) (n := 6) (Nat.le_of_ble_eq_true rfl) (Nat.le_of_ble_eq_true rfl) ?_
    exact vx_out (fun x hx9 => (htb x hx9).elim) hlocks hce hcv hcl (fun t ht hv => ⟨(), trivial, ⟨rfl, by rw [ht]; exact hP.sub [] rfl, hD.sub [] (by decide) rfl⟩, hS.F ht⟩) hS.2.2 (Nat.le_refl _) (Nat.le_refl _)
  · exact hw.elim
set_option maxRecDepth 100000 in
set_option maxHeartbeats 4000000 in
/-- addFlow on a new object: IndexOutOfBoundsException -/
theorem tm_addFlow (l : Launch) (hst : l.stackTraces = false) (dC : Nat → ClassId) (dI : Nat → Nat → Nat) (cy : Nat → ClassId) (a0 : Nat) (a1 : Nat) (a2 : Nat) (aT : Nat) (b1 : Nat) (b2 : Nat) (b3 : Nat) (b4 : Nat) (b5 : Nat) (b6 : Nat) (b7 : Nat) (p1 : Int32) (p2 : Int32) (p3 : Int32) (p4 : Int32) (p5 : Int32) (p6 : Int32) (sz : Nat) : vx_Met l yX8_addFlow (tp_w yX8_addFlow cX8_addFlow 7 (some .int)) ({ frames := 7, cells := 1, slots := 6, locals := 103 }) (va_Pc [.ref a0, .int p1, .int p2, .int p3, .int p4, .int p5, .int p6] (tp_Pre dC dI cy [(a0, .inr (8, [.ref a1, .ref aT])), (a1, .inr (5, [.ref a2, .ref b1, .ref b2, .ref b3, .ref b4, .ref b5, .int 0, .int 1, .int 0, .int 0, .int 0, .int 0])), (a2, .inr (2, [.ref b6, .int 0, .ref b7, .int 0]))] sz)) (va_Qv (fun _ : Unit => False) (fun (_ : Unit) (_ : State) => False) (va_A [(a0, .inr (8, [.ref a1, .ref aT])), (a1, .inr (5, [.ref a2, .ref b1, .ref b2, .ref b3, .ref b4, .ref b5, .int 0, .int 1, .int 0, .int 0, .int 0, .int 0])), (a2, .inr (2, [.ref b6, .int 0, .ref b7, .int 0]))] sz)) (vx_X (fun _ : Unit => True) (fun (E : String) (_ : Unit) (t : State) => (E = "java/lang/IndexOutOfBoundsException") ∧ tp_Post dC dI (va_A [(a0, .inr (8, [.ref a1, .ref aT])), (a1, .inr (5, [.ref a2, .ref b1, .ref b2, .ref b3, .ref b4, .ref b5, .int 0, .int 1, .int 0, .int 0, .int 0, .int 0])), (a2, .inr (2, [.ref b6, .int 0, .ref b7, .int 0]))] sz) [] t) (va_A [(a0, .inr (8, [.ref a1, .ref aT])), (a1, .inr (5, [.ref a2, .ref b1, .ref b2, .ref b3, .ref b4, .ref b5, .int 0, .int 1, .int 0, .int 0, .int 0, .int 0])), (a2, .inr (2, [.ref b6, .int 0, .ref b7, .int 0]))] sz)) 1 6 (va_A [(a0, .inr (8, [.ref a1, .ref aT])), (a1, .inr (5, [.ref a2, .ref b1, .ref b2, .ref b3, .ref b4, .ref b5, .int 0, .int 1, .int 0, .int 0, .int 0, .int 0])), (a2, .inr (2, [.ref b6, .int 0, .ref b7, .int 0]))] sz) := by
  refine vx_ofW (cc := cX8_addFlow) (maxL := 7) (ret := (some .int)) (by decide) rfl ?_
  intro p e s m args below meth c s₁ B hml htb hv
  obtain ⟨rfl, hsz, hP, hK, hD0, hE, hZ⟩ := hv
  have hx := B.exec
  have hb := B.bytes
  have hr := B.returns
  have hts0 := atoms_spec (ws := tp_w yX8_addFlow cX8_addFlow 7 (some .int)) B.pre
  have hts : ∀ w ∈ tp_all, w.before _ s = true := fun w h => hts0 w (List.mem_cons_of_mem _ h)
  have hown : s.vm.findClass RX8 = some m.cls := findClass_of_methodNamed B.named
  have hlocks := B.notSynchronized
  subst hsz
  have hD := hD0.self (sz := s.heap.size)
  generalize hAe : va_A [(a0, .inr (8, [.ref a1, .ref aT])), (a1, .inr (5, [.ref a2, .ref b1, .ref b2, .ref b3, .ref b4, .ref b5, .int 0, .int 1, .int 0, .int 0, .int 0, .int 0])), (a2, .inr (2, [.ref b6, .int 0, .ref b7, .int 0]))] s.heap.size = A at hD hZ ⊢
  have hA : ∀ q : Nat, s.heap.size ≤ q → A q := fun q h => by rw [← hAe]; exact Or.inr h
  have hS : va_S A s.heap s.heap [] := va_S.rf
  have hl9 := lv_entry ([.ref a0, .int p1, .int p2, .int p3, .int p4, .int p5, .int p6]) (n := 7) (Nat.le_of_ble_eq_true rfl)
  rw [lg_entry_eq]
  generalize (lg_sl ([.ref a0, .int p1, .int p2, .int p3, .int p4, .int p5, .int p6]) ++ List.replicate (7 - (lg_sl ([.ref a0, .int p1, .int p2, .int p3, .int p4, .int p5, .int p6])).length) Slot.unset).toArray = ls at hl9 ⊢
  have hl : lv_has ls 7 [(0, .ref a0), (1, .int p1), (2, .int p2), (3, .int p3), (4, .int p4), (5, .int p5), (6, .int p6)] := hl9
  refine lv_aload_n hx hb dX8_addFlow_0 rfl (lv_at hl 0 rfl) ?_
  refine lv_iload_n hx hb dX8_addFlow_1 rfl (lv_at hl 1 rfl) ?_
  have hFc := va_free (wc := [(a0, .inr (8, [.ref a1, .ref aT])), (a1, .inr (5, [.ref a2, .ref b1, .ref b2, .ref b3, .ref b4, .ref b5, .int 0, .int 1, .int 0, .int 0, .int 0, .int 0])), (a2, .inr (2, [.ref b6, .int 0, .ref b7, .int 0]))]) hD hS hA [0, 1, 2] rfl
  refine vx_callv (vx_runV (As := [.int p1]) (rest := []) ⟨hx, hb, hml, hown, hts⟩ (tm_checkNode l hst dC dI cy a0 a1 a2 aT b1 b2 b3 b4 b5 b6 b7 p1 s.heap.size) (tp_cwV 1 hts tw_456 tw_458 tw_1 tw_38 tw_459 rfl rfl (by decide +kernel) ⟨Nat.le_of_ble_eq_true rfl, Nat.le_of_ble_eq_true rfl⟩) ⟨tp_blind, va_recv hK hP (ci := 8) (q0 := 0) rfl rfl, fun U hU hW => ⟨rfl, tp_pay hK hP hD hE hZ hS [0, 1, 2] (by decide) rfl hFc U hU hW⟩⟩ rfl rfl hl.1 rfl (lv_room (Nat.le_of_ble_eq_true rfl)) dX8_addFlow_2 ⟨(Nat.le_of_ble_eq_true rfl), (Nat.le_of_ble_eq_true rfl)⟩) hS (fun q _ h => hFc q h) hFc (fun q _ h => hFc q h) (fun E9 ce q9 u t H1 locs ht hvm hw hB hz1 hk1 hS hce hcv hcl => ?_) (fun u t H1 locs ht hvm hw hB hz1 hk1 hS => ?_)
  · obtain ⟨rfl, hP1, hD1⟩ := hB
    rw [ht] at hP1
    obtain ⟨hP, hD⟩ := va_join (wr := []) (w1 := []) hP hD [0, 1, 2] [] rfl rfl (by decide) (by decide) hk1 hFc hP1 hD1
    generalize H1 = H at hP hS hce ⊢
    have hP : va_P (dC, dI) vwCl [] _ := hP
    have hD : va_D A [] := hD
    refine vx_widen (k := 1) (n := 6) (Nat.le_of_ble_eq_true rfl) (Nat.le_of_ble_eq_true rfl) ?_
    exact vx_out (fun x hx9 => (htb x hx9).elim) hlocks hce hcv hcl (fun t ht hv => ⟨(), trivial, ⟨rfl, by rw [ht]; exact hP.sub [] rfl, hD.sub [] (by decide) rfl⟩, hS.F ht⟩) hS.2.2 (Nat.le_refl _) (Nat.le_refl _)
  · exact hw.elim
set_option maxRecDepth 100000 in
set_option maxHeartbeats 4000000 in
/-- isShut on a new object: IndexOutOfBoundsException -/
theorem tm_isShut (l : Launch) (hst : l.stackTraces = false) (dC : Nat → ClassId) (dI : Nat → Nat → Nat) (cy : Nat → ClassId) (a0 : Nat) (a1 : Nat) (a2 : Nat) (aT : Nat) (b1 : Nat) (b2 : Nat) (b3 : Nat) (b4 : Nat) (b5 : Nat) (b6 : Nat) (b7 : Nat) (p1 : Int32) (sz : Nat) : vx_Met l yX8_isShut (tp_w yX8_isShut cX8_isShut 2 (some .boolean)) ({ frames := 7, cells := 1, slots := 6, locals := 104 }) (va_Pc [.ref a0, .int p1] (tp_Pre dC dI cy [(a0, .inr (8, [.ref a1, .ref aT])), (a1, .inr (5, [.ref a2, .ref b1, .ref b2, .ref b3, .ref b4, .ref b5, .int 0, .int 1, .int 0, .int 0, .int 0, .int 0])), (a2, .inr (2, [.ref b6, .int 0, .ref b7, .int 0]))] sz)) (va_Qv (fun _ : Unit => False) (fun (_ : Unit) (_ : State) => False) (va_A [(a0, .inr (8, [.ref a1, .ref aT])), (a1, .inr (5, [.ref a2, .ref b1, .ref b2, .ref b3, .ref b4, .ref b5, .int 0, .int 1, .int 0, .int 0, .int 0, .int 0])), (a2, .inr (2, [.ref b6, .int 0, .ref b7, .int 0]))] sz)) (vx_X (fun _ : Unit => True) (fun (E : String) (_ : Unit) (t : State) => (E = "java/lang/IndexOutOfBoundsException") ∧ tp_Post dC dI (va_A [(a0, .inr (8, [.ref a1, .ref aT])), (a1, .inr (5, [.ref a2, .ref b1, .ref b2, .ref b3, .ref b4, .ref b5, .int 0, .int 1, .int 0, .int 0, .int 0, .int 0])), (a2, .inr (2, [.ref b6, .int 0, .ref b7, .int 0]))] sz) [] t) (va_A [(a0, .inr (8, [.ref a1, .ref aT])), (a1, .inr (5, [.ref a2, .ref b1, .ref b2, .ref b3, .ref b4, .ref b5, .int 0, .int 1, .int 0, .int 0, .int 0, .int 0])), (a2, .inr (2, [.ref b6, .int 0, .ref b7, .int 0]))] sz)) 1 6 (va_A [(a0, .inr (8, [.ref a1, .ref aT])), (a1, .inr (5, [.ref a2, .ref b1, .ref b2, .ref b3, .ref b4, .ref b5, .int 0, .int 1, .int 0, .int 0, .int 0, .int 0])), (a2, .inr (2, [.ref b6, .int 0, .ref b7, .int 0]))] sz) := by
  refine vx_ofW (cc := cX8_isShut) (maxL := 2) (ret := (some .boolean)) (by decide) rfl ?_
  intro p e s m args below meth c s₁ B hml htb hv
  obtain ⟨rfl, hsz, hP, hK, hD0, hE, hZ⟩ := hv
  have hx := B.exec
  have hb := B.bytes
  have hr := B.returns
  have hts0 := atoms_spec (ws := tp_w yX8_isShut cX8_isShut 2 (some .boolean)) B.pre
  have hts : ∀ w ∈ tp_all, w.before _ s = true := fun w h => hts0 w (List.mem_cons_of_mem _ h)
  have hown : s.vm.findClass RX8 = some m.cls := findClass_of_methodNamed B.named
  have hlocks := B.notSynchronized
  subst hsz
  have hD := hD0.self (sz := s.heap.size)
  generalize hAe : va_A [(a0, .inr (8, [.ref a1, .ref aT])), (a1, .inr (5, [.ref a2, .ref b1, .ref b2, .ref b3, .ref b4, .ref b5, .int 0, .int 1, .int 0, .int 0, .int 0, .int 0])), (a2, .inr (2, [.ref b6, .int 0, .ref b7, .int 0]))] s.heap.size = A at hD hZ ⊢
  have hA : ∀ q : Nat, s.heap.size ≤ q → A q := fun q h => by rw [← hAe]; exact Or.inr h
  have hS : va_S A s.heap s.heap [] := va_S.rf
  have hl9 := lv_entry ([.ref a0, .int p1]) (n := 2) (Nat.le_of_ble_eq_true rfl)
  rw [lg_entry_eq]
  generalize (lg_sl ([.ref a0, .int p1]) ++ List.replicate (2 - (lg_sl ([.ref a0, .int p1])).length) Slot.unset).toArray = ls at hl9 ⊢
  have hl : lv_has ls 2 [(0, .ref a0), (1, .int p1)] := hl9
  refine lv_aload_n hx hb dX8_isShut_0 rfl (lv_at hl 0 rfl) ?_
  refine lv_iload_n hx hb dX8_isShut_1 rfl (lv_at hl 1 rfl) ?_
  have hFc := va_free (wc := [(a0, .inr (8, [.ref a1, .ref aT])), (a1, .inr (5, [.ref a2, .ref b1, .ref b2, .ref b3, .ref b4, .ref b5, .int 0, .int 1, .int 0, .int 0, .int 0, .int 0])), (a2, .inr (2, [.ref b6, .int 0, .ref b7, .int 0]))]) hD hS hA [0, 1, 2] rfl
  refine vx_callv (vx_runV (As := [.int p1]) (rest := []) ⟨hx, hb, hml, hown, hts⟩ (tm_linkNumbered l hst dC dI cy a0 a1 a2 aT b1 b2 b3 b4 b5 b6 b7 p1 s.heap.size) (tp_cwV 1 hts tw_564 tw_566 tw_4 tw_38 tw_567 rfl rfl (by decide +kernel) ⟨Nat.le_of_ble_eq_true rfl, Nat.le_of_ble_eq_true rfl⟩) ⟨tp_blind, va_recv hK hP (ci := 8) (q0 := 0) rfl rfl, fun U hU hW => ⟨rfl, tp_pay hK hP hD hE hZ hS [0, 1, 2] (by decide) rfl hFc U hU hW⟩⟩ rfl rfl hl.1 rfl (lv_room (Nat.le_of_ble_eq_true rfl)) dX8_isShut_2 ⟨(Nat.le_of_ble_eq_true rfl), (Nat.le_of_ble_eq_true rfl)⟩) hS (fun q _ h => hFc q h) hFc (fun q _ h => hFc q h) (fun E9 ce q9 u t H1 locs ht hvm hw hB hz1 hk1 hS hce hcv hcl => ?_) (fun u t H1 locs ht hvm hw hB hz1 hk1 hS => ?_)
  · obtain ⟨rfl, hP1, hD1⟩ := hB
    rw [ht] at hP1
    obtain ⟨hP, hD⟩ := va_join (wr := []) (w1 := []) hP hD [0, 1, 2] [] rfl rfl (by decide) (by decide) hk1 hFc hP1 hD1
    generalize H1 = H at hP hS hce ⊢
    have hP : va_P (dC, dI) vwCl [] _ := hP
    have hD : va_D A [] := hD
    refine vx_widen (k := 1) (n := 6) (Nat.le_of_ble_eq_true rfl) (Nat.le_of_ble_eq_true rfl) ?_
    exact vx_out (fun x hx9 => (htb x hx9).elim) hlocks hce hcv hcl (fun t ht hv => ⟨(), trivial, ⟨rfl, by rw [ht]; exact hP.sub [] rfl, hD.sub [] (by decide) rfl⟩, hS.F ht⟩) hS.2.2 (Nat.le_refl _) (Nat.le_refl _)
  · exact hw.elim
set_option maxRecDepth 100000 in
set_option maxHeartbeats 4000000 in
/-- rateOf on a new object: IndexOutOfBoundsException -/
theorem tm_rateOf (l : Launch) (hst : l.stackTraces = false) (dC : Nat → ClassId) (dI : Nat → Nat → Nat) (cy : Nat → ClassId) (a0 : Nat) (a1 : Nat) (a2 : Nat) (aT : Nat) (b1 : Nat) (b2 : Nat) (b3 : Nat) (b4 : Nat) (b5 : Nat) (b6 : Nat) (b7 : Nat) (p1 : Int32) (sz : Nat) : vx_Met l yX8_rateOf (tp_w yX8_rateOf cX8_rateOf 2 (some .int)) ({ frames := 7, cells := 1, slots := 6, locals := 104 }) (va_Pc [.ref a0, .int p1] (tp_Pre dC dI cy [(a0, .inr (8, [.ref a1, .ref aT])), (a1, .inr (5, [.ref a2, .ref b1, .ref b2, .ref b3, .ref b4, .ref b5, .int 0, .int 1, .int 0, .int 0, .int 0, .int 0])), (a2, .inr (2, [.ref b6, .int 0, .ref b7, .int 0]))] sz)) (va_Qv (fun _ : Unit => False) (fun (_ : Unit) (_ : State) => False) (va_A [(a0, .inr (8, [.ref a1, .ref aT])), (a1, .inr (5, [.ref a2, .ref b1, .ref b2, .ref b3, .ref b4, .ref b5, .int 0, .int 1, .int 0, .int 0, .int 0, .int 0])), (a2, .inr (2, [.ref b6, .int 0, .ref b7, .int 0]))] sz)) (vx_X (fun _ : Unit => True) (fun (E : String) (_ : Unit) (t : State) => (E = "java/lang/IndexOutOfBoundsException") ∧ tp_Post dC dI (va_A [(a0, .inr (8, [.ref a1, .ref aT])), (a1, .inr (5, [.ref a2, .ref b1, .ref b2, .ref b3, .ref b4, .ref b5, .int 0, .int 1, .int 0, .int 0, .int 0, .int 0])), (a2, .inr (2, [.ref b6, .int 0, .ref b7, .int 0]))] sz) [] t) (va_A [(a0, .inr (8, [.ref a1, .ref aT])), (a1, .inr (5, [.ref a2, .ref b1, .ref b2, .ref b3, .ref b4, .ref b5, .int 0, .int 1, .int 0, .int 0, .int 0, .int 0])), (a2, .inr (2, [.ref b6, .int 0, .ref b7, .int 0]))] sz)) 1 6 (va_A [(a0, .inr (8, [.ref a1, .ref aT])), (a1, .inr (5, [.ref a2, .ref b1, .ref b2, .ref b3, .ref b4, .ref b5, .int 0, .int 1, .int 0, .int 0, .int 0, .int 0])), (a2, .inr (2, [.ref b6, .int 0, .ref b7, .int 0]))] sz) := by
  refine vx_ofW (cc := cX8_rateOf) (maxL := 2) (ret := (some .int)) (by decide) rfl ?_
  intro p e s m args below meth c s₁ B hml htb hv
  obtain ⟨rfl, hsz, hP, hK, hD0, hE, hZ⟩ := hv
  have hx := B.exec
  have hb := B.bytes
  have hr := B.returns
  have hts0 := atoms_spec (ws := tp_w yX8_rateOf cX8_rateOf 2 (some .int)) B.pre
  have hts : ∀ w ∈ tp_all, w.before _ s = true := fun w h => hts0 w (List.mem_cons_of_mem _ h)
  have hown : s.vm.findClass RX8 = some m.cls := findClass_of_methodNamed B.named
  have hlocks := B.notSynchronized
  subst hsz
  have hD := hD0.self (sz := s.heap.size)
  generalize hAe : va_A [(a0, .inr (8, [.ref a1, .ref aT])), (a1, .inr (5, [.ref a2, .ref b1, .ref b2, .ref b3, .ref b4, .ref b5, .int 0, .int 1, .int 0, .int 0, .int 0, .int 0])), (a2, .inr (2, [.ref b6, .int 0, .ref b7, .int 0]))] s.heap.size = A at hD hZ ⊢
  have hA : ∀ q : Nat, s.heap.size ≤ q → A q := fun q h => by rw [← hAe]; exact Or.inr h
  have hS : va_S A s.heap s.heap [] := va_S.rf
  have hl9 := lv_entry ([.ref a0, .int p1]) (n := 2) (Nat.le_of_ble_eq_true rfl)
  rw [lg_entry_eq]
  generalize (lg_sl ([.ref a0, .int p1]) ++ List.replicate (2 - (lg_sl ([.ref a0, .int p1])).length) Slot.unset).toArray = ls at hl9 ⊢
  have hl : lv_has ls 2 [(0, .ref a0), (1, .int p1)] := hl9
  refine lv_aload_n hx hb dX8_rateOf_0 rfl (lv_at hl 0 rfl) ?_
  refine lv_iload_n hx hb dX8_rateOf_1 rfl (lv_at hl 1 rfl) ?_
  have hFc := va_free (wc := [(a0, .inr (8, [.ref a1, .ref aT])), (a1, .inr (5, [.ref a2, .ref b1, .ref b2, .ref b3, .ref b4, .ref b5, .int 0, .int 1, .int 0, .int 0, .int 0, .int 0])), (a2, .inr (2, [.ref b6, .int 0, .ref b7, .int 0]))]) hD hS hA [0, 1, 2] rfl
  refine vx_callv (vx_runV (As := [.int p1]) (rest := []) ⟨hx, hb, hml, hown, hts⟩ (tm_linkNumbered l hst dC dI cy a0 a1 a2 aT b1 b2 b3 b4 b5 b6 b7 p1 s.heap.size) (tp_cwV 1 hts tw_564 tw_566 tw_4 tw_38 tw_567 rfl rfl (by decide +kernel) ⟨Nat.le_of_ble_eq_true rfl, Nat.le_of_ble_eq_true rfl⟩) ⟨tp_blind, va_recv hK hP (ci := 8) (q0 := 0) rfl rfl, fun U hU hW => ⟨rfl, tp_pay hK hP hD hE hZ hS [0, 1, 2] (by decide) rfl hFc U hU hW⟩⟩ rfl rfl hl.1 rfl (lv_room (Nat.le_of_ble_eq_true rfl)) dX8_rateOf_2 ⟨(Nat.le_of_ble_eq_true rfl), (Nat.le_of_ble_eq_true rfl)⟩) hS (fun q _ h => hFc q h) hFc (fun q _ h => hFc q h) (fun E9 ce q9 u t H1 locs ht hvm hw hB hz1 hk1 hS hce hcv hcl => ?_) (fun u t H1 locs ht hvm hw hB hz1 hk1 hS => ?_)
  · obtain ⟨rfl, hP1, hD1⟩ := hB
    rw [ht] at hP1
    obtain ⟨hP, hD⟩ := va_join (wr := []) (w1 := []) hP hD [0, 1, 2] [] rfl rfl (by decide) (by decide) hk1 hFc hP1 hD1
    generalize H1 = H at hP hS hce ⊢
    have hP : va_P (dC, dI) vwCl [] _ := hP
    have hD : va_D A [] := hD
    refine vx_widen (k := 1) (n := 6) (Nat.le_of_ble_eq_true rfl) (Nat.le_of_ble_eq_true rfl) ?_
    exact vx_out (fun x hx9 => (htb x hx9).elim) hlocks hce hcv hcl (fun t ht hv => ⟨(), trivial, ⟨rfl, by rw [ht]; exact hP.sub [] rfl, hD.sub [] (by decide) rfl⟩, hS.F ht⟩) hS.2.2 (Nat.le_refl _) (Nat.le_refl _)
  · exact hw.elim
set_option maxRecDepth 100000 in
set_option maxHeartbeats 4000000 in
/-- costOf on a new object: IndexOutOfBoundsException -/
theorem tm_costOf (l : Launch) (hst : l.stackTraces = false) (dC : Nat → ClassId) (dI : Nat → Nat → Nat) (cy : Nat → ClassId) (a0 : Nat) (a1 : Nat) (a2 : Nat) (aT : Nat) (b1 : Nat) (b2 : Nat) (b3 : Nat) (b4 : Nat) (b5 : Nat) (b6 : Nat) (b7 : Nat) (p1 : Int32) (sz : Nat) : vx_Met l yX8_costOf (tp_w yX8_costOf cX8_costOf 2 (some .int)) ({ frames := 7, cells := 1, slots := 6, locals := 104 }) (va_Pc [.ref a0, .int p1] (tp_Pre dC dI cy [(a0, .inr (8, [.ref a1, .ref aT])), (a1, .inr (5, [.ref a2, .ref b1, .ref b2, .ref b3, .ref b4, .ref b5, .int 0, .int 1, .int 0, .int 0, .int 0, .int 0])), (a2, .inr (2, [.ref b6, .int 0, .ref b7, .int 0]))] sz)) (va_Qv (fun _ : Unit => False) (fun (_ : Unit) (_ : State) => False) (va_A [(a0, .inr (8, [.ref a1, .ref aT])), (a1, .inr (5, [.ref a2, .ref b1, .ref b2, .ref b3, .ref b4, .ref b5, .int 0, .int 1, .int 0, .int 0, .int 0, .int 0])), (a2, .inr (2, [.ref b6, .int 0, .ref b7, .int 0]))] sz)) (vx_X (fun _ : Unit => True) (fun (E : String) (_ : Unit) (t : State) => (E = "java/lang/IndexOutOfBoundsException") ∧ tp_Post dC dI (va_A [(a0, .inr (8, [.ref a1, .ref aT])), (a1, .inr (5, [.ref a2, .ref b1, .ref b2, .ref b3, .ref b4, .ref b5, .int 0, .int 1, .int 0, .int 0, .int 0, .int 0])), (a2, .inr (2, [.ref b6, .int 0, .ref b7, .int 0]))] sz) [] t) (va_A [(a0, .inr (8, [.ref a1, .ref aT])), (a1, .inr (5, [.ref a2, .ref b1, .ref b2, .ref b3, .ref b4, .ref b5, .int 0, .int 1, .int 0, .int 0, .int 0, .int 0])), (a2, .inr (2, [.ref b6, .int 0, .ref b7, .int 0]))] sz)) 1 6 (va_A [(a0, .inr (8, [.ref a1, .ref aT])), (a1, .inr (5, [.ref a2, .ref b1, .ref b2, .ref b3, .ref b4, .ref b5, .int 0, .int 1, .int 0, .int 0, .int 0, .int 0])), (a2, .inr (2, [.ref b6, .int 0, .ref b7, .int 0]))] sz) := by
  refine vx_ofW (cc := cX8_costOf) (maxL := 2) (ret := (some .int)) (by decide) rfl ?_
  intro p e s m args below meth c s₁ B hml htb hv
  obtain ⟨rfl, hsz, hP, hK, hD0, hE, hZ⟩ := hv
  have hx := B.exec
  have hb := B.bytes
  have hr := B.returns
  have hts0 := atoms_spec (ws := tp_w yX8_costOf cX8_costOf 2 (some .int)) B.pre
  have hts : ∀ w ∈ tp_all, w.before _ s = true := fun w h => hts0 w (List.mem_cons_of_mem _ h)
  have hown : s.vm.findClass RX8 = some m.cls := findClass_of_methodNamed B.named
  have hlocks := B.notSynchronized
  subst hsz
  have hD := hD0.self (sz := s.heap.size)
  generalize hAe : va_A [(a0, .inr (8, [.ref a1, .ref aT])), (a1, .inr (5, [.ref a2, .ref b1, .ref b2, .ref b3, .ref b4, .ref b5, .int 0, .int 1, .int 0, .int 0, .int 0, .int 0])), (a2, .inr (2, [.ref b6, .int 0, .ref b7, .int 0]))] s.heap.size = A at hD hZ ⊢
  have hA : ∀ q : Nat, s.heap.size ≤ q → A q := fun q h => by rw [← hAe]; exact Or.inr h
  have hS : va_S A s.heap s.heap [] := va_S.rf
  have hl9 := lv_entry ([.ref a0, .int p1]) (n := 2) (Nat.le_of_ble_eq_true rfl)
  rw [lg_entry_eq]
  generalize (lg_sl ([.ref a0, .int p1]) ++ List.replicate (2 - (lg_sl ([.ref a0, .int p1])).length) Slot.unset).toArray = ls at hl9 ⊢
  have hl : lv_has ls 2 [(0, .ref a0), (1, .int p1)] := hl9
  refine lv_aload_n hx hb dX8_costOf_0 rfl (lv_at hl 0 rfl) ?_
  refine lv_iload_n hx hb dX8_costOf_1 rfl (lv_at hl 1 rfl) ?_
  have hFc := va_free (wc := [(a0, .inr (8, [.ref a1, .ref aT])), (a1, .inr (5, [.ref a2, .ref b1, .ref b2, .ref b3, .ref b4, .ref b5, .int 0, .int 1, .int 0, .int 0, .int 0, .int 0])), (a2, .inr (2, [.ref b6, .int 0, .ref b7, .int 0]))]) hD hS hA [0, 1, 2] rfl
  refine vx_callv (vx_runV (As := [.int p1]) (rest := []) ⟨hx, hb, hml, hown, hts⟩ (tm_linkNumbered l hst dC dI cy a0 a1 a2 aT b1 b2 b3 b4 b5 b6 b7 p1 s.heap.size) (tp_cwV 1 hts tw_564 tw_566 tw_4 tw_38 tw_567 rfl rfl (by decide +kernel) ⟨Nat.le_of_ble_eq_true rfl, Nat.le_of_ble_eq_true rfl⟩) ⟨tp_blind, va_recv hK hP (ci := 8) (q0 := 0) rfl rfl, fun U hU hW => ⟨rfl, tp_pay hK hP hD hE hZ hS [0, 1, 2] (by decide) rfl hFc U hU hW⟩⟩ rfl rfl hl.1 rfl (lv_room (Nat.le_of_ble_eq_true rfl)) dX8_costOf_2 ⟨(Nat.le_of_ble_eq_true rfl), (Nat.le_of_ble_eq_true rfl)⟩) hS (fun q _ h => hFc q h) hFc (fun q _ h => hFc q h) (fun E9 ce q9 u t H1 locs ht hvm hw hB hz1 hk1 hS hce hcv hcl => ?_) (fun u t H1 locs ht hvm hw hB hz1 hk1 hS => ?_)
  · obtain ⟨rfl, hP1, hD1⟩ := hB
    rw [ht] at hP1
    obtain ⟨hP, hD⟩ := va_join (wr := []) (w1 := []) hP hD [0, 1, 2] [] rfl rfl (by decide) (by decide) hk1 hFc hP1 hD1
    generalize H1 = H at hP hS hce ⊢
    have hP : va_P (dC, dI) vwCl [] _ := hP
    have hD : va_D A [] := hD
    refine vx_widen (k := 1) (n := 6) (Nat.le_of_ble_eq_true rfl) (Nat.le_of_ble_eq_true rfl) ?_
    exact vx_out (fun x hx9 => (htb x hx9).elim) hlocks hce hcv hcl (fun t ht hv => ⟨(), trivial, ⟨rfl, by rw [ht]; exact hP.sub [] rfl, hD.sub [] (by decide) rfl⟩, hS.F ht⟩) hS.2.2 (Nat.le_refl _) (Nat.le_refl _)
  · exact hw.elim
set_option maxRecDepth 100000 in
set_option maxHeartbeats 4000000 in
/-- phaseOf on a new object: IndexOutOfBoundsException -/
theorem tm_phaseOf (l : Launch) (hst : l.stackTraces = false) (dC : Nat → ClassId) (dI : Nat → Nat → Nat) (cy : Nat → ClassId) (a0 : Nat) (a1 : Nat) (a2 : Nat) (aT : Nat) (b1 : Nat) (b2 : Nat) (b3 : Nat) (b4 : Nat) (b5 : Nat) (b6 : Nat) (b7 : Nat) (p1 : Int32) (sz : Nat) : vx_Met l yX8_phaseOf (tp_w yX8_phaseOf cX8_phaseOf 2 (some .int)) ({ frames := 7, cells := 1, slots := 6, locals := 103 }) (va_Pc [.ref a0, .int p1] (tp_Pre dC dI cy [(a0, .inr (8, [.ref a1, .ref aT])), (a1, .inr (5, [.ref a2, .ref b1, .ref b2, .ref b3, .ref b4, .ref b5, .int 0, .int 1, .int 0, .int 0, .int 0, .int 0])), (a2, .inr (2, [.ref b6, .int 0, .ref b7, .int 0]))] sz)) (va_Qv (fun _ : Unit => False) (fun (_ : Unit) (_ : State) => False) (va_A [(a0, .inr (8, [.ref a1, .ref aT])), (a1, .inr (5, [.ref a2, .ref b1, .ref b2, .ref b3, .ref b4, .ref b5, .int 0, .int 1, .int 0, .int 0, .int 0, .int 0])), (a2, .inr (2, [.ref b6, .int 0, .ref b7, .int 0]))] sz)) (vx_X (fun _ : Unit => True) (fun (E : String) (_ : Unit) (t : State) => (E = "java/lang/IndexOutOfBoundsException") ∧ tp_Post dC dI (va_A [(a0, .inr (8, [.ref a1, .ref aT])), (a1, .inr (5, [.ref a2, .ref b1, .ref b2, .ref b3, .ref b4, .ref b5, .int 0, .int 1, .int 0, .int 0, .int 0, .int 0])), (a2, .inr (2, [.ref b6, .int 0, .ref b7, .int 0]))] sz) [] t) (va_A [(a0, .inr (8, [.ref a1, .ref aT])), (a1, .inr (5, [.ref a2, .ref b1, .ref b2, .ref b3, .ref b4, .ref b5, .int 0, .int 1, .int 0, .int 0, .int 0, .int 0])), (a2, .inr (2, [.ref b6, .int 0, .ref b7, .int 0]))] sz)) 1 6 (va_A [(a0, .inr (8, [.ref a1, .ref aT])), (a1, .inr (5, [.ref a2, .ref b1, .ref b2, .ref b3, .ref b4, .ref b5, .int 0, .int 1, .int 0, .int 0, .int 0, .int 0])), (a2, .inr (2, [.ref b6, .int 0, .ref b7, .int 0]))] sz) := by
  refine vx_ofW (cc := cX8_phaseOf) (maxL := 2) (ret := (some .int)) (by decide) rfl ?_
  intro p e s m args below meth c s₁ B hml htb hv
  obtain ⟨rfl, hsz, hP, hK, hD0, hE, hZ⟩ := hv
  have hx := B.exec
  have hb := B.bytes
  have hr := B.returns
  have hts0 := atoms_spec (ws := tp_w yX8_phaseOf cX8_phaseOf 2 (some .int)) B.pre
  have hts : ∀ w ∈ tp_all, w.before _ s = true := fun w h => hts0 w (List.mem_cons_of_mem _ h)
  have hown : s.vm.findClass RX8 = some m.cls := findClass_of_methodNamed B.named
  have hlocks := B.notSynchronized
  subst hsz
  have hD := hD0.self (sz := s.heap.size)
  generalize hAe : va_A [(a0, .inr (8, [.ref a1, .ref aT])), (a1, .inr (5, [.ref a2, .ref b1, .ref b2, .ref b3, .ref b4, .ref b5, .int 0, .int 1, .int 0, .int 0, .int 0, .int 0])), (a2, .inr (2, [.ref b6, .int 0, .ref b7, .int 0]))] s.heap.size = A at hD hZ ⊢
  have hA : ∀ q : Nat, s.heap.size ≤ q → A q := fun q h => by rw [← hAe]; exact Or.inr h
  have hS : va_S A s.heap s.heap [] := va_S.rf
  have hl9 := lv_entry ([.ref a0, .int p1]) (n := 2) (Nat.le_of_ble_eq_true rfl)
  rw [lg_entry_eq]
  generalize (lg_sl ([.ref a0, .int p1]) ++ List.replicate (2 - (lg_sl ([.ref a0, .int p1])).length) Slot.unset).toArray = ls at hl9 ⊢
  have hl : lv_has ls 2 [(0, .ref a0), (1, .int p1)] := hl9
  refine lv_aload_n hx hb dX8_phaseOf_0 rfl (lv_at hl 0 rfl) ?_
  refine lv_iload_n hx hb dX8_phaseOf_1 rfl (lv_at hl 1 rfl) ?_
  have hFc := va_free (wc := [(a0, .inr (8, [.ref a1, .ref aT])), (a1, .inr (5, [.ref a2, .ref b1, .ref b2, .ref b3, .ref b4, .ref b5, .int 0, .int 1, .int 0, .int 0, .int 0, .int 0])), (a2, .inr (2, [.ref b6, .int 0, .ref b7, .int 0]))]) hD hS hA [0, 1, 2] rfl
  refine vx_callv (vx_runV (As := [.int p1]) (rest := []) ⟨hx, hb, hml, hown, hts⟩ (tm_checkNode l hst dC dI cy a0 a1 a2 aT b1 b2 b3 b4 b5 b6 b7 p1 s.heap.size) (tp_cwV 1 hts tw_456 tw_458 tw_1 tw_38 tw_459 rfl rfl (by decide +kernel) ⟨Nat.le_of_ble_eq_true rfl, Nat.le_of_ble_eq_true rfl⟩) ⟨tp_blind, va_recv hK hP (ci := 8) (q0 := 0) rfl rfl, fun U hU hW => ⟨rfl, tp_pay hK hP hD hE hZ hS [0, 1, 2] (by decide) rfl hFc U hU hW⟩⟩ rfl rfl hl.1 rfl (lv_room (Nat.le_of_ble_eq_true rfl)) dX8_phaseOf_2 ⟨(Nat.le_of_ble_eq_true rfl), (Nat.le_of_ble_eq_true rfl)⟩) hS (fun q _ h => hFc q h) hFc (fun q _ h => hFc q h) (fun E9 ce q9 u t H1 locs ht hvm hw hB hz1 hk1 hS hce hcv hcl => ?_) (fun u t H1 locs ht hvm hw hB hz1 hk1 hS => ?_)
  · obtain ⟨rfl, hP1, hD1⟩ := hB
    rw [ht] at hP1
    obtain ⟨hP, hD⟩ := va_join (wr := []) (w1 := []) hP hD [0, 1, 2] [] rfl rfl (by decide) (by decide) hk1 hFc hP1 hD1
    generalize H1 = H at hP hS hce ⊢
    have hP : va_P (dC, dI) vwCl [] _ := hP
    have hD : va_D A [] := hD
    refine vx_widen (k := 1) (n := 6) (Nat.le_of_ble_eq_true rfl) (Nat.le_of_ble_eq_true rfl) ?_
    exact vx_out (fun x hx9 => (htb x hx9).elim) hlocks hce hcv hcl (fun t ht hv => ⟨(), trivial, ⟨rfl, by rw [ht]; exact hP.sub [] rfl, hD.sub [] (by decide) rfl⟩, hS.F ht⟩) hS.2.2 (Nat.le_refl _) (Nat.le_refl _)
  · exact hw.elim
set_option maxRecDepth 100000 in
set_option maxHeartbeats 4000000 in
/-- phaseTicks on a new object: IndexOutOfBoundsException -/
theorem tm_phaseTicks (l : Launch) (hst : l.stackTraces = false) (dC : Nat → ClassId) (dI : Nat → Nat → Nat) (cy : Nat → ClassId) (a0 : Nat) (a1 : Nat) (a2 : Nat) (aT : Nat) (b1 : Nat) (b2 : Nat) (b3 : Nat) (b4 : Nat) (b5 : Nat) (b6 : Nat) (b7 : Nat) (p1 : Int32) (sz : Nat) : vx_Met l yX8_phaseTicks (tp_w yX8_phaseTicks cX8_phaseTicks 2 (some .int)) ({ frames := 7, cells := 1, slots := 6, locals := 103 }) (va_Pc [.ref a0, .int p1] (tp_Pre dC dI cy [(a0, .inr (8, [.ref a1, .ref aT])), (a1, .inr (5, [.ref a2, .ref b1, .ref b2, .ref b3, .ref b4, .ref b5, .int 0, .int 1, .int 0, .int 0, .int 0, .int 0])), (a2, .inr (2, [.ref b6, .int 0, .ref b7, .int 0]))] sz)) (va_Qv (fun _ : Unit => False) (fun (_ : Unit) (_ : State) => False) (va_A [(a0, .inr (8, [.ref a1, .ref aT])), (a1, .inr (5, [.ref a2, .ref b1, .ref b2, .ref b3, .ref b4, .ref b5, .int 0, .int 1, .int 0, .int 0, .int 0, .int 0])), (a2, .inr (2, [.ref b6, .int 0, .ref b7, .int 0]))] sz)) (vx_X (fun _ : Unit => True) (fun (E : String) (_ : Unit) (t : State) => (E = "java/lang/IndexOutOfBoundsException") ∧ tp_Post dC dI (va_A [(a0, .inr (8, [.ref a1, .ref aT])), (a1, .inr (5, [.ref a2, .ref b1, .ref b2, .ref b3, .ref b4, .ref b5, .int 0, .int 1, .int 0, .int 0, .int 0, .int 0])), (a2, .inr (2, [.ref b6, .int 0, .ref b7, .int 0]))] sz) [] t) (va_A [(a0, .inr (8, [.ref a1, .ref aT])), (a1, .inr (5, [.ref a2, .ref b1, .ref b2, .ref b3, .ref b4, .ref b5, .int 0, .int 1, .int 0, .int 0, .int 0, .int 0])), (a2, .inr (2, [.ref b6, .int 0, .ref b7, .int 0]))] sz)) 1 6 (va_A [(a0, .inr (8, [.ref a1, .ref aT])), (a1, .inr (5, [.ref a2, .ref b1, .ref b2, .ref b3, .ref b4, .ref b5, .int 0, .int 1, .int 0, .int 0, .int 0, .int 0])), (a2, .inr (2, [.ref b6, .int 0, .ref b7, .int 0]))] sz) := by
  refine vx_ofW (cc := cX8_phaseTicks) (maxL := 2) (ret := (some .int)) (by decide) rfl ?_
  intro p e s m args below meth c s₁ B hml htb hv
  obtain ⟨rfl, hsz, hP, hK, hD0, hE, hZ⟩ := hv
  have hx := B.exec
  have hb := B.bytes
  have hr := B.returns
  have hts0 := atoms_spec (ws := tp_w yX8_phaseTicks cX8_phaseTicks 2 (some .int)) B.pre
  have hts : ∀ w ∈ tp_all, w.before _ s = true := fun w h => hts0 w (List.mem_cons_of_mem _ h)
  have hown : s.vm.findClass RX8 = some m.cls := findClass_of_methodNamed B.named
  have hlocks := B.notSynchronized
  subst hsz
  have hD := hD0.self (sz := s.heap.size)
  generalize hAe : va_A [(a0, .inr (8, [.ref a1, .ref aT])), (a1, .inr (5, [.ref a2, .ref b1, .ref b2, .ref b3, .ref b4, .ref b5, .int 0, .int 1, .int 0, .int 0, .int 0, .int 0])), (a2, .inr (2, [.ref b6, .int 0, .ref b7, .int 0]))] s.heap.size = A at hD hZ ⊢
  have hA : ∀ q : Nat, s.heap.size ≤ q → A q := fun q h => by rw [← hAe]; exact Or.inr h
  have hS : va_S A s.heap s.heap [] := va_S.rf
  have hl9 := lv_entry ([.ref a0, .int p1]) (n := 2) (Nat.le_of_ble_eq_true rfl)
  rw [lg_entry_eq]
  generalize (lg_sl ([.ref a0, .int p1]) ++ List.replicate (2 - (lg_sl ([.ref a0, .int p1])).length) Slot.unset).toArray = ls at hl9 ⊢
  have hl : lv_has ls 2 [(0, .ref a0), (1, .int p1)] := hl9
  refine lv_aload_n hx hb dX8_phaseTicks_0 rfl (lv_at hl 0 rfl) ?_
  refine lv_iload_n hx hb dX8_phaseTicks_1 rfl (lv_at hl 1 rfl) ?_
  have hFc := va_free (wc := [(a0, .inr (8, [.ref a1, .ref aT])), (a1, .inr (5, [.ref a2, .ref b1, .ref b2, .ref b3, .ref b4, .ref b5, .int 0, .int 1, .int 0, .int 0, .int 0, .int 0])), (a2, .inr (2, [.ref b6, .int 0, .ref b7, .int 0]))]) hD hS hA [0, 1, 2] rfl
  refine vx_callv (vx_runV (As := [.int p1]) (rest := []) ⟨hx, hb, hml, hown, hts⟩ (tm_checkNode l hst dC dI cy a0 a1 a2 aT b1 b2 b3 b4 b5 b6 b7 p1 s.heap.size) (tp_cwV 1 hts tw_456 tw_458 tw_1 tw_38 tw_459 rfl rfl (by decide +kernel) ⟨Nat.le_of_ble_eq_true rfl, Nat.le_of_ble_eq_true rfl⟩) ⟨tp_blind, va_recv hK hP (ci := 8) (q0 := 0) rfl rfl, fun U hU hW => ⟨rfl, tp_pay hK hP hD hE hZ hS [0, 1, 2] (by decide) rfl hFc U hU hW⟩⟩ rfl rfl hl.1 rfl (lv_room (Nat.le_of_ble_eq_true rfl)) dX8_phaseTicks_2 ⟨(Nat.le_of_ble_eq_true rfl), (Nat.le_of_ble_eq_true rfl)⟩) hS (fun q _ h => hFc q h) hFc (fun q _ h => hFc q h) (fun E9 ce q9 u t H1 locs ht hvm hw hB hz1 hk1 hS hce hcv hcl => ?_) (fun u t H1 locs ht hvm hw hB hz1 hk1 hS => ?_)
  · obtain ⟨rfl, hP1, hD1⟩ := hB
    rw [ht] at hP1
    obtain ⟨hP, hD⟩ := va_join (wr := []) (w1 := []) hP hD [0, 1, 2] [] rfl rfl (by decide) (by decide) hk1 hFc hP1 hD1
    generalize H1 = H at hP hS hce ⊢
    have hP : va_P (dC, dI) vwCl [] _ := hP
    have hD : va_D A [] := hD
    refine vx_widen (k := 1) (n := 6) (Nat.le_of_ble_eq_true rfl) (Nat.le_of_ble_eq_true rfl) ?_
    exact vx_out (fun x hx9 => (htb x hx9).elim) hlocks hce hcv hcl (fun t ht hv => ⟨(), trivial, ⟨rfl, by rw [ht]; exact hP.sub [] rfl, hD.sub [] (by decide) rfl⟩, hS.F ht⟩) hS.2.2 (Nat.le_refl _) (Nat.le_refl _)
  · exact hw.elim
set_option maxRecDepth 100000 in
set_option maxHeartbeats 4000000 in
/-- distance on a new object: IndexOutOfBoundsException -/
theorem tm_distance (l : Launch) (hst : l.stackTraces = false) (dC : Nat → ClassId) (dI : Nat → Nat → Nat) (cy : Nat → ClassId) (a0 : Nat) (a1 : Nat) (a2 : Nat) (aT : Nat) (b1 : Nat) (b2 : Nat) (b3 : Nat) (b4 : Nat) (b5 : Nat) (b6 : Nat) (b7 : Nat) (p1 : Int32) (p2 : Int32) (sz : Nat) : vx_Met l yX8_distance (tp_w yX8_distance cX8_distance 3 (some .int)) ({ frames := 7, cells := 1, slots := 6, locals := 103 }) (va_Pc [.ref a0, .int p1, .int p2] (tp_Pre dC dI cy [(a0, .inr (8, [.ref a1, .ref aT])), (a1, .inr (5, [.ref a2, .ref b1, .ref b2, .ref b3, .ref b4, .ref b5, .int 0, .int 1, .int 0, .int 0, .int 0, .int 0])), (a2, .inr (2, [.ref b6, .int 0, .ref b7, .int 0]))] sz)) (va_Qv (fun _ : Unit => False) (fun (_ : Unit) (_ : State) => False) (va_A [(a0, .inr (8, [.ref a1, .ref aT])), (a1, .inr (5, [.ref a2, .ref b1, .ref b2, .ref b3, .ref b4, .ref b5, .int 0, .int 1, .int 0, .int 0, .int 0, .int 0])), (a2, .inr (2, [.ref b6, .int 0, .ref b7, .int 0]))] sz)) (vx_X (fun _ : Unit => True) (fun (E : String) (_ : Unit) (t : State) => (E = "java/lang/IndexOutOfBoundsException") ∧ tp_Post dC dI (va_A [(a0, .inr (8, [.ref a1, .ref aT])), (a1, .inr (5, [.ref a2, .ref b1, .ref b2, .ref b3, .ref b4, .ref b5, .int 0, .int 1, .int 0, .int 0, .int 0, .int 0])), (a2, .inr (2, [.ref b6, .int 0, .ref b7, .int 0]))] sz) [] t) (va_A [(a0, .inr (8, [.ref a1, .ref aT])), (a1, .inr (5, [.ref a2, .ref b1, .ref b2, .ref b3, .ref b4, .ref b5, .int 0, .int 1, .int 0, .int 0, .int 0, .int 0])), (a2, .inr (2, [.ref b6, .int 0, .ref b7, .int 0]))] sz)) 1 6 (va_A [(a0, .inr (8, [.ref a1, .ref aT])), (a1, .inr (5, [.ref a2, .ref b1, .ref b2, .ref b3, .ref b4, .ref b5, .int 0, .int 1, .int 0, .int 0, .int 0, .int 0])), (a2, .inr (2, [.ref b6, .int 0, .ref b7, .int 0]))] sz) := by
  refine vx_ofW (cc := cX8_distance) (maxL := 3) (ret := (some .int)) (by decide) rfl ?_
  intro p e s m args below meth c s₁ B hml htb hv
  obtain ⟨rfl, hsz, hP, hK, hD0, hE, hZ⟩ := hv
  have hx := B.exec
  have hb := B.bytes
  have hr := B.returns
  have hts0 := atoms_spec (ws := tp_w yX8_distance cX8_distance 3 (some .int)) B.pre
  have hts : ∀ w ∈ tp_all, w.before _ s = true := fun w h => hts0 w (List.mem_cons_of_mem _ h)
  have hown : s.vm.findClass RX8 = some m.cls := findClass_of_methodNamed B.named
  have hlocks := B.notSynchronized
  subst hsz
  have hD := hD0.self (sz := s.heap.size)
  generalize hAe : va_A [(a0, .inr (8, [.ref a1, .ref aT])), (a1, .inr (5, [.ref a2, .ref b1, .ref b2, .ref b3, .ref b4, .ref b5, .int 0, .int 1, .int 0, .int 0, .int 0, .int 0])), (a2, .inr (2, [.ref b6, .int 0, .ref b7, .int 0]))] s.heap.size = A at hD hZ ⊢
  have hA : ∀ q : Nat, s.heap.size ≤ q → A q := fun q h => by rw [← hAe]; exact Or.inr h
  have hS : va_S A s.heap s.heap [] := va_S.rf
  have hl9 := lv_entry ([.ref a0, .int p1, .int p2]) (n := 3) (Nat.le_of_ble_eq_true rfl)
  rw [lg_entry_eq]
  generalize (lg_sl ([.ref a0, .int p1, .int p2]) ++ List.replicate (3 - (lg_sl ([.ref a0, .int p1, .int p2])).length) Slot.unset).toArray = ls at hl9 ⊢
  have hl : lv_has ls 3 [(0, .ref a0), (1, .int p1), (2, .int p2)] := hl9
  refine lv_aload_n hx hb dX8_distance_0 rfl (lv_at hl 0 rfl) ?_
  refine lv_iload_n hx hb dX8_distance_1 rfl (lv_at hl 1 rfl) ?_
  have hFc := va_free (wc := [(a0, .inr (8, [.ref a1, .ref aT])), (a1, .inr (5, [.ref a2, .ref b1, .ref b2, .ref b3, .ref b4, .ref b5, .int 0, .int 1, .int 0, .int 0, .int 0, .int 0])), (a2, .inr (2, [.ref b6, .int 0, .ref b7, .int 0]))]) hD hS hA [0, 1, 2] rfl
  refine vx_callv (vx_runV (As := [.int p1]) (rest := []) ⟨hx, hb, hml, hown, hts⟩ (tm_checkNode l hst dC dI cy a0 a1 a2 aT b1 b2 b3 b4 b5 b6 b7 p1 s.heap.size) (tp_cwV 1 hts tw_456 tw_458 tw_1 tw_38 tw_459 rfl rfl (by decide +kernel) ⟨Nat.le_of_ble_eq_true rfl, Nat.le_of_ble_eq_true rfl⟩) ⟨tp_blind, va_recv hK hP (ci := 8) (q0 := 0) rfl rfl, fun U hU hW => ⟨rfl, tp_pay hK hP hD hE hZ hS [0, 1, 2] (by decide) rfl hFc U hU hW⟩⟩ rfl rfl hl.1 rfl (lv_room (Nat.le_of_ble_eq_true rfl)) dX8_distance_2 ⟨(Nat.le_of_ble_eq_true rfl), (Nat.le_of_ble_eq_true rfl)⟩) hS (fun q _ h => hFc q h) hFc (fun q _ h => hFc q h) (fun E9 ce q9 u t H1 locs ht hvm hw hB hz1 hk1 hS hce hcv hcl => ?_) (fun u t H1 locs ht hvm hw hB hz1 hk1 hS => ?_)
  · obtain ⟨rfl, hP1, hD1⟩ := hB
    rw [ht] at hP1
    obtain ⟨hP, hD⟩ := va_join (wr := []) (w1 := []) hP hD [0, 1, 2] [] rfl rfl (by decide) (by decide) hk1 hFc hP1 hD1
    generalize H1 = H at hP hS hce ⊢
    have hP : va_P (dC, dI) vwCl [] _ := hP
    have hD : va_D A [] := hD
    refine vx_widen (k := 1) (n := 6) (Nat.le_of_ble_eq_true rfl) (Nat.le_of_ble_eq_true rfl) ?_
    exact vx_out (fun x hx9 => (htb x hx9).elim) hlocks hce hcv hcl (fun t ht hv => ⟨(), trivial, ⟨rfl, by rw [ht]; exact hP.sub [] rfl, hD.sub [] (by decide) rfl⟩, hS.F ht⟩) hS.2.2 (Nat.le_refl _) (Nat.le_refl _)
  · exact hw.elim
set_option maxRecDepth 100000 in
set_option maxHeartbeats 4000000 in
/-- nextLink on a new object: IndexOutOfBoundsException -/
theorem tm_nextLink (l : Launch) (hst : l.stackTraces = false) (dC : Nat → ClassId) (dI : Nat → Nat → Nat) (cy : Nat → ClassId) (a0 : Nat) (a1 : Nat) (a2 : Nat) (aT : Nat) (b1 : Nat) (b2 : Nat) (b3 : Nat) (b4 : Nat) (b5 : Nat) (b6 : Nat) (b7 : Nat) (p1 : Int32) (p2 : Int32) (sz : Nat) : vx_Met l yX8_nextLink (tp_w yX8_nextLink cX8_nextLink 3 (some .int)) ({ frames := 7, cells := 1, slots := 6, locals := 103 }) (va_Pc [.ref a0, .int p1, .int p2] (tp_Pre dC dI cy [(a0, .inr (8, [.ref a1, .ref aT])), (a1, .inr (5, [.ref a2, .ref b1, .ref b2, .ref b3, .ref b4, .ref b5, .int 0, .int 1, .int 0, .int 0, .int 0, .int 0])), (a2, .inr (2, [.ref b6, .int 0, .ref b7, .int 0]))] sz)) (va_Qv (fun _ : Unit => False) (fun (_ : Unit) (_ : State) => False) (va_A [(a0, .inr (8, [.ref a1, .ref aT])), (a1, .inr (5, [.ref a2, .ref b1, .ref b2, .ref b3, .ref b4, .ref b5, .int 0, .int 1, .int 0, .int 0, .int 0, .int 0])), (a2, .inr (2, [.ref b6, .int 0, .ref b7, .int 0]))] sz)) (vx_X (fun _ : Unit => True) (fun (E : String) (_ : Unit) (t : State) => (E = "java/lang/IndexOutOfBoundsException") ∧ tp_Post dC dI (va_A [(a0, .inr (8, [.ref a1, .ref aT])), (a1, .inr (5, [.ref a2, .ref b1, .ref b2, .ref b3, .ref b4, .ref b5, .int 0, .int 1, .int 0, .int 0, .int 0, .int 0])), (a2, .inr (2, [.ref b6, .int 0, .ref b7, .int 0]))] sz) [] t) (va_A [(a0, .inr (8, [.ref a1, .ref aT])), (a1, .inr (5, [.ref a2, .ref b1, .ref b2, .ref b3, .ref b4, .ref b5, .int 0, .int 1, .int 0, .int 0, .int 0, .int 0])), (a2, .inr (2, [.ref b6, .int 0, .ref b7, .int 0]))] sz)) 1 6 (va_A [(a0, .inr (8, [.ref a1, .ref aT])), (a1, .inr (5, [.ref a2, .ref b1, .ref b2, .ref b3, .ref b4, .ref b5, .int 0, .int 1, .int 0, .int 0, .int 0, .int 0])), (a2, .inr (2, [.ref b6, .int 0, .ref b7, .int 0]))] sz) := by
  refine vx_ofW (cc := cX8_nextLink) (maxL := 3) (ret := (some .int)) (by decide) rfl ?_
  intro p e s m args below meth c s₁ B hml htb hv
  obtain ⟨rfl, hsz, hP, hK, hD0, hE, hZ⟩ := hv
  have hx := B.exec
  have hb := B.bytes
  have hr := B.returns
  have hts0 := atoms_spec (ws := tp_w yX8_nextLink cX8_nextLink 3 (some .int)) B.pre
  have hts : ∀ w ∈ tp_all, w.before _ s = true := fun w h => hts0 w (List.mem_cons_of_mem _ h)
  have hown : s.vm.findClass RX8 = some m.cls := findClass_of_methodNamed B.named
  have hlocks := B.notSynchronized
  subst hsz
  have hD := hD0.self (sz := s.heap.size)
  generalize hAe : va_A [(a0, .inr (8, [.ref a1, .ref aT])), (a1, .inr (5, [.ref a2, .ref b1, .ref b2, .ref b3, .ref b4, .ref b5, .int 0, .int 1, .int 0, .int 0, .int 0, .int 0])), (a2, .inr (2, [.ref b6, .int 0, .ref b7, .int 0]))] s.heap.size = A at hD hZ ⊢
  have hA : ∀ q : Nat, s.heap.size ≤ q → A q := fun q h => by rw [← hAe]; exact Or.inr h
  have hS : va_S A s.heap s.heap [] := va_S.rf
  have hl9 := lv_entry ([.ref a0, .int p1, .int p2]) (n := 3) (Nat.le_of_ble_eq_true rfl)
  rw [lg_entry_eq]
  generalize (lg_sl ([.ref a0, .int p1, .int p2]) ++ List.replicate (3 - (lg_sl ([.ref a0, .int p1, .int p2])).length) Slot.unset).toArray = ls at hl9 ⊢
  have hl : lv_has ls 3 [(0, .ref a0), (1, .int p1), (2, .int p2)] := hl9
  refine lv_aload_n hx hb dX8_nextLink_0 rfl (lv_at hl 0 rfl) ?_
  refine lv_iload_n hx hb dX8_nextLink_1 rfl (lv_at hl 1 rfl) ?_
  have hFc := va_free (wc := [(a0, .inr (8, [.ref a1, .ref aT])), (a1, .inr (5, [.ref a2, .ref b1, .ref b2, .ref b3, .ref b4, .ref b5, .int 0, .int 1, .int 0, .int 0, .int 0, .int 0])), (a2, .inr (2, [.ref b6, .int 0, .ref b7, .int 0]))]) hD hS hA [0, 1, 2] rfl
  refine vx_callv (vx_runV (As := [.int p1]) (rest := []) ⟨hx, hb, hml, hown, hts⟩ (tm_checkNode l hst dC dI cy a0 a1 a2 aT b1 b2 b3 b4 b5 b6 b7 p1 s.heap.size) (tp_cwV 1 hts tw_456 tw_458 tw_1 tw_38 tw_459 rfl rfl (by decide +kernel) ⟨Nat.le_of_ble_eq_true rfl, Nat.le_of_ble_eq_true rfl⟩) ⟨tp_blind, va_recv hK hP (ci := 8) (q0 := 0) rfl rfl, fun U hU hW => ⟨rfl, tp_pay hK hP hD hE hZ hS [0, 1, 2] (by decide) rfl hFc U hU hW⟩⟩ rfl rfl hl.1 rfl (lv_room (Nat.le_of_ble_eq_true rfl)) dX8_nextLink_2 ⟨(Nat.le_of_ble_eq_true rfl), (Nat.le_of_ble_eq_true rfl)⟩) hS (fun q _ h => hFc q h) hFc (fun q _ h => hFc q h) (fun E9 ce q9 u t H1 locs ht hvm hw hB hz1 hk1 hS hce hcv hcl => ?_) (fun u t H1 locs ht hvm hw hB hz1 hk1 hS => ?_)
  · obtain ⟨rfl, hP1, hD1⟩ := hB
    rw [ht] at hP1
    obtain ⟨hP, hD⟩ := va_join (wr := []) (w1 := []) hP hD [0, 1, 2] [] rfl rfl (by decide) (by decide) hk1 hFc hP1 hD1
    generalize H1 = H at hP hS hce ⊢
    have hP : va_P (dC, dI) vwCl [] _ := hP
    have hD : va_D A [] := hD
    refine vx_widen (k := 1) (n := 6) (Nat.le_of_ble_eq_true rfl) (Nat.le_of_ble_eq_true rfl) ?_
    exact vx_out (fun x hx9 => (htb x hx9).elim) hlocks hce hcv hcl (fun t ht hv => ⟨(), trivial, ⟨rfl, by rw [ht]; exact hP.sub [] rfl, hD.sub [] (by decide) rfl⟩, hS.F ht⟩) hS.2.2 (Nat.le_refl _) (Nat.le_refl _)
  · exact hw.elim
set_option maxRecDepth 100000 in
set_option maxHeartbeats 4000000 in
/-- stateOf on a new object: IndexOutOfBoundsException -/
theorem tm_stateOf (l : Launch) (hst : l.stackTraces = false) (dC : Nat → ClassId) (dI : Nat → Nat → Nat) (cy : Nat → ClassId) (a0 : Nat) (a1 : Nat) (a2 : Nat) (aT : Nat) (b1 : Nat) (b2 : Nat) (b3 : Nat) (b4 : Nat) (b5 : Nat) (b6 : Nat) (b7 : Nat) (p1 : Int32) (sz : Nat) : vx_Met l yX8_stateOf (tp_w yX8_stateOf cX8_stateOf 2 (some .int)) ({ frames := 7, cells := 1, slots := 6, locals := 104 }) (va_Pc [.ref a0, .int p1] (tp_Pre dC dI cy [(a0, .inr (8, [.ref a1, .ref aT])), (a1, .inr (5, [.ref a2, .ref b1, .ref b2, .ref b3, .ref b4, .ref b5, .int 0, .int 1, .int 0, .int 0, .int 0, .int 0])), (a2, .inr (2, [.ref b6, .int 0, .ref b7, .int 0]))] sz)) (va_Qv (fun _ : Unit => False) (fun (_ : Unit) (_ : State) => False) (va_A [(a0, .inr (8, [.ref a1, .ref aT])), (a1, .inr (5, [.ref a2, .ref b1, .ref b2, .ref b3, .ref b4, .ref b5, .int 0, .int 1, .int 0, .int 0, .int 0, .int 0])), (a2, .inr (2, [.ref b6, .int 0, .ref b7, .int 0]))] sz)) (vx_X (fun _ : Unit => True) (fun (E : String) (_ : Unit) (t : State) => (E = "java/lang/IndexOutOfBoundsException") ∧ tp_Post dC dI (va_A [(a0, .inr (8, [.ref a1, .ref aT])), (a1, .inr (5, [.ref a2, .ref b1, .ref b2, .ref b3, .ref b4, .ref b5, .int 0, .int 1, .int 0, .int 0, .int 0, .int 0])), (a2, .inr (2, [.ref b6, .int 0, .ref b7, .int 0]))] sz) [] t) (va_A [(a0, .inr (8, [.ref a1, .ref aT])), (a1, .inr (5, [.ref a2, .ref b1, .ref b2, .ref b3, .ref b4, .ref b5, .int 0, .int 1, .int 0, .int 0, .int 0, .int 0])), (a2, .inr (2, [.ref b6, .int 0, .ref b7, .int 0]))] sz)) 1 6 (va_A [(a0, .inr (8, [.ref a1, .ref aT])), (a1, .inr (5, [.ref a2, .ref b1, .ref b2, .ref b3, .ref b4, .ref b5, .int 0, .int 1, .int 0, .int 0, .int 0, .int 0])), (a2, .inr (2, [.ref b6, .int 0, .ref b7, .int 0]))] sz) := by
  refine vx_ofW (cc := cX8_stateOf) (maxL := 2) (ret := (some .int)) (by decide) rfl ?_
  intro p e s m args below meth c s₁ B hml htb hv
  obtain ⟨rfl, hsz, hP, hK, hD0, hE, hZ⟩ := hv
  have hx := B.exec
  have hb := B.bytes
  have hr := B.returns
  have hts0 := atoms_spec (ws := tp_w yX8_stateOf cX8_stateOf 2 (some .int)) B.pre
  have hts : ∀ w ∈ tp_all, w.before _ s = true := fun w h => hts0 w (List.mem_cons_of_mem _ h)
  have hown : s.vm.findClass RX8 = some m.cls := findClass_of_methodNamed B.named
  have hlocks := B.notSynchronized
  subst hsz
  have hD := hD0.self (sz := s.heap.size)
  generalize hAe : va_A [(a0, .inr (8, [.ref a1, .ref aT])), (a1, .inr (5, [.ref a2, .ref b1, .ref b2, .ref b3, .ref b4, .ref b5, .int 0, .int 1, .int 0, .int 0, .int 0, .int 0])), (a2, .inr (2, [.ref b6, .int 0, .ref b7, .int 0]))] s.heap.size = A at hD hZ ⊢
  have hA : ∀ q : Nat, s.heap.size ≤ q → A q := fun q h => by rw [← hAe]; exact Or.inr h
  have hS : va_S A s.heap s.heap [] := va_S.rf
  have hl9 := lv_entry ([.ref a0, .int p1]) (n := 2) (Nat.le_of_ble_eq_true rfl)
  rw [lg_entry_eq]
  generalize (lg_sl ([.ref a0, .int p1]) ++ List.replicate (2 - (lg_sl ([.ref a0, .int p1])).length) Slot.unset).toArray = ls at hl9 ⊢
  have hl : lv_has ls 2 [(0, .ref a0), (1, .int p1)] := hl9
  refine lv_aload_n hx hb dX8_stateOf_0 rfl (lv_at hl 0 rfl) ?_
  refine lv_iload_n hx hb dX8_stateOf_1 rfl (lv_at hl 1 rfl) ?_
  have hFc := va_free (wc := [(a0, .inr (8, [.ref a1, .ref aT])), (a1, .inr (5, [.ref a2, .ref b1, .ref b2, .ref b3, .ref b4, .ref b5, .int 0, .int 1, .int 0, .int 0, .int 0, .int 0])), (a2, .inr (2, [.ref b6, .int 0, .ref b7, .int 0]))]) hD hS hA [0, 1, 2] rfl
  refine vx_callv (vx_runV (As := [.int p1]) (rest := []) ⟨hx, hb, hml, hown, hts⟩ (tm_vehicleNumbered l hst dC dI cy a0 a1 a2 aT b1 b2 b3 b4 b5 b6 b7 p1 s.heap.size) (tp_cwV 1 hts tw_644 tw_646 tw_7 tw_38 tw_647 rfl rfl (by decide +kernel) ⟨Nat.le_of_ble_eq_true rfl, Nat.le_of_ble_eq_true rfl⟩) ⟨tp_blind, va_recv hK hP (ci := 8) (q0 := 0) rfl rfl, fun U hU hW => ⟨rfl, tp_pay hK hP hD hE hZ hS [0, 1, 2] (by decide) rfl hFc U hU hW⟩⟩ rfl rfl hl.1 rfl (lv_room (Nat.le_of_ble_eq_true rfl)) dX8_stateOf_2 ⟨(Nat.le_of_ble_eq_true rfl), (Nat.le_of_ble_eq_true rfl)⟩) hS (fun q _ h => hFc q h) hFc (fun q _ h => hFc q h) (fun E9 ce q9 u t H1 locs ht hvm hw hB hz1 hk1 hS hce hcv hcl => ?_) (fun u t H1 locs ht hvm hw hB hz1 hk1 hS => ?_)
  · obtain ⟨rfl, hP1, hD1⟩ := hB
    rw [ht] at hP1
    obtain ⟨hP, hD⟩ := va_join (wr := []) (w1 := []) hP hD [0, 1, 2] [] rfl rfl (by decide) (by decide) hk1 hFc hP1 hD1
    generalize H1 = H at hP hS hce ⊢
    have hP : va_P (dC, dI) vwCl [] _ := hP
    have hD : va_D A [] := hD
    refine vx_widen (k := 1) (n := 6) (Nat.le_of_ble_eq_true rfl) (Nat.le_of_ble_eq_true rfl) ?_
    exact vx_out (fun x hx9 => (htb x hx9).elim) hlocks hce hcv hcl (fun t ht hv => ⟨(), trivial, ⟨rfl, by rw [ht]; exact hP.sub [] rfl, hD.sub [] (by decide) rfl⟩, hS.F ht⟩) hS.2.2 (Nat.le_refl _) (Nat.le_refl _)
  · exact hw.elim
set_option maxRecDepth 100000 in
set_option maxHeartbeats 4000000 in
/-- linkOf on a new object: IndexOutOfBoundsException -/
theorem tm_linkOf (l : Launch) (hst : l.stackTraces = false) (dC : Nat → ClassId) (dI : Nat → Nat → Nat) (cy : Nat → ClassId) (a0 : Nat) (a1 : Nat) (a2 : Nat) (aT : Nat) (b1 : Nat) (b2 : Nat) (b3 : Nat) (b4 : Nat) (b5 : Nat) (b6 : Nat) (b7 : Nat) (p1 : Int32) (sz : Nat) : vx_Met l yX8_linkOf (tp_w yX8_linkOf cX8_linkOf 2 (some .int)) ({ frames := 7, cells := 1, slots := 6, locals := 104 }) (va_Pc [.ref a0, .int p1] (tp_Pre dC dI cy [(a0, .inr (8, [.ref a1, .ref aT])), (a1, .inr (5, [.ref a2, .ref b1, .ref b2, .ref b3, .ref b4, .ref b5, .int 0, .int 1, .int 0, .int 0, .int 0, .int 0])), (a2, .inr (2, [.ref b6, .int 0, .ref b7, .int 0]))] sz)) (va_Qv (fun _ : Unit => False) (fun (_ : Unit) (_ : State) => False) (va_A [(a0, .inr (8, [.ref a1, .ref aT])), (a1, .inr (5, [.ref a2, .ref b1, .ref b2, .ref b3, .ref b4, .ref b5, .int 0, .int 1, .int 0, .int 0, .int 0, .int 0])), (a2, .inr (2, [.ref b6, .int 0, .ref b7, .int 0]))] sz)) (vx_X (fun _ : Unit => True) (fun (E : String) (_ : Unit) (t : State) => (E = "java/lang/IndexOutOfBoundsException") ∧ tp_Post dC dI (va_A [(a0, .inr (8, [.ref a1, .ref aT])), (a1, .inr (5, [.ref a2, .ref b1, .ref b2, .ref b3, .ref b4, .ref b5, .int 0, .int 1, .int 0, .int 0, .int 0, .int 0])), (a2, .inr (2, [.ref b6, .int 0, .ref b7, .int 0]))] sz) [] t) (va_A [(a0, .inr (8, [.ref a1, .ref aT])), (a1, .inr (5, [.ref a2, .ref b1, .ref b2, .ref b3, .ref b4, .ref b5, .int 0, .int 1, .int 0, .int 0, .int 0, .int 0])), (a2, .inr (2, [.ref b6, .int 0, .ref b7, .int 0]))] sz)) 1 6 (va_A [(a0, .inr (8, [.ref a1, .ref aT])), (a1, .inr (5, [.ref a2, .ref b1, .ref b2, .ref b3, .ref b4, .ref b5, .int 0, .int 1, .int 0, .int 0, .int 0, .int 0])), (a2, .inr (2, [.ref b6, .int 0, .ref b7, .int 0]))] sz) := by
  refine vx_ofW (cc := cX8_linkOf) (maxL := 2) (ret := (some .int)) (by decide) rfl ?_
  intro p e s m args below meth c s₁ B hml htb hv
  obtain ⟨rfl, hsz, hP, hK, hD0, hE, hZ⟩ := hv
  have hx := B.exec
  have hb := B.bytes
  have hr := B.returns
  have hts0 := atoms_spec (ws := tp_w yX8_linkOf cX8_linkOf 2 (some .int)) B.pre
  have hts : ∀ w ∈ tp_all, w.before _ s = true := fun w h => hts0 w (List.mem_cons_of_mem _ h)
  have hown : s.vm.findClass RX8 = some m.cls := findClass_of_methodNamed B.named
  have hlocks := B.notSynchronized
  subst hsz
  have hD := hD0.self (sz := s.heap.size)
  generalize hAe : va_A [(a0, .inr (8, [.ref a1, .ref aT])), (a1, .inr (5, [.ref a2, .ref b1, .ref b2, .ref b3, .ref b4, .ref b5, .int 0, .int 1, .int 0, .int 0, .int 0, .int 0])), (a2, .inr (2, [.ref b6, .int 0, .ref b7, .int 0]))] s.heap.size = A at hD hZ ⊢
  have hA : ∀ q : Nat, s.heap.size ≤ q → A q := fun q h => by rw [← hAe]; exact Or.inr h
  have hS : va_S A s.heap s.heap [] := va_S.rf
  have hl9 := lv_entry ([.ref a0, .int p1]) (n := 2) (Nat.le_of_ble_eq_true rfl)
  rw [lg_entry_eq]
  generalize (lg_sl ([.ref a0, .int p1]) ++ List.replicate (2 - (lg_sl ([.ref a0, .int p1])).length) Slot.unset).toArray = ls at hl9 ⊢
  have hl : lv_has ls 2 [(0, .ref a0), (1, .int p1)] := hl9
  refine lv_aload_n hx hb dX8_linkOf_0 rfl (lv_at hl 0 rfl) ?_
  refine lv_iload_n hx hb dX8_linkOf_1 rfl (lv_at hl 1 rfl) ?_
  have hFc := va_free (wc := [(a0, .inr (8, [.ref a1, .ref aT])), (a1, .inr (5, [.ref a2, .ref b1, .ref b2, .ref b3, .ref b4, .ref b5, .int 0, .int 1, .int 0, .int 0, .int 0, .int 0])), (a2, .inr (2, [.ref b6, .int 0, .ref b7, .int 0]))]) hD hS hA [0, 1, 2] rfl
  refine vx_callv (vx_runV (As := [.int p1]) (rest := []) ⟨hx, hb, hml, hown, hts⟩ (tm_vehicleNumbered l hst dC dI cy a0 a1 a2 aT b1 b2 b3 b4 b5 b6 b7 p1 s.heap.size) (tp_cwV 1 hts tw_644 tw_646 tw_7 tw_38 tw_647 rfl rfl (by decide +kernel) ⟨Nat.le_of_ble_eq_true rfl, Nat.le_of_ble_eq_true rfl⟩) ⟨tp_blind, va_recv hK hP (ci := 8) (q0 := 0) rfl rfl, fun U hU hW => ⟨rfl, tp_pay hK hP hD hE hZ hS [0, 1, 2] (by decide) rfl hFc U hU hW⟩⟩ rfl rfl hl.1 rfl (lv_room (Nat.le_of_ble_eq_true rfl)) dX8_linkOf_2 ⟨(Nat.le_of_ble_eq_true rfl), (Nat.le_of_ble_eq_true rfl)⟩) hS (fun q _ h => hFc q h) hFc (fun q _ h => hFc q h) (fun E9 ce q9 u t H1 locs ht hvm hw hB hz1 hk1 hS hce hcv hcl => ?_) (fun u t H1 locs ht hvm hw hB hz1 hk1 hS => ?_)
  · obtain ⟨rfl, hP1, hD1⟩ := hB
    rw [ht] at hP1
    obtain ⟨hP, hD⟩ := va_join (wr := []) (w1 := []) hP hD [0, 1, 2] [] rfl rfl (by decide) (by decide) hk1 hFc hP1 hD1
    generalize H1 = H at hP hS hce ⊢
    have hP : va_P (dC, dI) vwCl [] _ := hP
    have hD : va_D A [] := hD
    refine vx_widen (k := 1) (n := 6) (Nat.le_of_ble_eq_true rfl) (Nat.le_of_ble_eq_true rfl) ?_
    exact vx_out (fun x hx9 => (htb x hx9).elim) hlocks hce hcv hcl (fun t ht hv => ⟨(), trivial, ⟨rfl, by rw [ht]; exact hP.sub [] rfl, hD.sub [] (by decide) rfl⟩, hS.F ht⟩) hS.2.2 (Nat.le_refl _) (Nat.le_refl _)
  · exact hw.elim
set_option maxRecDepth 100000 in
set_option maxHeartbeats 4000000 in
/-- endOf on a new object: IndexOutOfBoundsException -/
theorem tm_endOf (l : Launch) (hst : l.stackTraces = false) (dC : Nat → ClassId) (dI : Nat → Nat → Nat) (cy : Nat → ClassId) (a0 : Nat) (a1 : Nat) (a2 : Nat) (aT : Nat) (b1 : Nat) (b2 : Nat) (b3 : Nat) (b4 : Nat) (b5 : Nat) (b6 : Nat) (b7 : Nat) (p1 : Int32) (sz : Nat) : vx_Met l yX8_endOf (tp_w yX8_endOf cX8_endOf 2 (some .int)) ({ frames := 7, cells := 1, slots := 6, locals := 104 }) (va_Pc [.ref a0, .int p1] (tp_Pre dC dI cy [(a0, .inr (8, [.ref a1, .ref aT])), (a1, .inr (5, [.ref a2, .ref b1, .ref b2, .ref b3, .ref b4, .ref b5, .int 0, .int 1, .int 0, .int 0, .int 0, .int 0])), (a2, .inr (2, [.ref b6, .int 0, .ref b7, .int 0]))] sz)) (va_Qv (fun _ : Unit => False) (fun (_ : Unit) (_ : State) => False) (va_A [(a0, .inr (8, [.ref a1, .ref aT])), (a1, .inr (5, [.ref a2, .ref b1, .ref b2, .ref b3, .ref b4, .ref b5, .int 0, .int 1, .int 0, .int 0, .int 0, .int 0])), (a2, .inr (2, [.ref b6, .int 0, .ref b7, .int 0]))] sz)) (vx_X (fun _ : Unit => True) (fun (E : String) (_ : Unit) (t : State) => (E = "java/lang/IndexOutOfBoundsException") ∧ tp_Post dC dI (va_A [(a0, .inr (8, [.ref a1, .ref aT])), (a1, .inr (5, [.ref a2, .ref b1, .ref b2, .ref b3, .ref b4, .ref b5, .int 0, .int 1, .int 0, .int 0, .int 0, .int 0])), (a2, .inr (2, [.ref b6, .int 0, .ref b7, .int 0]))] sz) [] t) (va_A [(a0, .inr (8, [.ref a1, .ref aT])), (a1, .inr (5, [.ref a2, .ref b1, .ref b2, .ref b3, .ref b4, .ref b5, .int 0, .int 1, .int 0, .int 0, .int 0, .int 0])), (a2, .inr (2, [.ref b6, .int 0, .ref b7, .int 0]))] sz)) 1 6 (va_A [(a0, .inr (8, [.ref a1, .ref aT])), (a1, .inr (5, [.ref a2, .ref b1, .ref b2, .ref b3, .ref b4, .ref b5, .int 0, .int 1, .int 0, .int 0, .int 0, .int 0])), (a2, .inr (2, [.ref b6, .int 0, .ref b7, .int 0]))] sz) := by
  refine vx_ofW (cc := cX8_endOf) (maxL := 2) (ret := (some .int)) (by decide) rfl ?_
  intro p e s m args below meth c s₁ B hml htb hv
  obtain ⟨rfl, hsz, hP, hK, hD0, hE, hZ⟩ := hv
  have hx := B.exec
  have hb := B.bytes
  have hr := B.returns
  have hts0 := atoms_spec (ws := tp_w yX8_endOf cX8_endOf 2 (some .int)) B.pre
  have hts : ∀ w ∈ tp_all, w.before _ s = true := fun w h => hts0 w (List.mem_cons_of_mem _ h)
  have hown : s.vm.findClass RX8 = some m.cls := findClass_of_methodNamed B.named
  have hlocks := B.notSynchronized
  subst hsz
  have hD := hD0.self (sz := s.heap.size)
  generalize hAe : va_A [(a0, .inr (8, [.ref a1, .ref aT])), (a1, .inr (5, [.ref a2, .ref b1, .ref b2, .ref b3, .ref b4, .ref b5, .int 0, .int 1, .int 0, .int 0, .int 0, .int 0])), (a2, .inr (2, [.ref b6, .int 0, .ref b7, .int 0]))] s.heap.size = A at hD hZ ⊢
  have hA : ∀ q : Nat, s.heap.size ≤ q → A q := fun q h => by rw [← hAe]; exact Or.inr h
  have hS : va_S A s.heap s.heap [] := va_S.rf
  have hl9 := lv_entry ([.ref a0, .int p1]) (n := 2) (Nat.le_of_ble_eq_true rfl)
  rw [lg_entry_eq]
  generalize (lg_sl ([.ref a0, .int p1]) ++ List.replicate (2 - (lg_sl ([.ref a0, .int p1])).length) Slot.unset).toArray = ls at hl9 ⊢
  have hl : lv_has ls 2 [(0, .ref a0), (1, .int p1)] := hl9
  refine lv_aload_n hx hb dX8_endOf_0 rfl (lv_at hl 0 rfl) ?_
  refine lv_iload_n hx hb dX8_endOf_1 rfl (lv_at hl 1 rfl) ?_
  have hFc := va_free (wc := [(a0, .inr (8, [.ref a1, .ref aT])), (a1, .inr (5, [.ref a2, .ref b1, .ref b2, .ref b3, .ref b4, .ref b5, .int 0, .int 1, .int 0, .int 0, .int 0, .int 0])), (a2, .inr (2, [.ref b6, .int 0, .ref b7, .int 0]))]) hD hS hA [0, 1, 2] rfl
  refine vx_callv (vx_runV (As := [.int p1]) (rest := []) ⟨hx, hb, hml, hown, hts⟩ (tm_vehicleNumbered l hst dC dI cy a0 a1 a2 aT b1 b2 b3 b4 b5 b6 b7 p1 s.heap.size) (tp_cwV 1 hts tw_644 tw_646 tw_7 tw_38 tw_647 rfl rfl (by decide +kernel) ⟨Nat.le_of_ble_eq_true rfl, Nat.le_of_ble_eq_true rfl⟩) ⟨tp_blind, va_recv hK hP (ci := 8) (q0 := 0) rfl rfl, fun U hU hW => ⟨rfl, tp_pay hK hP hD hE hZ hS [0, 1, 2] (by decide) rfl hFc U hU hW⟩⟩ rfl rfl hl.1 rfl (lv_room (Nat.le_of_ble_eq_true rfl)) dX8_endOf_2 ⟨(Nat.le_of_ble_eq_true rfl), (Nat.le_of_ble_eq_true rfl)⟩) hS (fun q _ h => hFc q h) hFc (fun q _ h => hFc q h) (fun E9 ce q9 u t H1 locs ht hvm hw hB hz1 hk1 hS hce hcv hcl => ?_) (fun u t H1 locs ht hvm hw hB hz1 hk1 hS => ?_)
  · obtain ⟨rfl, hP1, hD1⟩ := hB
    rw [ht] at hP1
    obtain ⟨hP, hD⟩ := va_join (wr := []) (w1 := []) hP hD [0, 1, 2] [] rfl rfl (by decide) (by decide) hk1 hFc hP1 hD1
    generalize H1 = H at hP hS hce ⊢
    have hP : va_P (dC, dI) vwCl [] _ := hP
    have hD : va_D A [] := hD
    refine vx_widen (k := 1) (n := 6) (Nat.le_of_ble_eq_true rfl) (Nat.le_of_ble_eq_true rfl) ?_
    exact vx_out (fun x hx9 => (htb x hx9).elim) hlocks hce hcv hcl (fun t ht hv => ⟨(), trivial, ⟨rfl, by rw [ht]; exact hP.sub [] rfl, hD.sub [] (by decide) rfl⟩, hS.F ht⟩) hS.2.2 (Nat.le_refl _) (Nat.le_refl _)
  · exact hw.elim
set_option maxRecDepth 100000 in
set_option maxHeartbeats 4000000 in
/-- linksOf on a new object: IndexOutOfBoundsException -/
theorem tm_linksOf (l : Launch) (hst : l.stackTraces = false) (dC : Nat → ClassId) (dI : Nat → Nat → Nat) (cy : Nat → ClassId) (a0 : Nat) (a1 : Nat) (a2 : Nat) (aT : Nat) (b1 : Nat) (b2 : Nat) (b3 : Nat) (b4 : Nat) (b5 : Nat) (b6 : Nat) (b7 : Nat) (p1 : Int32) (sz : Nat) : vx_Met l yX8_linksOf (tp_w yX8_linksOf cX8_linksOf 2 (some .int)) ({ frames := 7, cells := 1, slots := 6, locals := 104 }) (va_Pc [.ref a0, .int p1] (tp_Pre dC dI cy [(a0, .inr (8, [.ref a1, .ref aT])), (a1, .inr (5, [.ref a2, .ref b1, .ref b2, .ref b3, .ref b4, .ref b5, .int 0, .int 1, .int 0, .int 0, .int 0, .int 0])), (a2, .inr (2, [.ref b6, .int 0, .ref b7, .int 0]))] sz)) (va_Qv (fun _ : Unit => False) (fun (_ : Unit) (_ : State) => False) (va_A [(a0, .inr (8, [.ref a1, .ref aT])), (a1, .inr (5, [.ref a2, .ref b1, .ref b2, .ref b3, .ref b4, .ref b5, .int 0, .int 1, .int 0, .int 0, .int 0, .int 0])), (a2, .inr (2, [.ref b6, .int 0, .ref b7, .int 0]))] sz)) (vx_X (fun _ : Unit => True) (fun (E : String) (_ : Unit) (t : State) => (E = "java/lang/IndexOutOfBoundsException") ∧ tp_Post dC dI (va_A [(a0, .inr (8, [.ref a1, .ref aT])), (a1, .inr (5, [.ref a2, .ref b1, .ref b2, .ref b3, .ref b4, .ref b5, .int 0, .int 1, .int 0, .int 0, .int 0, .int 0])), (a2, .inr (2, [.ref b6, .int 0, .ref b7, .int 0]))] sz) [] t) (va_A [(a0, .inr (8, [.ref a1, .ref aT])), (a1, .inr (5, [.ref a2, .ref b1, .ref b2, .ref b3, .ref b4, .ref b5, .int 0, .int 1, .int 0, .int 0, .int 0, .int 0])), (a2, .inr (2, [.ref b6, .int 0, .ref b7, .int 0]))] sz)) 1 6 (va_A [(a0, .inr (8, [.ref a1, .ref aT])), (a1, .inr (5, [.ref a2, .ref b1, .ref b2, .ref b3, .ref b4, .ref b5, .int 0, .int 1, .int 0, .int 0, .int 0, .int 0])), (a2, .inr (2, [.ref b6, .int 0, .ref b7, .int 0]))] sz) := by
  refine vx_ofW (cc := cX8_linksOf) (maxL := 2) (ret := (some .int)) (by decide) rfl ?_
  intro p e s m args below meth c s₁ B hml htb hv
  obtain ⟨rfl, hsz, hP, hK, hD0, hE, hZ⟩ := hv
  have hx := B.exec
  have hb := B.bytes
  have hr := B.returns
  have hts0 := atoms_spec (ws := tp_w yX8_linksOf cX8_linksOf 2 (some .int)) B.pre
  have hts : ∀ w ∈ tp_all, w.before _ s = true := fun w h => hts0 w (List.mem_cons_of_mem _ h)
  have hown : s.vm.findClass RX8 = some m.cls := findClass_of_methodNamed B.named
  have hlocks := B.notSynchronized
  subst hsz
  have hD := hD0.self (sz := s.heap.size)
  generalize hAe : va_A [(a0, .inr (8, [.ref a1, .ref aT])), (a1, .inr (5, [.ref a2, .ref b1, .ref b2, .ref b3, .ref b4, .ref b5, .int 0, .int 1, .int 0, .int 0, .int 0, .int 0])), (a2, .inr (2, [.ref b6, .int 0, .ref b7, .int 0]))] s.heap.size = A at hD hZ ⊢
  have hA : ∀ q : Nat, s.heap.size ≤ q → A q := fun q h => by rw [← hAe]; exact Or.inr h
  have hS : va_S A s.heap s.heap [] := va_S.rf
  have hl9 := lv_entry ([.ref a0, .int p1]) (n := 2) (Nat.le_of_ble_eq_true rfl)
  rw [lg_entry_eq]
  generalize (lg_sl ([.ref a0, .int p1]) ++ List.replicate (2 - (lg_sl ([.ref a0, .int p1])).length) Slot.unset).toArray = ls at hl9 ⊢
  have hl : lv_has ls 2 [(0, .ref a0), (1, .int p1)] := hl9
  refine lv_aload_n hx hb dX8_linksOf_0 rfl (lv_at hl 0 rfl) ?_
  refine lv_iload_n hx hb dX8_linksOf_1 rfl (lv_at hl 1 rfl) ?_
  have hFc := va_free (wc := [(a0, .inr (8, [.ref a1, .ref aT])), (a1, .inr (5, [.ref a2, .ref b1, .ref b2, .ref b3, .ref b4, .ref b5, .int 0, .int 1, .int 0, .int 0, .int 0, .int 0])), (a2, .inr (2, [.ref b6, .int 0, .ref b7, .int 0]))]) hD hS hA [0, 1, 2] rfl
  refine vx_callv (vx_runV (As := [.int p1]) (rest := []) ⟨hx, hb, hml, hown, hts⟩ (tm_vehicleNumbered l hst dC dI cy a0 a1 a2 aT b1 b2 b3 b4 b5 b6 b7 p1 s.heap.size) (tp_cwV 1 hts tw_644 tw_646 tw_7 tw_38 tw_647 rfl rfl (by decide +kernel) ⟨Nat.le_of_ble_eq_true rfl, Nat.le_of_ble_eq_true rfl⟩) ⟨tp_blind, va_recv hK hP (ci := 8) (q0 := 0) rfl rfl, fun U hU hW => ⟨rfl, tp_pay hK hP hD hE hZ hS [0, 1, 2] (by decide) rfl hFc U hU hW⟩⟩ rfl rfl hl.1 rfl (lv_room (Nat.le_of_ble_eq_true rfl)) dX8_linksOf_2 ⟨(Nat.le_of_ble_eq_true rfl), (Nat.le_of_ble_eq_true rfl)⟩) hS (fun q _ h => hFc q h) hFc (fun q _ h => hFc q h) (fun E9 ce q9 u t H1 locs ht hvm hw hB hz1 hk1 hS hce hcv hcl => ?_) (fun u t H1 locs ht hvm hw hB hz1 hk1 hS => ?_)
  · obtain ⟨rfl, hP1, hD1⟩ := hB
    rw [ht] at hP1
    obtain ⟨hP, hD⟩ := va_join (wr := []) (w1 := []) hP hD [0, 1, 2] [] rfl rfl (by decide) (by decide) hk1 hFc hP1 hD1
    generalize H1 = H at hP hS hce ⊢
    have hP : va_P (dC, dI) vwCl [] _ := hP
    have hD : va_D A [] := hD
    refine vx_widen (k := 1) (n := 6) (Nat.le_of_ble_eq_true rfl) (Nat.le_of_ble_eq_true rfl) ?_
    exact vx_out (fun x hx9 => (htb x hx9).elim) hlocks hce hcv hcl (fun t ht hv => ⟨(), trivial, ⟨rfl, by rw [ht]; exact hP.sub [] rfl, hD.sub [] (by decide) rfl⟩, hS.F ht⟩) hS.2.2 (Nat.le_refl _) (Nat.le_refl _)
  · exact hw.elim
set_option maxRecDepth 100000 in
set_option maxHeartbeats 4000000 in
/-- linkAt on a new object: IndexOutOfBoundsException -/
theorem tm_linkAt (l : Launch) (hst : l.stackTraces = false) (dC : Nat → ClassId) (dI : Nat → Nat → Nat) (cy : Nat → ClassId) (a0 : Nat) (a1 : Nat) (a2 : Nat) (aT : Nat) (b1 : Nat) (b2 : Nat) (b3 : Nat) (b4 : Nat) (b5 : Nat) (b6 : Nat) (b7 : Nat) (p1 : Int32) (p2 : Int32) (sz : Nat) : vx_Met l yX8_linkAt (tp_w yX8_linkAt cX8_linkAt 4 (some .int)) ({ frames := 7, cells := 1, slots := 6, locals := 104 }) (va_Pc [.ref a0, .int p1, .int p2] (tp_Pre dC dI cy [(a0, .inr (8, [.ref a1, .ref aT])), (a1, .inr (5, [.ref a2, .ref b1, .ref b2, .ref b3, .ref b4, .ref b5, .int 0, .int 1, .int 0, .int 0, .int 0, .int 0])), (a2, .inr (2, [.ref b6, .int 0, .ref b7, .int 0]))] sz)) (va_Qv (fun _ : Unit => False) (fun (_ : Unit) (_ : State) => False) (va_A [(a0, .inr (8, [.ref a1, .ref aT])), (a1, .inr (5, [.ref a2, .ref b1, .ref b2, .ref b3, .ref b4, .ref b5, .int 0, .int 1, .int 0, .int 0, .int 0, .int 0])), (a2, .inr (2, [.ref b6, .int 0, .ref b7, .int 0]))] sz)) (vx_X (fun _ : Unit => True) (fun (E : String) (_ : Unit) (t : State) => (E = "java/lang/IndexOutOfBoundsException") ∧ tp_Post dC dI (va_A [(a0, .inr (8, [.ref a1, .ref aT])), (a1, .inr (5, [.ref a2, .ref b1, .ref b2, .ref b3, .ref b4, .ref b5, .int 0, .int 1, .int 0, .int 0, .int 0, .int 0])), (a2, .inr (2, [.ref b6, .int 0, .ref b7, .int 0]))] sz) [] t) (va_A [(a0, .inr (8, [.ref a1, .ref aT])), (a1, .inr (5, [.ref a2, .ref b1, .ref b2, .ref b3, .ref b4, .ref b5, .int 0, .int 1, .int 0, .int 0, .int 0, .int 0])), (a2, .inr (2, [.ref b6, .int 0, .ref b7, .int 0]))] sz)) 1 6 (va_A [(a0, .inr (8, [.ref a1, .ref aT])), (a1, .inr (5, [.ref a2, .ref b1, .ref b2, .ref b3, .ref b4, .ref b5, .int 0, .int 1, .int 0, .int 0, .int 0, .int 0])), (a2, .inr (2, [.ref b6, .int 0, .ref b7, .int 0]))] sz) := by
  refine vx_ofW (cc := cX8_linkAt) (maxL := 4) (ret := (some .int)) (by decide) rfl ?_
  intro p e s m args below meth c s₁ B hml htb hv
  obtain ⟨rfl, hsz, hP, hK, hD0, hE, hZ⟩ := hv
  have hx := B.exec
  have hb := B.bytes
  have hr := B.returns
  have hts0 := atoms_spec (ws := tp_w yX8_linkAt cX8_linkAt 4 (some .int)) B.pre
  have hts : ∀ w ∈ tp_all, w.before _ s = true := fun w h => hts0 w (List.mem_cons_of_mem _ h)
  have hown : s.vm.findClass RX8 = some m.cls := findClass_of_methodNamed B.named
  have hlocks := B.notSynchronized
  subst hsz
  have hD := hD0.self (sz := s.heap.size)
  generalize hAe : va_A [(a0, .inr (8, [.ref a1, .ref aT])), (a1, .inr (5, [.ref a2, .ref b1, .ref b2, .ref b3, .ref b4, .ref b5, .int 0, .int 1, .int 0, .int 0, .int 0, .int 0])), (a2, .inr (2, [.ref b6, .int 0, .ref b7, .int 0]))] s.heap.size = A at hD hZ ⊢
  have hA : ∀ q : Nat, s.heap.size ≤ q → A q := fun q h => by rw [← hAe]; exact Or.inr h
  have hS : va_S A s.heap s.heap [] := va_S.rf
  have hl9 := lv_entry ([.ref a0, .int p1, .int p2]) (n := 4) (Nat.le_of_ble_eq_true rfl)
  rw [lg_entry_eq]
  generalize (lg_sl ([.ref a0, .int p1, .int p2]) ++ List.replicate (4 - (lg_sl ([.ref a0, .int p1, .int p2])).length) Slot.unset).toArray = ls at hl9 ⊢
  have hl : lv_has ls 4 [(0, .ref a0), (1, .int p1), (2, .int p2)] := hl9
  refine lv_aload_n hx hb dX8_linkAt_0 rfl (lv_at hl 0 rfl) ?_
  refine lv_iload_n hx hb dX8_linkAt_1 rfl (lv_at hl 1 rfl) ?_
  have hFc := va_free (wc := [(a0, .inr (8, [.ref a1, .ref aT])), (a1, .inr (5, [.ref a2, .ref b1, .ref b2, .ref b3, .ref b4, .ref b5, .int 0, .int 1, .int 0, .int 0, .int 0, .int 0])), (a2, .inr (2, [.ref b6, .int 0, .ref b7, .int 0]))]) hD hS hA [0, 1, 2] rfl
  refine vx_callv (vx_runV (As := [.int p1]) (rest := []) ⟨hx, hb, hml, hown, hts⟩ (tm_vehicleNumbered l hst dC dI cy a0 a1 a2 aT b1 b2 b3 b4 b5 b6 b7 p1 s.heap.size) (tp_cwV 1 hts tw_644 tw_646 tw_7 tw_38 tw_647 rfl rfl (by decide +kernel) ⟨Nat.le_of_ble_eq_true rfl, Nat.le_of_ble_eq_true rfl⟩) ⟨tp_blind, va_recv hK hP (ci := 8) (q0 := 0) rfl rfl, fun U hU hW => ⟨rfl, tp_pay hK hP hD hE hZ hS [0, 1, 2] (by decide) rfl hFc U hU hW⟩⟩ rfl rfl hl.1 rfl (lv_room (Nat.le_of_ble_eq_true rfl)) dX8_linkAt_2 ⟨(Nat.le_of_ble_eq_true rfl), (Nat.le_of_ble_eq_true rfl)⟩) hS (fun q _ h => hFc q h) hFc (fun q _ h => hFc q h) (fun E9 ce q9 u t H1 locs ht hvm hw hB hz1 hk1 hS hce hcv hcl => ?_) (fun u t H1 locs ht hvm hw hB hz1 hk1 hS => ?_)
  · obtain ⟨rfl, hP1, hD1⟩ := hB
    rw [ht] at hP1
    obtain ⟨hP, hD⟩ := va_join (wr := []) (w1 := []) hP hD [0, 1, 2] [] rfl rfl (by decide) (by decide) hk1 hFc hP1 hD1
    generalize H1 = H at hP hS hce ⊢
    have hP : va_P (dC, dI) vwCl [] _ := hP
    have hD : va_D A [] := hD
    refine vx_widen (k := 1) (n := 6) (Nat.le_of_ble_eq_true rfl) (Nat.le_of_ble_eq_true rfl) ?_
    exact vx_out (fun x hx9 => (htb x hx9).elim) hlocks hce hcv hcl (fun t ht hv => ⟨(), trivial, ⟨rfl, by rw [ht]; exact hP.sub [] rfl, hD.sub [] (by decide) rfl⟩, hS.F ht⟩) hS.2.2 (Nat.le_refl _) (Nat.le_refl _)
  · exact hw.elim
set_option maxRecDepth 100000 in
set_option maxHeartbeats 4000000 in
/-- tripOf on a new object: IndexOutOfBoundsException -/
theorem tm_tripOf (l : Launch) (hst : l.stackTraces = false) (dC : Nat → ClassId) (dI : Nat → Nat → Nat) (cy : Nat → ClassId) (a0 : Nat) (a1 : Nat) (a2 : Nat) (aT : Nat) (b1 : Nat) (b2 : Nat) (b3 : Nat) (b4 : Nat) (b5 : Nat) (b6 : Nat) (b7 : Nat) (p1 : Int32) (sz : Nat) : vx_Met l yX8_tripOf (tp_w yX8_tripOf cX8_tripOf 2 (some .int)) ({ frames := 7, cells := 1, slots := 6, locals := 104 }) (va_Pc [.ref a0, .int p1] (tp_Pre dC dI cy [(a0, .inr (8, [.ref a1, .ref aT])), (a1, .inr (5, [.ref a2, .ref b1, .ref b2, .ref b3, .ref b4, .ref b5, .int 0, .int 1, .int 0, .int 0, .int 0, .int 0])), (a2, .inr (2, [.ref b6, .int 0, .ref b7, .int 0]))] sz)) (va_Qv (fun _ : Unit => False) (fun (_ : Unit) (_ : State) => False) (va_A [(a0, .inr (8, [.ref a1, .ref aT])), (a1, .inr (5, [.ref a2, .ref b1, .ref b2, .ref b3, .ref b4, .ref b5, .int 0, .int 1, .int 0, .int 0, .int 0, .int 0])), (a2, .inr (2, [.ref b6, .int 0, .ref b7, .int 0]))] sz)) (vx_X (fun _ : Unit => True) (fun (E : String) (_ : Unit) (t : State) => (E = "java/lang/IndexOutOfBoundsException") ∧ tp_Post dC dI (va_A [(a0, .inr (8, [.ref a1, .ref aT])), (a1, .inr (5, [.ref a2, .ref b1, .ref b2, .ref b3, .ref b4, .ref b5, .int 0, .int 1, .int 0, .int 0, .int 0, .int 0])), (a2, .inr (2, [.ref b6, .int 0, .ref b7, .int 0]))] sz) [] t) (va_A [(a0, .inr (8, [.ref a1, .ref aT])), (a1, .inr (5, [.ref a2, .ref b1, .ref b2, .ref b3, .ref b4, .ref b5, .int 0, .int 1, .int 0, .int 0, .int 0, .int 0])), (a2, .inr (2, [.ref b6, .int 0, .ref b7, .int 0]))] sz)) 1 6 (va_A [(a0, .inr (8, [.ref a1, .ref aT])), (a1, .inr (5, [.ref a2, .ref b1, .ref b2, .ref b3, .ref b4, .ref b5, .int 0, .int 1, .int 0, .int 0, .int 0, .int 0])), (a2, .inr (2, [.ref b6, .int 0, .ref b7, .int 0]))] sz) := by
  refine vx_ofW (cc := cX8_tripOf) (maxL := 2) (ret := (some .int)) (by decide) rfl ?_
  intro p e s m args below meth c s₁ B hml htb hv
  obtain ⟨rfl, hsz, hP, hK, hD0, hE, hZ⟩ := hv
  have hx := B.exec
  have hb := B.bytes
  have hr := B.returns
  have hts0 := atoms_spec (ws := tp_w yX8_tripOf cX8_tripOf 2 (some .int)) B.pre
  have hts : ∀ w ∈ tp_all, w.before _ s = true := fun w h => hts0 w (List.mem_cons_of_mem _ h)
  have hown : s.vm.findClass RX8 = some m.cls := findClass_of_methodNamed B.named
  have hlocks := B.notSynchronized
  subst hsz
  have hD := hD0.self (sz := s.heap.size)
  generalize hAe : va_A [(a0, .inr (8, [.ref a1, .ref aT])), (a1, .inr (5, [.ref a2, .ref b1, .ref b2, .ref b3, .ref b4, .ref b5, .int 0, .int 1, .int 0, .int 0, .int 0, .int 0])), (a2, .inr (2, [.ref b6, .int 0, .ref b7, .int 0]))] s.heap.size = A at hD hZ ⊢
  have hA : ∀ q : Nat, s.heap.size ≤ q → A q := fun q h => by rw [← hAe]; exact Or.inr h
  have hS : va_S A s.heap s.heap [] := va_S.rf
  have hl9 := lv_entry ([.ref a0, .int p1]) (n := 2) (Nat.le_of_ble_eq_true rfl)
  rw [lg_entry_eq]
  generalize (lg_sl ([.ref a0, .int p1]) ++ List.replicate (2 - (lg_sl ([.ref a0, .int p1])).length) Slot.unset).toArray = ls at hl9 ⊢
  have hl : lv_has ls 2 [(0, .ref a0), (1, .int p1)] := hl9
  refine lv_aload_n hx hb dX8_tripOf_0 rfl (lv_at hl 0 rfl) ?_
  refine lv_iload_n hx hb dX8_tripOf_1 rfl (lv_at hl 1 rfl) ?_
  have hFc := va_free (wc := [(a0, .inr (8, [.ref a1, .ref aT])), (a1, .inr (5, [.ref a2, .ref b1, .ref b2, .ref b3, .ref b4, .ref b5, .int 0, .int 1, .int 0, .int 0, .int 0, .int 0])), (a2, .inr (2, [.ref b6, .int 0, .ref b7, .int 0]))]) hD hS hA [0, 1, 2] rfl
  refine vx_callv (vx_runV (As := [.int p1]) (rest := []) ⟨hx, hb, hml, hown, hts⟩ (tm_vehicleNumbered l hst dC dI cy a0 a1 a2 aT b1 b2 b3 b4 b5 b6 b7 p1 s.heap.size) (tp_cwV 1 hts tw_644 tw_646 tw_7 tw_38 tw_647 rfl rfl (by decide +kernel) ⟨Nat.le_of_ble_eq_true rfl, Nat.le_of_ble_eq_true rfl⟩) ⟨tp_blind, va_recv hK hP (ci := 8) (q0 := 0) rfl rfl, fun U hU hW => ⟨rfl, tp_pay hK hP hD hE hZ hS [0, 1, 2] (by decide) rfl hFc U hU hW⟩⟩ rfl rfl hl.1 rfl (lv_room (Nat.le_of_ble_eq_true rfl)) dX8_tripOf_2 ⟨(Nat.le_of_ble_eq_true rfl), (Nat.le_of_ble_eq_true rfl)⟩) hS (fun q _ h => hFc q h) hFc (fun q _ h => hFc q h) (fun E9 ce q9 u t H1 locs ht hvm hw hB hz1 hk1 hS hce hcv hcl => ?_) (fun u t H1 locs ht hvm hw hB hz1 hk1 hS => ?_)
  · obtain ⟨rfl, hP1, hD1⟩ := hB
    rw [ht] at hP1
    obtain ⟨hP, hD⟩ := va_join (wr := []) (w1 := []) hP hD [0, 1, 2] [] rfl rfl (by decide) (by decide) hk1 hFc hP1 hD1
    generalize H1 = H at hP hS hce ⊢
    have hP : va_P (dC, dI) vwCl [] _ := hP
    have hD : va_D A [] := hD
    refine vx_widen (k := 1) (n := 6) (Nat.le_of_ble_eq_true rfl) (Nat.le_of_ble_eq_true rfl) ?_
    exact vx_out (fun x hx9 => (htb x hx9).elim) hlocks hce hcv hcl (fun t ht hv => ⟨(), trivial, ⟨rfl, by rw [ht]; exact hP.sub [] rfl, hD.sub [] (by decide) rfl⟩, hS.F ht⟩) hS.2.2 (Nat.le_refl _) (Nat.le_refl _)
  · exact hw.elim
set_option maxRecDepth 100000 in
set_option maxHeartbeats 4000000 in
/-- delayOf on a new object: IndexOutOfBoundsException -/
theorem tm_delayOf (l : Launch) (hst : l.stackTraces = false) (dC : Nat → ClassId) (dI : Nat → Nat → Nat) (cy : Nat → ClassId) (a0 : Nat) (a1 : Nat) (a2 : Nat) (aT : Nat) (b1 : Nat) (b2 : Nat) (b3 : Nat) (b4 : Nat) (b5 : Nat) (b6 : Nat) (b7 : Nat) (p1 : Int32) (sz : Nat) : vx_Met l yX8_delayOf (tp_w yX8_delayOf cX8_delayOf 2 (some .int)) ({ frames := 7, cells := 1, slots := 6, locals := 104 }) (va_Pc [.ref a0, .int p1] (tp_Pre dC dI cy [(a0, .inr (8, [.ref a1, .ref aT])), (a1, .inr (5, [.ref a2, .ref b1, .ref b2, .ref b3, .ref b4, .ref b5, .int 0, .int 1, .int 0, .int 0, .int 0, .int 0])), (a2, .inr (2, [.ref b6, .int 0, .ref b7, .int 0]))] sz)) (va_Qv (fun _ : Unit => False) (fun (_ : Unit) (_ : State) => False) (va_A [(a0, .inr (8, [.ref a1, .ref aT])), (a1, .inr (5, [.ref a2, .ref b1, .ref b2, .ref b3, .ref b4, .ref b5, .int 0, .int 1, .int 0, .int 0, .int 0, .int 0])), (a2, .inr (2, [.ref b6, .int 0, .ref b7, .int 0]))] sz)) (vx_X (fun _ : Unit => True) (fun (E : String) (_ : Unit) (t : State) => (E = "java/lang/IndexOutOfBoundsException") ∧ tp_Post dC dI (va_A [(a0, .inr (8, [.ref a1, .ref aT])), (a1, .inr (5, [.ref a2, .ref b1, .ref b2, .ref b3, .ref b4, .ref b5, .int 0, .int 1, .int 0, .int 0, .int 0, .int 0])), (a2, .inr (2, [.ref b6, .int 0, .ref b7, .int 0]))] sz) [] t) (va_A [(a0, .inr (8, [.ref a1, .ref aT])), (a1, .inr (5, [.ref a2, .ref b1, .ref b2, .ref b3, .ref b4, .ref b5, .int 0, .int 1, .int 0, .int 0, .int 0, .int 0])), (a2, .inr (2, [.ref b6, .int 0, .ref b7, .int 0]))] sz)) 1 6 (va_A [(a0, .inr (8, [.ref a1, .ref aT])), (a1, .inr (5, [.ref a2, .ref b1, .ref b2, .ref b3, .ref b4, .ref b5, .int 0, .int 1, .int 0, .int 0, .int 0, .int 0])), (a2, .inr (2, [.ref b6, .int 0, .ref b7, .int 0]))] sz) := by
  refine vx_ofW (cc := cX8_delayOf) (maxL := 2) (ret := (some .int)) (by decide) rfl ?_
  intro p e s m args below meth c s₁ B hml htb hv
  obtain ⟨rfl, hsz, hP, hK, hD0, hE, hZ⟩ := hv
  have hx := B.exec
  have hb := B.bytes
  have hr := B.returns
  have hts0 := atoms_spec (ws := tp_w yX8_delayOf cX8_delayOf 2 (some .int)) B.pre
  have hts : ∀ w ∈ tp_all, w.before _ s = true := fun w h => hts0 w (List.mem_cons_of_mem _ h)
  have hown : s.vm.findClass RX8 = some m.cls := findClass_of_methodNamed B.named
  have hlocks := B.notSynchronized
  subst hsz
  have hD := hD0.self (sz := s.heap.size)
  generalize hAe : va_A [(a0, .inr (8, [.ref a1, .ref aT])), (a1, .inr (5, [.ref a2, .ref b1, .ref b2, .ref b3, .ref b4, .ref b5, .int 0, .int 1, .int 0, .int 0, .int 0, .int 0])), (a2, .inr (2, [.ref b6, .int 0, .ref b7, .int 0]))] s.heap.size = A at hD hZ ⊢
  have hA : ∀ q : Nat, s.heap.size ≤ q → A q := fun q h => by rw [← hAe]; exact Or.inr h
  have hS : va_S A s.heap s.heap [] := va_S.rf
  have hl9 := lv_entry ([.ref a0, .int p1]) (n := 2) (Nat.le_of_ble_eq_true rfl)
  rw [lg_entry_eq]
  generalize (lg_sl ([.ref a0, .int p1]) ++ List.replicate (2 - (lg_sl ([.ref a0, .int p1])).length) Slot.unset).toArray = ls at hl9 ⊢
  have hl : lv_has ls 2 [(0, .ref a0), (1, .int p1)] := hl9
  refine lv_aload_n hx hb dX8_delayOf_0 rfl (lv_at hl 0 rfl) ?_
  refine lv_iload_n hx hb dX8_delayOf_1 rfl (lv_at hl 1 rfl) ?_
  have hFc := va_free (wc := [(a0, .inr (8, [.ref a1, .ref aT])), (a1, .inr (5, [.ref a2, .ref b1, .ref b2, .ref b3, .ref b4, .ref b5, .int 0, .int 1, .int 0, .int 0, .int 0, .int 0])), (a2, .inr (2, [.ref b6, .int 0, .ref b7, .int 0]))]) hD hS hA [0, 1, 2] rfl
  refine vx_callv (vx_runV (As := [.int p1]) (rest := []) ⟨hx, hb, hml, hown, hts⟩ (tm_vehicleNumbered l hst dC dI cy a0 a1 a2 aT b1 b2 b3 b4 b5 b6 b7 p1 s.heap.size) (tp_cwV 1 hts tw_644 tw_646 tw_7 tw_38 tw_647 rfl rfl (by decide +kernel) ⟨Nat.le_of_ble_eq_true rfl, Nat.le_of_ble_eq_true rfl⟩) ⟨tp_blind, va_recv hK hP (ci := 8) (q0 := 0) rfl rfl, fun U hU hW => ⟨rfl, tp_pay hK hP hD hE hZ hS [0, 1, 2] (by decide) rfl hFc U hU hW⟩⟩ rfl rfl hl.1 rfl (lv_room (Nat.le_of_ble_eq_true rfl)) dX8_delayOf_2 ⟨(Nat.le_of_ble_eq_true rfl), (Nat.le_of_ble_eq_true rfl)⟩) hS (fun q _ h => hFc q h) hFc (fun q _ h => hFc q h) (fun E9 ce q9 u t H1 locs ht hvm hw hB hz1 hk1 hS hce hcv hcl => ?_) (fun u t H1 locs ht hvm hw hB hz1 hk1 hS => ?_)
  · obtain ⟨rfl, hP1, hD1⟩ := hB
    rw [ht] at hP1
    obtain ⟨hP, hD⟩ := va_join (wr := []) (w1 := []) hP hD [0, 1, 2] [] rfl rfl (by decide) (by decide) hk1 hFc hP1 hD1
    generalize H1 = H at hP hS hce ⊢
    have hP : va_P (dC, dI) vwCl [] _ := hP
    have hD : va_D A [] := hD
    refine vx_widen (k := 1) (n := 6) (Nat.le_of_ble_eq_true rfl) (Nat.le_of_ble_eq_true rfl) ?_
    exact vx_out (fun x hx9 => (htb x hx9).elim) hlocks hce hcv hcl (fun t ht hv => ⟨(), trivial, ⟨rfl, by rw [ht]; exact hP.sub [] rfl, hD.sub [] (by decide) rfl⟩, hS.F ht⟩) hS.2.2 (Nat.le_refl _) (Nat.le_refl _)
  · exact hw.elim
set_option maxRecDepth 100000 in
set_option maxHeartbeats 4000000 in
/-- waiting on a new object: IndexOutOfBoundsException -/
theorem tm_waiting (l : Launch) (hst : l.stackTraces = false) (dC : Nat → ClassId) (dI : Nat → Nat → Nat) (cy : Nat → ClassId) (a0 : Nat) (a1 : Nat) (a2 : Nat) (aT : Nat) (b1 : Nat) (b2 : Nat) (b3 : Nat) (b4 : Nat) (b5 : Nat) (b6 : Nat) (b7 : Nat) (p1 : Int32) (sz : Nat) : vx_Met l yX8_waiting (tp_w yX8_waiting cX8_waiting 2 (some .int)) ({ frames := 7, cells := 1, slots := 6, locals := 103 }) (va_Pc [.ref a0, .int p1] (tp_Pre dC dI cy [(a0, .inr (8, [.ref a1, .ref aT])), (a1, .inr (5, [.ref a2, .ref b1, .ref b2, .ref b3, .ref b4, .ref b5, .int 0, .int 1, .int 0, .int 0, .int 0, .int 0])), (a2, .inr (2, [.ref b6, .int 0, .ref b7, .int 0]))] sz)) (va_Qv (fun _ : Unit => False) (fun (_ : Unit) (_ : State) => False) (va_A [(a0, .inr (8, [.ref a1, .ref aT])), (a1, .inr (5, [.ref a2, .ref b1, .ref b2, .ref b3, .ref b4, .ref b5, .int 0, .int 1, .int 0, .int 0, .int 0, .int 0])), (a2, .inr (2, [.ref b6, .int 0, .ref b7, .int 0]))] sz)) (vx_X (fun _ : Unit => True) (fun (E : String) (_ : Unit) (t : State) => (E = "java/lang/IndexOutOfBoundsException") ∧ tp_Post dC dI (va_A [(a0, .inr (8, [.ref a1, .ref aT])), (a1, .inr (5, [.ref a2, .ref b1, .ref b2, .ref b3, .ref b4, .ref b5, .int 0, .int 1, .int 0, .int 0, .int 0, .int 0])), (a2, .inr (2, [.ref b6, .int 0, .ref b7, .int 0]))] sz) [] t) (va_A [(a0, .inr (8, [.ref a1, .ref aT])), (a1, .inr (5, [.ref a2, .ref b1, .ref b2, .ref b3, .ref b4, .ref b5, .int 0, .int 1, .int 0, .int 0, .int 0, .int 0])), (a2, .inr (2, [.ref b6, .int 0, .ref b7, .int 0]))] sz)) 1 6 (va_A [(a0, .inr (8, [.ref a1, .ref aT])), (a1, .inr (5, [.ref a2, .ref b1, .ref b2, .ref b3, .ref b4, .ref b5, .int 0, .int 1, .int 0, .int 0, .int 0, .int 0])), (a2, .inr (2, [.ref b6, .int 0, .ref b7, .int 0]))] sz) := by
  refine vx_ofW (cc := cX8_waiting) (maxL := 2) (ret := (some .int)) (by decide) rfl ?_
  intro p e s m args below meth c s₁ B hml htb hv
  obtain ⟨rfl, hsz, hP, hK, hD0, hE, hZ⟩ := hv
  have hx := B.exec
  have hb := B.bytes
  have hr := B.returns
  have hts0 := atoms_spec (ws := tp_w yX8_waiting cX8_waiting 2 (some .int)) B.pre
  have hts : ∀ w ∈ tp_all, w.before _ s = true := fun w h => hts0 w (List.mem_cons_of_mem _ h)
  have hown : s.vm.findClass RX8 = some m.cls := findClass_of_methodNamed B.named
  have hlocks := B.notSynchronized
  subst hsz
  have hD := hD0.self (sz := s.heap.size)
  generalize hAe : va_A [(a0, .inr (8, [.ref a1, .ref aT])), (a1, .inr (5, [.ref a2, .ref b1, .ref b2, .ref b3, .ref b4, .ref b5, .int 0, .int 1, .int 0, .int 0, .int 0, .int 0])), (a2, .inr (2, [.ref b6, .int 0, .ref b7, .int 0]))] s.heap.size = A at hD hZ ⊢
  have hA : ∀ q : Nat, s.heap.size ≤ q → A q := fun q h => by rw [← hAe]; exact Or.inr h
  have hS : va_S A s.heap s.heap [] := va_S.rf
  have hl9 := lv_entry ([.ref a0, .int p1]) (n := 2) (Nat.le_of_ble_eq_true rfl)
  rw [lg_entry_eq]
  generalize (lg_sl ([.ref a0, .int p1]) ++ List.replicate (2 - (lg_sl ([.ref a0, .int p1])).length) Slot.unset).toArray = ls at hl9 ⊢
  have hl : lv_has ls 2 [(0, .ref a0), (1, .int p1)] := hl9
  refine lv_aload_n hx hb dX8_waiting_0 rfl (lv_at hl 0 rfl) ?_
  refine lv_iload_n hx hb dX8_waiting_1 rfl (lv_at hl 1 rfl) ?_
  have hFc := va_free (wc := [(a0, .inr (8, [.ref a1, .ref aT])), (a1, .inr (5, [.ref a2, .ref b1, .ref b2, .ref b3, .ref b4, .ref b5, .int 0, .int 1, .int 0, .int 0, .int 0, .int 0])), (a2, .inr (2, [.ref b6, .int 0, .ref b7, .int 0]))]) hD hS hA [0, 1, 2] rfl
  refine vx_callv (vx_runV (As := [.int p1]) (rest := []) ⟨hx, hb, hml, hown, hts⟩ (tm_checkNode l hst dC dI cy a0 a1 a2 aT b1 b2 b3 b4 b5 b6 b7 p1 s.heap.size) (tp_cwV 1 hts tw_456 tw_458 tw_1 tw_38 tw_459 rfl rfl (by decide +kernel) ⟨Nat.le_of_ble_eq_true rfl, Nat.le_of_ble_eq_true rfl⟩) ⟨tp_blind, va_recv hK hP (ci := 8) (q0 := 0) rfl rfl, fun U hU hW => ⟨rfl, tp_pay hK hP hD hE hZ hS [0, 1, 2] (by decide) rfl hFc U hU hW⟩⟩ rfl rfl hl.1 rfl (lv_room (Nat.le_of_ble_eq_true rfl)) dX8_waiting_2 ⟨(Nat.le_of_ble_eq_true rfl), (Nat.le_of_ble_eq_true rfl)⟩) hS (fun q _ h => hFc q h) hFc (fun q _ h => hFc q h) (fun E9 ce q9 u t H1 locs ht hvm hw hB hz1 hk1 hS hce hcv hcl => ?_) (fun u t H1 locs ht hvm hw hB hz1 hk1 hS => ?_)
  · obtain ⟨rfl, hP1, hD1⟩ := hB
    rw [ht] at hP1
    obtain ⟨hP, hD⟩ := va_join (wr := []) (w1 := []) hP hD [0, 1, 2] [] rfl rfl (by decide) (by decide) hk1 hFc hP1 hD1
    generalize H1 = H at hP hS hce ⊢
    have hP : va_P (dC, dI) vwCl [] _ := hP
    have hD : va_D A [] := hD
    refine vx_widen (k := 1) (n := 6) (Nat.le_of_ble_eq_true rfl) (Nat.le_of_ble_eq_true rfl) ?_
    exact vx_out (fun x hx9 => (htb x hx9).elim) hlocks hce hcv hcl (fun t ht hv => ⟨(), trivial, ⟨rfl, by rw [ht]; exact hP.sub [] rfl, hD.sub [] (by decide) rfl⟩, hS.F ht⟩) hS.2.2 (Nat.le_refl _) (Nat.le_refl _)
  · exact hw.elim
set_option maxRecDepth 100000 in
set_option maxHeartbeats 4000000 in
/-- onLink on a new object: IndexOutOfBoundsException -/
theorem tm_onLink (l : Launch) (hst : l.stackTraces = false) (dC : Nat → ClassId) (dI : Nat → Nat → Nat) (cy : Nat → ClassId) (a0 : Nat) (a1 : Nat) (a2 : Nat) (aT : Nat) (b1 : Nat) (b2 : Nat) (b3 : Nat) (b4 : Nat) (b5 : Nat) (b6 : Nat) (b7 : Nat) (p1 : Int32) (sz : Nat) : vx_Met l yX8_onLink (tp_w yX8_onLink cX8_onLink 2 (some .int)) ({ frames := 7, cells := 1, slots := 6, locals := 104 }) (va_Pc [.ref a0, .int p1] (tp_Pre dC dI cy [(a0, .inr (8, [.ref a1, .ref aT])), (a1, .inr (5, [.ref a2, .ref b1, .ref b2, .ref b3, .ref b4, .ref b5, .int 0, .int 1, .int 0, .int 0, .int 0, .int 0])), (a2, .inr (2, [.ref b6, .int 0, .ref b7, .int 0]))] sz)) (va_Qv (fun _ : Unit => False) (fun (_ : Unit) (_ : State) => False) (va_A [(a0, .inr (8, [.ref a1, .ref aT])), (a1, .inr (5, [.ref a2, .ref b1, .ref b2, .ref b3, .ref b4, .ref b5, .int 0, .int 1, .int 0, .int 0, .int 0, .int 0])), (a2, .inr (2, [.ref b6, .int 0, .ref b7, .int 0]))] sz)) (vx_X (fun _ : Unit => True) (fun (E : String) (_ : Unit) (t : State) => (E = "java/lang/IndexOutOfBoundsException") ∧ tp_Post dC dI (va_A [(a0, .inr (8, [.ref a1, .ref aT])), (a1, .inr (5, [.ref a2, .ref b1, .ref b2, .ref b3, .ref b4, .ref b5, .int 0, .int 1, .int 0, .int 0, .int 0, .int 0])), (a2, .inr (2, [.ref b6, .int 0, .ref b7, .int 0]))] sz) [] t) (va_A [(a0, .inr (8, [.ref a1, .ref aT])), (a1, .inr (5, [.ref a2, .ref b1, .ref b2, .ref b3, .ref b4, .ref b5, .int 0, .int 1, .int 0, .int 0, .int 0, .int 0])), (a2, .inr (2, [.ref b6, .int 0, .ref b7, .int 0]))] sz)) 1 6 (va_A [(a0, .inr (8, [.ref a1, .ref aT])), (a1, .inr (5, [.ref a2, .ref b1, .ref b2, .ref b3, .ref b4, .ref b5, .int 0, .int 1, .int 0, .int 0, .int 0, .int 0])), (a2, .inr (2, [.ref b6, .int 0, .ref b7, .int 0]))] sz) := by
  refine vx_ofW (cc := cX8_onLink) (maxL := 2) (ret := (some .int)) (by decide) rfl ?_
  intro p e s m args below meth c s₁ B hml htb hv
  obtain ⟨rfl, hsz, hP, hK, hD0, hE, hZ⟩ := hv
  have hx := B.exec
  have hb := B.bytes
  have hr := B.returns
  have hts0 := atoms_spec (ws := tp_w yX8_onLink cX8_onLink 2 (some .int)) B.pre
  have hts : ∀ w ∈ tp_all, w.before _ s = true := fun w h => hts0 w (List.mem_cons_of_mem _ h)
  have hown : s.vm.findClass RX8 = some m.cls := findClass_of_methodNamed B.named
  have hlocks := B.notSynchronized
  subst hsz
  have hD := hD0.self (sz := s.heap.size)
  generalize hAe : va_A [(a0, .inr (8, [.ref a1, .ref aT])), (a1, .inr (5, [.ref a2, .ref b1, .ref b2, .ref b3, .ref b4, .ref b5, .int 0, .int 1, .int 0, .int 0, .int 0, .int 0])), (a2, .inr (2, [.ref b6, .int 0, .ref b7, .int 0]))] s.heap.size = A at hD hZ ⊢
  have hA : ∀ q : Nat, s.heap.size ≤ q → A q := fun q h => by rw [← hAe]; exact Or.inr h
  have hS : va_S A s.heap s.heap [] := va_S.rf
  have hl9 := lv_entry ([.ref a0, .int p1]) (n := 2) (Nat.le_of_ble_eq_true rfl)
  rw [lg_entry_eq]
  generalize (lg_sl ([.ref a0, .int p1]) ++ List.replicate (2 - (lg_sl ([.ref a0, .int p1])).length) Slot.unset).toArray = ls at hl9 ⊢
  have hl : lv_has ls 2 [(0, .ref a0), (1, .int p1)] := hl9
  refine lv_aload_n hx hb dX8_onLink_0 rfl (lv_at hl 0 rfl) ?_
  refine lv_iload_n hx hb dX8_onLink_1 rfl (lv_at hl 1 rfl) ?_
  have hFc := va_free (wc := [(a0, .inr (8, [.ref a1, .ref aT])), (a1, .inr (5, [.ref a2, .ref b1, .ref b2, .ref b3, .ref b4, .ref b5, .int 0, .int 1, .int 0, .int 0, .int 0, .int 0])), (a2, .inr (2, [.ref b6, .int 0, .ref b7, .int 0]))]) hD hS hA [0, 1, 2] rfl
  refine vx_callv (vx_runV (As := [.int p1]) (rest := []) ⟨hx, hb, hml, hown, hts⟩ (tm_linkNumbered l hst dC dI cy a0 a1 a2 aT b1 b2 b3 b4 b5 b6 b7 p1 s.heap.size) (tp_cwV 1 hts tw_564 tw_566 tw_4 tw_38 tw_567 rfl rfl (by decide +kernel) ⟨Nat.le_of_ble_eq_true rfl, Nat.le_of_ble_eq_true rfl⟩) ⟨tp_blind, va_recv hK hP (ci := 8) (q0 := 0) rfl rfl, fun U hU hW => ⟨rfl, tp_pay hK hP hD hE hZ hS [0, 1, 2] (by decide) rfl hFc U hU hW⟩⟩ rfl rfl hl.1 rfl (lv_room (Nat.le_of_ble_eq_true rfl)) dX8_onLink_2 ⟨(Nat.le_of_ble_eq_true rfl), (Nat.le_of_ble_eq_true rfl)⟩) hS (fun q _ h => hFc q h) hFc (fun q _ h => hFc q h) (fun E9 ce q9 u t H1 locs ht hvm hw hB hz1 hk1 hS hce hcv hcl => ?_) (fun u t H1 locs ht hvm hw hB hz1 hk1 hS => ?_)
  · obtain ⟨rfl, hP1, hD1⟩ := hB
    rw [ht] at hP1
    obtain ⟨hP, hD⟩ := va_join (wr := []) (w1 := []) hP hD [0, 1, 2] [] rfl rfl (by decide) (by decide) hk1 hFc hP1 hD1
    generalize H1 = H at hP hS hce ⊢
    have hP : va_P (dC, dI) vwCl [] _ := hP
    have hD : va_D A [] := hD
    refine vx_widen (k := 1) (n := 6) (Nat.le_of_ble_eq_true rfl) (Nat.le_of_ble_eq_true rfl) ?_
    exact vx_out (fun x hx9 => (htb x hx9).elim) hlocks hce hcv hcl (fun t ht hv => ⟨(), trivial, ⟨rfl, by rw [ht]; exact hP.sub [] rfl, hD.sub [] (by decide) rfl⟩, hS.F ht⟩) hS.2.2 (Nat.le_refl _) (Nat.le_refl _)
  · exact hw.elim
set_option maxRecDepth 100000 in
set_option maxHeartbeats 4000000 in
/-- vehicleAt on a new object: IndexOutOfBoundsException -/
theorem tm_vehicleAt (l : Launch) (hst : l.stackTraces = false) (dC : Nat → ClassId) (dI : Nat → Nat → Nat) (cy : Nat → ClassId) (a0 : Nat) (a1 : Nat) (a2 : Nat) (aT : Nat) (b1 : Nat) (b2 : Nat) (b3 : Nat) (b4 : Nat) (b5 : Nat) (b6 : Nat) (b7 : Nat) (p1 : Int32) (p2 : Int32) (sz : Nat) : vx_Met l yX8_vehicleAt (tp_w yX8_vehicleAt cX8_vehicleAt 4 (some .int)) ({ frames := 7, cells := 1, slots := 6, locals := 104 }) (va_Pc [.ref a0, .int p1, .int p2] (tp_Pre dC dI cy [(a0, .inr (8, [.ref a1, .ref aT])), (a1, .inr (5, [.ref a2, .ref b1, .ref b2, .ref b3, .ref b4, .ref b5, .int 0, .int 1, .int 0, .int 0, .int 0, .int 0])), (a2, .inr (2, [.ref b6, .int 0, .ref b7, .int 0]))] sz)) (va_Qv (fun _ : Unit => False) (fun (_ : Unit) (_ : State) => False) (va_A [(a0, .inr (8, [.ref a1, .ref aT])), (a1, .inr (5, [.ref a2, .ref b1, .ref b2, .ref b3, .ref b4, .ref b5, .int 0, .int 1, .int 0, .int 0, .int 0, .int 0])), (a2, .inr (2, [.ref b6, .int 0, .ref b7, .int 0]))] sz)) (vx_X (fun _ : Unit => True) (fun (E : String) (_ : Unit) (t : State) => (E = "java/lang/IndexOutOfBoundsException") ∧ tp_Post dC dI (va_A [(a0, .inr (8, [.ref a1, .ref aT])), (a1, .inr (5, [.ref a2, .ref b1, .ref b2, .ref b3, .ref b4, .ref b5, .int 0, .int 1, .int 0, .int 0, .int 0, .int 0])), (a2, .inr (2, [.ref b6, .int 0, .ref b7, .int 0]))] sz) [] t) (va_A [(a0, .inr (8, [.ref a1, .ref aT])), (a1, .inr (5, [.ref a2, .ref b1, .ref b2, .ref b3, .ref b4, .ref b5, .int 0, .int 1, .int 0, .int 0, .int 0, .int 0])), (a2, .inr (2, [.ref b6, .int 0, .ref b7, .int 0]))] sz)) 1 6 (va_A [(a0, .inr (8, [.ref a1, .ref aT])), (a1, .inr (5, [.ref a2, .ref b1, .ref b2, .ref b3, .ref b4, .ref b5, .int 0, .int 1, .int 0, .int 0, .int 0, .int 0])), (a2, .inr (2, [.ref b6, .int 0, .ref b7, .int 0]))] sz) := by
  refine vx_ofW (cc := cX8_vehicleAt) (maxL := 4) (ret := (some .int)) (by decide) rfl ?_
  intro p e s m args below meth c s₁ B hml htb hv
  obtain ⟨rfl, hsz, hP, hK, hD0, hE, hZ⟩ := hv
  have hx := B.exec
  have hb := B.bytes
  have hr := B.returns
  have hts0 := atoms_spec (ws := tp_w yX8_vehicleAt cX8_vehicleAt 4 (some .int)) B.pre
  have hts : ∀ w ∈ tp_all, w.before _ s = true := fun w h => hts0 w (List.mem_cons_of_mem _ h)
  have hown : s.vm.findClass RX8 = some m.cls := findClass_of_methodNamed B.named
  have hlocks := B.notSynchronized
  subst hsz
  have hD := hD0.self (sz := s.heap.size)
  generalize hAe : va_A [(a0, .inr (8, [.ref a1, .ref aT])), (a1, .inr (5, [.ref a2, .ref b1, .ref b2, .ref b3, .ref b4, .ref b5, .int 0, .int 1, .int 0, .int 0, .int 0, .int 0])), (a2, .inr (2, [.ref b6, .int 0, .ref b7, .int 0]))] s.heap.size = A at hD hZ ⊢
  have hA : ∀ q : Nat, s.heap.size ≤ q → A q := fun q h => by rw [← hAe]; exact Or.inr h
  have hS : va_S A s.heap s.heap [] := va_S.rf
  have hl9 := lv_entry ([.ref a0, .int p1, .int p2]) (n := 4) (Nat.le_of_ble_eq_true rfl)
  rw [lg_entry_eq]
  generalize (lg_sl ([.ref a0, .int p1, .int p2]) ++ List.replicate (4 - (lg_sl ([.ref a0, .int p1, .int p2])).length) Slot.unset).toArray = ls at hl9 ⊢
  have hl : lv_has ls 4 [(0, .ref a0), (1, .int p1), (2, .int p2)] := hl9
  refine lv_aload_n hx hb dX8_vehicleAt_0 rfl (lv_at hl 0 rfl) ?_
  refine lv_iload_n hx hb dX8_vehicleAt_1 rfl (lv_at hl 1 rfl) ?_
  have hFc := va_free (wc := [(a0, .inr (8, [.ref a1, .ref aT])), (a1, .inr (5, [.ref a2, .ref b1, .ref b2, .ref b3, .ref b4, .ref b5, .int 0, .int 1, .int 0, .int 0, .int 0, .int 0])), (a2, .inr (2, [.ref b6, .int 0, .ref b7, .int 0]))]) hD hS hA [0, 1, 2] rfl
  refine vx_callv (vx_runV (As := [.int p1]) (rest := []) ⟨hx, hb, hml, hown, hts⟩ (tm_linkNumbered l hst dC dI cy a0 a1 a2 aT b1 b2 b3 b4 b5 b6 b7 p1 s.heap.size) (tp_cwV 1 hts tw_564 tw_566 tw_4 tw_38 tw_567 rfl rfl (by decide +kernel) ⟨Nat.le_of_ble_eq_true rfl, Nat.le_of_ble_eq_true rfl⟩) ⟨tp_blind, va_recv hK hP (ci := 8) (q0 := 0) rfl rfl, fun U hU hW => ⟨rfl, tp_pay hK hP hD hE hZ hS [0, 1, 2] (by decide) rfl hFc U hU hW⟩⟩ rfl rfl hl.1 rfl (lv_room (Nat.le_of_ble_eq_true rfl)) dX8_vehicleAt_2 ⟨(Nat.le_of_ble_eq_true rfl), (Nat.le_of_ble_eq_true rfl)⟩) hS (fun q _ h => hFc q h) hFc (fun q _ h => hFc q h) (fun E9 ce q9 u t H1 locs ht hvm hw hB hz1 hk1 hS hce hcv hcl => ?_) (fun u t H1 locs ht hvm hw hB hz1 hk1 hS => ?_)
  · obtain ⟨rfl, hP1, hD1⟩ := hB
    rw [ht] at hP1
    obtain ⟨hP, hD⟩ := va_join (wr := []) (w1 := []) hP hD [0, 1, 2] [] rfl rfl (by decide) (by decide) hk1 hFc hP1 hD1
    generalize H1 = H at hP hS hce ⊢
    have hP : va_P (dC, dI) vwCl [] _ := hP
    have hD : va_D A [] := hD
    refine vx_widen (k := 1) (n := 6) (Nat.le_of_ble_eq_true rfl) (Nat.le_of_ble_eq_true rfl) ?_
    exact vx_out (fun x hx9 => (htb x hx9).elim) hlocks hce hcv hcl (fun t ht hv => ⟨(), trivial, ⟨rfl, by rw [ht]; exact hP.sub [] rfl, hD.sub [] (by decide) rfl⟩, hS.F ht⟩) hS.2.2 (Nat.le_refl _) (Nat.le_refl _)
  · exact hw.elim
set_option maxRecDepth 100000 in
set_option maxHeartbeats 4000000 in
/-- queue on a new object: IndexOutOfBoundsException -/
theorem tm_queue (l : Launch) (hst : l.stackTraces = false) (dC : Nat → ClassId) (dI : Nat → Nat → Nat) (cy : Nat → ClassId) (a0 : Nat) (a1 : Nat) (a2 : Nat) (aT : Nat) (b1 : Nat) (b2 : Nat) (b3 : Nat) (b4 : Nat) (b5 : Nat) (b6 : Nat) (b7 : Nat) (p1 : Int32) (sz : Nat) : vx_Met l yX8_queue (tp_w yX8_queue cX8_queue 2 (some .int)) ({ frames := 7, cells := 1, slots := 6, locals := 104 }) (va_Pc [.ref a0, .int p1] (tp_Pre dC dI cy [(a0, .inr (8, [.ref a1, .ref aT])), (a1, .inr (5, [.ref a2, .ref b1, .ref b2, .ref b3, .ref b4, .ref b5, .int 0, .int 1, .int 0, .int 0, .int 0, .int 0])), (a2, .inr (2, [.ref b6, .int 0, .ref b7, .int 0]))] sz)) (va_Qv (fun _ : Unit => False) (fun (_ : Unit) (_ : State) => False) (va_A [(a0, .inr (8, [.ref a1, .ref aT])), (a1, .inr (5, [.ref a2, .ref b1, .ref b2, .ref b3, .ref b4, .ref b5, .int 0, .int 1, .int 0, .int 0, .int 0, .int 0])), (a2, .inr (2, [.ref b6, .int 0, .ref b7, .int 0]))] sz)) (vx_X (fun _ : Unit => True) (fun (E : String) (_ : Unit) (t : State) => (E = "java/lang/IndexOutOfBoundsException") ∧ tp_Post dC dI (va_A [(a0, .inr (8, [.ref a1, .ref aT])), (a1, .inr (5, [.ref a2, .ref b1, .ref b2, .ref b3, .ref b4, .ref b5, .int 0, .int 1, .int 0, .int 0, .int 0, .int 0])), (a2, .inr (2, [.ref b6, .int 0, .ref b7, .int 0]))] sz) [] t) (va_A [(a0, .inr (8, [.ref a1, .ref aT])), (a1, .inr (5, [.ref a2, .ref b1, .ref b2, .ref b3, .ref b4, .ref b5, .int 0, .int 1, .int 0, .int 0, .int 0, .int 0])), (a2, .inr (2, [.ref b6, .int 0, .ref b7, .int 0]))] sz)) 1 6 (va_A [(a0, .inr (8, [.ref a1, .ref aT])), (a1, .inr (5, [.ref a2, .ref b1, .ref b2, .ref b3, .ref b4, .ref b5, .int 0, .int 1, .int 0, .int 0, .int 0, .int 0])), (a2, .inr (2, [.ref b6, .int 0, .ref b7, .int 0]))] sz) := by
  refine vx_ofW (cc := cX8_queue) (maxL := 2) (ret := (some .int)) (by decide) rfl ?_
  intro p e s m args below meth c s₁ B hml htb hv
  obtain ⟨rfl, hsz, hP, hK, hD0, hE, hZ⟩ := hv
  have hx := B.exec
  have hb := B.bytes
  have hr := B.returns
  have hts0 := atoms_spec (ws := tp_w yX8_queue cX8_queue 2 (some .int)) B.pre
  have hts : ∀ w ∈ tp_all, w.before _ s = true := fun w h => hts0 w (List.mem_cons_of_mem _ h)
  have hown : s.vm.findClass RX8 = some m.cls := findClass_of_methodNamed B.named
  have hlocks := B.notSynchronized
  subst hsz
  have hD := hD0.self (sz := s.heap.size)
  generalize hAe : va_A [(a0, .inr (8, [.ref a1, .ref aT])), (a1, .inr (5, [.ref a2, .ref b1, .ref b2, .ref b3, .ref b4, .ref b5, .int 0, .int 1, .int 0, .int 0, .int 0, .int 0])), (a2, .inr (2, [.ref b6, .int 0, .ref b7, .int 0]))] s.heap.size = A at hD hZ ⊢
  have hA : ∀ q : Nat, s.heap.size ≤ q → A q := fun q h => by rw [← hAe]; exact Or.inr h
  have hS : va_S A s.heap s.heap [] := va_S.rf
  have hl9 := lv_entry ([.ref a0, .int p1]) (n := 2) (Nat.le_of_ble_eq_true rfl)
  rw [lg_entry_eq]
  generalize (lg_sl ([.ref a0, .int p1]) ++ List.replicate (2 - (lg_sl ([.ref a0, .int p1])).length) Slot.unset).toArray = ls at hl9 ⊢
  have hl : lv_has ls 2 [(0, .ref a0), (1, .int p1)] := hl9
  refine lv_aload_n hx hb dX8_queue_0 rfl (lv_at hl 0 rfl) ?_
  refine lv_iload_n hx hb dX8_queue_1 rfl (lv_at hl 1 rfl) ?_
  have hFc := va_free (wc := [(a0, .inr (8, [.ref a1, .ref aT])), (a1, .inr (5, [.ref a2, .ref b1, .ref b2, .ref b3, .ref b4, .ref b5, .int 0, .int 1, .int 0, .int 0, .int 0, .int 0])), (a2, .inr (2, [.ref b6, .int 0, .ref b7, .int 0]))]) hD hS hA [0, 1, 2] rfl
  refine vx_callv (vx_runV (As := [.int p1]) (rest := []) ⟨hx, hb, hml, hown, hts⟩ (tm_linkNumbered l hst dC dI cy a0 a1 a2 aT b1 b2 b3 b4 b5 b6 b7 p1 s.heap.size) (tp_cwV 1 hts tw_564 tw_566 tw_4 tw_38 tw_567 rfl rfl (by decide +kernel) ⟨Nat.le_of_ble_eq_true rfl, Nat.le_of_ble_eq_true rfl⟩) ⟨tp_blind, va_recv hK hP (ci := 8) (q0 := 0) rfl rfl, fun U hU hW => ⟨rfl, tp_pay hK hP hD hE hZ hS [0, 1, 2] (by decide) rfl hFc U hU hW⟩⟩ rfl rfl hl.1 rfl (lv_room (Nat.le_of_ble_eq_true rfl)) dX8_queue_2 ⟨(Nat.le_of_ble_eq_true rfl), (Nat.le_of_ble_eq_true rfl)⟩) hS (fun q _ h => hFc q h) hFc (fun q _ h => hFc q h) (fun E9 ce q9 u t H1 locs ht hvm hw hB hz1 hk1 hS hce hcv hcl => ?_) (fun u t H1 locs ht hvm hw hB hz1 hk1 hS => ?_)
  · obtain ⟨rfl, hP1, hD1⟩ := hB
    rw [ht] at hP1
    obtain ⟨hP, hD⟩ := va_join (wr := []) (w1 := []) hP hD [0, 1, 2] [] rfl rfl (by decide) (by decide) hk1 hFc hP1 hD1
    generalize H1 = H at hP hS hce ⊢
    have hP : va_P (dC, dI) vwCl [] _ := hP
    have hD : va_D A [] := hD
    refine vx_widen (k := 1) (n := 6) (Nat.le_of_ble_eq_true rfl) (Nat.le_of_ble_eq_true rfl) ?_
    exact vx_out (fun x hx9 => (htb x hx9).elim) hlocks hce hcv hcl (fun t ht hv => ⟨(), trivial, ⟨rfl, by rw [ht]; exact hP.sub [] rfl, hD.sub [] (by decide) rfl⟩, hS.F ht⟩) hS.2.2 (Nat.le_refl _) (Nat.le_refl _)
  · exact hw.elim
set_option maxRecDepth 100000 in
set_option maxHeartbeats 4000000 in
/-- count on a new object: IndexOutOfBoundsException -/
theorem tm_count (l : Launch) (hst : l.stackTraces = false) (dC : Nat → ClassId) (dI : Nat → Nat → Nat) (cy : Nat → ClassId) (a0 : Nat) (a1 : Nat) (a2 : Nat) (aT : Nat) (b1 : Nat) (b2 : Nat) (b3 : Nat) (b4 : Nat) (b5 : Nat) (b6 : Nat) (b7 : Nat) (p1 : Int32) (p2 : Int32) (sz : Nat) : vx_Met l yX8_count (tp_w yX8_count cX8_count 4 (some .int)) ({ frames := 7, cells := 1, slots := 6, locals := 104 }) (va_Pc [.ref a0, .int p1, .int p2] (tp_Pre dC dI cy [(a0, .inr (8, [.ref a1, .ref aT])), (a1, .inr (5, [.ref a2, .ref b1, .ref b2, .ref b3, .ref b4, .ref b5, .int 0, .int 1, .int 0, .int 0, .int 0, .int 0])), (a2, .inr (2, [.ref b6, .int 0, .ref b7, .int 0]))] sz)) (va_Qv (fun _ : Unit => False) (fun (_ : Unit) (_ : State) => False) (va_A [(a0, .inr (8, [.ref a1, .ref aT])), (a1, .inr (5, [.ref a2, .ref b1, .ref b2, .ref b3, .ref b4, .ref b5, .int 0, .int 1, .int 0, .int 0, .int 0, .int 0])), (a2, .inr (2, [.ref b6, .int 0, .ref b7, .int 0]))] sz)) (vx_X (fun _ : Unit => True) (fun (E : String) (_ : Unit) (t : State) => (E = "java/lang/IndexOutOfBoundsException") ∧ tp_Post dC dI (va_A [(a0, .inr (8, [.ref a1, .ref aT])), (a1, .inr (5, [.ref a2, .ref b1, .ref b2, .ref b3, .ref b4, .ref b5, .int 0, .int 1, .int 0, .int 0, .int 0, .int 0])), (a2, .inr (2, [.ref b6, .int 0, .ref b7, .int 0]))] sz) [] t) (va_A [(a0, .inr (8, [.ref a1, .ref aT])), (a1, .inr (5, [.ref a2, .ref b1, .ref b2, .ref b3, .ref b4, .ref b5, .int 0, .int 1, .int 0, .int 0, .int 0, .int 0])), (a2, .inr (2, [.ref b6, .int 0, .ref b7, .int 0]))] sz)) 1 6 (va_A [(a0, .inr (8, [.ref a1, .ref aT])), (a1, .inr (5, [.ref a2, .ref b1, .ref b2, .ref b3, .ref b4, .ref b5, .int 0, .int 1, .int 0, .int 0, .int 0, .int 0])), (a2, .inr (2, [.ref b6, .int 0, .ref b7, .int 0]))] sz) := by
  refine vx_ofW (cc := cX8_count) (maxL := 4) (ret := (some .int)) (by decide) rfl ?_
  intro p e s m args below meth c s₁ B hml htb hv
  obtain ⟨rfl, hsz, hP, hK, hD0, hE, hZ⟩ := hv
  have hx := B.exec
  have hb := B.bytes
  have hr := B.returns
  have hts0 := atoms_spec (ws := tp_w yX8_count cX8_count 4 (some .int)) B.pre
  have hts : ∀ w ∈ tp_all, w.before _ s = true := fun w h => hts0 w (List.mem_cons_of_mem _ h)
  have hown : s.vm.findClass RX8 = some m.cls := findClass_of_methodNamed B.named
  have hlocks := B.notSynchronized
  subst hsz
  have hD := hD0.self (sz := s.heap.size)
  generalize hAe : va_A [(a0, .inr (8, [.ref a1, .ref aT])), (a1, .inr (5, [.ref a2, .ref b1, .ref b2, .ref b3, .ref b4, .ref b5, .int 0, .int 1, .int 0, .int 0, .int 0, .int 0])), (a2, .inr (2, [.ref b6, .int 0, .ref b7, .int 0]))] s.heap.size = A at hD hZ ⊢
  have hA : ∀ q : Nat, s.heap.size ≤ q → A q := fun q h => by rw [← hAe]; exact Or.inr h
  have hS : va_S A s.heap s.heap [] := va_S.rf
  have hl9 := lv_entry ([.ref a0, .int p1, .int p2]) (n := 4) (Nat.le_of_ble_eq_true rfl)
  rw [lg_entry_eq]
  generalize (lg_sl ([.ref a0, .int p1, .int p2]) ++ List.replicate (4 - (lg_sl ([.ref a0, .int p1, .int p2])).length) Slot.unset).toArray = ls at hl9 ⊢
  have hl : lv_has ls 4 [(0, .ref a0), (1, .int p1), (2, .int p2)] := hl9
  refine lv_aload_n hx hb dX8_count_0 rfl (lv_at hl 0 rfl) ?_
  refine lv_iload_n hx hb dX8_count_1 rfl (lv_at hl 1 rfl) ?_
  have hFc := va_free (wc := [(a0, .inr (8, [.ref a1, .ref aT])), (a1, .inr (5, [.ref a2, .ref b1, .ref b2, .ref b3, .ref b4, .ref b5, .int 0, .int 1, .int 0, .int 0, .int 0, .int 0])), (a2, .inr (2, [.ref b6, .int 0, .ref b7, .int 0]))]) hD hS hA [0, 1, 2] rfl
  refine vx_callv (vx_runV (As := [.int p1]) (rest := []) ⟨hx, hb, hml, hown, hts⟩ (tm_linkNumbered l hst dC dI cy a0 a1 a2 aT b1 b2 b3 b4 b5 b6 b7 p1 s.heap.size) (tp_cwV 1 hts tw_564 tw_566 tw_4 tw_38 tw_567 rfl rfl (by decide +kernel) ⟨Nat.le_of_ble_eq_true rfl, Nat.le_of_ble_eq_true rfl⟩) ⟨tp_blind, va_recv hK hP (ci := 8) (q0 := 0) rfl rfl, fun U hU hW => ⟨rfl, tp_pay hK hP hD hE hZ hS [0, 1, 2] (by decide) rfl hFc U hU hW⟩⟩ rfl rfl hl.1 rfl (lv_room (Nat.le_of_ble_eq_true rfl)) dX8_count_2 ⟨(Nat.le_of_ble_eq_true rfl), (Nat.le_of_ble_eq_true rfl)⟩) hS (fun q _ h => hFc q h) hFc (fun q _ h => hFc q h) (fun E9 ce q9 u t H1 locs ht hvm hw hB hz1 hk1 hS hce hcv hcl => ?_) (fun u t H1 locs ht hvm hw hB hz1 hk1 hS => ?_)
  · obtain ⟨rfl, hP1, hD1⟩ := hB
    rw [ht] at hP1
    obtain ⟨hP, hD⟩ := va_join (wr := []) (w1 := []) hP hD [0, 1, 2] [] rfl rfl (by decide) (by decide) hk1 hFc hP1 hD1
    generalize H1 = H at hP hS hce ⊢
    have hP : va_P (dC, dI) vwCl [] _ := hP
    have hD : va_D A [] := hD
    refine vx_widen (k := 1) (n := 6) (Nat.le_of_ble_eq_true rfl) (Nat.le_of_ble_eq_true rfl) ?_
    exact vx_out (fun x hx9 => (htb x hx9).elim) hlocks hce hcv hcl (fun t ht hv => ⟨(), trivial, ⟨rfl, by rw [ht]; exact hP.sub [] rfl, hD.sub [] (by decide) rfl⟩, hS.F ht⟩) hS.2.2 (Nat.le_refl _) (Nat.le_refl _)
  · exact hw.elim
set_option maxRecDepth 100000 in
set_option maxHeartbeats 4000000 in
/-- turned on a new object: IndexOutOfBoundsException -/
theorem tm_turned (l : Launch) (hst : l.stackTraces = false) (dC : Nat → ClassId) (dI : Nat → Nat → Nat) (cy : Nat → ClassId) (a0 : Nat) (a1 : Nat) (a2 : Nat) (aT : Nat) (b1 : Nat) (b2 : Nat) (b3 : Nat) (b4 : Nat) (b5 : Nat) (b6 : Nat) (b7 : Nat) (p1 : Int32) (p2 : Int32) (sz : Nat) : vx_Met l yX8_turned (tp_w yX8_turned cX8_turned 4 (some .int)) ({ frames := 7, cells := 1, slots := 6, locals := 104 }) (va_Pc [.ref a0, .int p1, .int p2] (tp_Pre dC dI cy [(a0, .inr (8, [.ref a1, .ref aT])), (a1, .inr (5, [.ref a2, .ref b1, .ref b2, .ref b3, .ref b4, .ref b5, .int 0, .int 1, .int 0, .int 0, .int 0, .int 0])), (a2, .inr (2, [.ref b6, .int 0, .ref b7, .int 0]))] sz)) (va_Qv (fun _ : Unit => False) (fun (_ : Unit) (_ : State) => False) (va_A [(a0, .inr (8, [.ref a1, .ref aT])), (a1, .inr (5, [.ref a2, .ref b1, .ref b2, .ref b3, .ref b4, .ref b5, .int 0, .int 1, .int 0, .int 0, .int 0, .int 0])), (a2, .inr (2, [.ref b6, .int 0, .ref b7, .int 0]))] sz)) (vx_X (fun _ : Unit => True) (fun (E : String) (_ : Unit) (t : State) => (E = "java/lang/IndexOutOfBoundsException") ∧ tp_Post dC dI (va_A [(a0, .inr (8, [.ref a1, .ref aT])), (a1, .inr (5, [.ref a2, .ref b1, .ref b2, .ref b3, .ref b4, .ref b5, .int 0, .int 1, .int 0, .int 0, .int 0, .int 0])), (a2, .inr (2, [.ref b6, .int 0, .ref b7, .int 0]))] sz) [] t) (va_A [(a0, .inr (8, [.ref a1, .ref aT])), (a1, .inr (5, [.ref a2, .ref b1, .ref b2, .ref b3, .ref b4, .ref b5, .int 0, .int 1, .int 0, .int 0, .int 0, .int 0])), (a2, .inr (2, [.ref b6, .int 0, .ref b7, .int 0]))] sz)) 1 6 (va_A [(a0, .inr (8, [.ref a1, .ref aT])), (a1, .inr (5, [.ref a2, .ref b1, .ref b2, .ref b3, .ref b4, .ref b5, .int 0, .int 1, .int 0, .int 0, .int 0, .int 0])), (a2, .inr (2, [.ref b6, .int 0, .ref b7, .int 0]))] sz) := by
  refine vx_ofW (cc := cX8_turned) (maxL := 4) (ret := (some .int)) (by decide) rfl ?_
  intro p e s m args below meth c s₁ B hml htb hv
  obtain ⟨rfl, hsz, hP, hK, hD0, hE, hZ⟩ := hv
  have hx := B.exec
  have hb := B.bytes
  have hr := B.returns
  have hts0 := atoms_spec (ws := tp_w yX8_turned cX8_turned 4 (some .int)) B.pre
  have hts : ∀ w ∈ tp_all, w.before _ s = true := fun w h => hts0 w (List.mem_cons_of_mem _ h)
  have hown : s.vm.findClass RX8 = some m.cls := findClass_of_methodNamed B.named
  have hlocks := B.notSynchronized
  subst hsz
  have hD := hD0.self (sz := s.heap.size)
  generalize hAe : va_A [(a0, .inr (8, [.ref a1, .ref aT])), (a1, .inr (5, [.ref a2, .ref b1, .ref b2, .ref b3, .ref b4, .ref b5, .int 0, .int 1, .int 0, .int 0, .int 0, .int 0])), (a2, .inr (2, [.ref b6, .int 0, .ref b7, .int 0]))] s.heap.size = A at hD hZ ⊢
  have hA : ∀ q : Nat, s.heap.size ≤ q → A q := fun q h => by rw [← hAe]; exact Or.inr h
  have hS : va_S A s.heap s.heap [] := va_S.rf
  have hl9 := lv_entry ([.ref a0, .int p1, .int p2]) (n := 4) (Nat.le_of_ble_eq_true rfl)
  rw [lg_entry_eq]
  generalize (lg_sl ([.ref a0, .int p1, .int p2]) ++ List.replicate (4 - (lg_sl ([.ref a0, .int p1, .int p2])).length) Slot.unset).toArray = ls at hl9 ⊢
  have hl : lv_has ls 4 [(0, .ref a0), (1, .int p1), (2, .int p2)] := hl9
  refine lv_aload_n hx hb dX8_turned_0 rfl (lv_at hl 0 rfl) ?_
  refine lv_iload_n hx hb dX8_turned_1 rfl (lv_at hl 1 rfl) ?_
  have hFc := va_free (wc := [(a0, .inr (8, [.ref a1, .ref aT])), (a1, .inr (5, [.ref a2, .ref b1, .ref b2, .ref b3, .ref b4, .ref b5, .int 0, .int 1, .int 0, .int 0, .int 0, .int 0])), (a2, .inr (2, [.ref b6, .int 0, .ref b7, .int 0]))]) hD hS hA [0, 1, 2] rfl
  refine vx_callv (vx_runV (As := [.int p1]) (rest := []) ⟨hx, hb, hml, hown, hts⟩ (tm_linkNumbered l hst dC dI cy a0 a1 a2 aT b1 b2 b3 b4 b5 b6 b7 p1 s.heap.size) (tp_cwV 1 hts tw_564 tw_566 tw_4 tw_38 tw_567 rfl rfl (by decide +kernel) ⟨Nat.le_of_ble_eq_true rfl, Nat.le_of_ble_eq_true rfl⟩) ⟨tp_blind, va_recv hK hP (ci := 8) (q0 := 0) rfl rfl, fun U hU hW => ⟨rfl, tp_pay hK hP hD hE hZ hS [0, 1, 2] (by decide) rfl hFc U hU hW⟩⟩ rfl rfl hl.1 rfl (lv_room (Nat.le_of_ble_eq_true rfl)) dX8_turned_2 ⟨(Nat.le_of_ble_eq_true rfl), (Nat.le_of_ble_eq_true rfl)⟩) hS (fun q _ h => hFc q h) hFc (fun q _ h => hFc q h) (fun E9 ce q9 u t H1 locs ht hvm hw hB hz1 hk1 hS hce hcv hcl => ?_) (fun u t H1 locs ht hvm hw hB hz1 hk1 hS => ?_)
  · obtain ⟨rfl, hP1, hD1⟩ := hB
    rw [ht] at hP1
    obtain ⟨hP, hD⟩ := va_join (wr := []) (w1 := []) hP hD [0, 1, 2] [] rfl rfl (by decide) (by decide) hk1 hFc hP1 hD1
    generalize H1 = H at hP hS hce ⊢
    have hP : va_P (dC, dI) vwCl [] _ := hP
    have hD : va_D A [] := hD
    refine vx_widen (k := 1) (n := 6) (Nat.le_of_ble_eq_true rfl) (Nat.le_of_ble_eq_true rfl) ?_
    exact vx_out (fun x hx9 => (htb x hx9).elim) hlocks hce hcv hcl (fun t ht hv => ⟨(), trivial, ⟨rfl, by rw [ht]; exact hP.sub [] rfl, hD.sub [] (by decide) rfl⟩, hS.F ht⟩) hS.2.2 (Nat.le_refl _) (Nat.le_refl _)
  · exact hw.elim
set_option maxRecDepth 100000 in
set_option maxHeartbeats 4000000 in
/-- ofFlow on a new object: IndexOutOfBoundsException -/
theorem tm_ofFlow (l : Launch) (hst : l.stackTraces = false) (dC : Nat → ClassId) (dI : Nat → Nat → Nat) (cy : Nat → ClassId) (a0 : Nat) (a1 : Nat) (a2 : Nat) (aT : Nat) (b1 : Nat) (b2 : Nat) (b3 : Nat) (b4 : Nat) (b5 : Nat) (b6 : Nat) (b7 : Nat) (p1 : Int32) (p2 : Int32) (sz : Nat) : vx_Met l yX8_ofFlow (tp_w yX8_ofFlow cX8_ofFlow 4 (some .int)) ({ frames := 6, cells := 1, slots := 6, locals := 82 }) (va_Pc [.ref a0, .int p1, .int p2] (tp_Pre dC dI cy [(a0, .inr (8, [.ref a1, .ref aT])), (a1, .inr (5, [.ref a2, .ref b1, .ref b2, .ref b3, .ref b4, .ref b5, .int 0, .int 1, .int 0, .int 0, .int 0, .int 0])), (a2, .inr (2, [.ref b6, .int 0, .ref b7, .int 0]))] sz)) (va_Qv (fun _ : Unit => False) (fun (_ : Unit) (_ : State) => False) (va_A [(a0, .inr (8, [.ref a1, .ref aT])), (a1, .inr (5, [.ref a2, .ref b1, .ref b2, .ref b3, .ref b4, .ref b5, .int 0, .int 1, .int 0, .int 0, .int 0, .int 0])), (a2, .inr (2, [.ref b6, .int 0, .ref b7, .int 0]))] sz)) (vx_X (fun _ : Unit => True) (fun (E : String) (_ : Unit) (t : State) => (E = "java/lang/IndexOutOfBoundsException") ∧ tp_Post dC dI (va_A [(a0, .inr (8, [.ref a1, .ref aT])), (a1, .inr (5, [.ref a2, .ref b1, .ref b2, .ref b3, .ref b4, .ref b5, .int 0, .int 1, .int 0, .int 0, .int 0, .int 0])), (a2, .inr (2, [.ref b6, .int 0, .ref b7, .int 0]))] sz) [] t) (va_A [(a0, .inr (8, [.ref a1, .ref aT])), (a1, .inr (5, [.ref a2, .ref b1, .ref b2, .ref b3, .ref b4, .ref b5, .int 0, .int 1, .int 0, .int 0, .int 0, .int 0])), (a2, .inr (2, [.ref b6, .int 0, .ref b7, .int 0]))] sz)) 1 6 (va_A [(a0, .inr (8, [.ref a1, .ref aT])), (a1, .inr (5, [.ref a2, .ref b1, .ref b2, .ref b3, .ref b4, .ref b5, .int 0, .int 1, .int 0, .int 0, .int 0, .int 0])), (a2, .inr (2, [.ref b6, .int 0, .ref b7, .int 0]))] sz) := by
  refine vx_ofW (cc := cX8_ofFlow) (maxL := 4) (ret := (some .int)) (by decide) rfl ?_
  intro p e s m args below meth c s₁ B hml htb hv
  obtain ⟨rfl, hsz, hP, hK, hD0, hE, hZ⟩ := hv
  have hx := B.exec
  have hb := B.bytes
  have hr := B.returns
  have hts0 := atoms_spec (ws := tp_w yX8_ofFlow cX8_ofFlow 4 (some .int)) B.pre
  have hts : ∀ w ∈ tp_all, w.before _ s = true := fun w h => hts0 w (List.mem_cons_of_mem _ h)
  have hown : s.vm.findClass RX8 = some m.cls := findClass_of_methodNamed B.named
  have hlocks := B.notSynchronized
  subst hsz
  have hD := hD0.self (sz := s.heap.size)
  generalize hAe : va_A [(a0, .inr (8, [.ref a1, .ref aT])), (a1, .inr (5, [.ref a2, .ref b1, .ref b2, .ref b3, .ref b4, .ref b5, .int 0, .int 1, .int 0, .int 0, .int 0, .int 0])), (a2, .inr (2, [.ref b6, .int 0, .ref b7, .int 0]))] s.heap.size = A at hD hZ ⊢
  have hA : ∀ q : Nat, s.heap.size ≤ q → A q := fun q h => by rw [← hAe]; exact Or.inr h
  have hS : va_S A s.heap s.heap [] := va_S.rf
  have hl9 := lv_entry ([.ref a0, .int p1, .int p2]) (n := 4) (Nat.le_of_ble_eq_true rfl)
  rw [lg_entry_eq]
  generalize (lg_sl ([.ref a0, .int p1, .int p2]) ++ List.replicate (4 - (lg_sl ([.ref a0, .int p1, .int p2])).length) Slot.unset).toArray = ls at hl9 ⊢
  have hl : lv_has ls 4 [(0, .ref a0), (1, .int p1), (2, .int p2)] := hl9
  refine lv_iload_n hx hb dX8_ofFlow_0 rfl (lv_at hl 1 rfl) ?_
  refine lv_if_lt (tgt := 15) hx hb dX8_ofFlow_1 (by decide) (fun c_1 => ?_) (fun c_1 => ?_)
  · obtain ⟨sa, hsa⟩ := hE.2.2.2.2.1 _ (List.mem_of_getElem? (i := 4) rfl)
    refine vx_throwS (own := RX8) (cls := "java/lang/IndexOutOfBoundsException") (names := tp_up) (ik := 168) (is := 225) (ic := 172) hx hb hst hown (by decide +kernel) (by decide +kernel) (hts _ tw_460) (hts _ tw_54) hsa (tt_IOB hts hE) tg_IOB hZ.1 hZ.2 hS (hl.1.trans hml.symm) dX8_ofFlow_15 dX8_ofFlow_18 dX8_ofFlow_19 dX8_ofFlow_21 dX8_ofFlow_24 (fun x hx9 => (htb x hx9).elim)  (Nat.le_of_ble_eq_true rfl) (Nat.le_of_ble_eq_true rfl) (Nat.le_of_ble_eq_true rfl) (Nat.le_of_ble_eq_true rfl) hlocks (fun t hv hz hq => ?_) hS.2.2 (Nat.le_of_ble_eq_true rfl) (Nat.le_of_ble_eq_true rfl)
    obtain ⟨h5, h6⟩ := tp_thrown hP hD hS hz hq
    exact ⟨(), trivial, ⟨rfl, h5.1.sub [] rfl, h5.2.sub [] (by decide) rfl⟩, h6⟩
  · refine lv_iload_n hx hb dX8_ofFlow_4 rfl (lv_at hl 1 rfl) ?_
    refine lv_aload_n hx hb dX8_ofFlow_5 rfl (lv_at hl 0 rfl) ?_
    refine va_get (D := (dC, dI)) (ci := 8) (v := .ref a1) (C := RX8) (T := TX8) (N := 2) hx hb hts tl_X8 hown hK hP 0 rfl rfl 0 (by decide) (hts _ tw_406) (fun _ h9 => h9) rfl dX8_ofFlow_6 ?_
    refine va_getN (D := (dC, dI)) (ci := 5) (v := .int 0) (C := RX5) (T := TX5) (N := 12) hx hb hts tl_X5 hown hK hP 1 rfl rfl 9 (by decide) (va_Nw.use rfl (te_f69 hE)) (fun _ h9 => h9) rfl dX8_ofFlow_9 ?_
    refine lv_icmp_lt (tgt := 25) hx hb dX8_ofFlow_12 (by decide) (fun c_2 => absurd c_2 c_1) (fun _ => ?_)
    obtain ⟨sa, hsa⟩ := hE.2.2.2.2.1 _ (List.mem_of_getElem? (i := 4) rfl)
    refine vx_throwS (own := RX8) (cls := "java/lang/IndexOutOfBoundsException") (names := tp_up) (ik := 168) (is := 225) (ic := 172) hx hb hst hown (by decide +kernel) (by decide +kernel) (hts _ tw_460) (hts _ tw_54) hsa (tt_IOB hts hE) tg_IOB hZ.1 hZ.2 hS (hl.1.trans hml.symm) dX8_ofFlow_15 dX8_ofFlow_18 dX8_ofFlow_19 dX8_ofFlow_21 dX8_ofFlow_24 (fun x hx9 => (htb x hx9).elim)  (Nat.le_of_ble_eq_true rfl) (Nat.le_of_ble_eq_true rfl) (Nat.le_of_ble_eq_true rfl) (Nat.le_of_ble_eq_true rfl) hlocks (fun t hv hz hq => ?_) hS.2.2 (Nat.le_of_ble_eq_true rfl) (Nat.le_of_ble_eq_true rfl)
    obtain ⟨h5, h6⟩ := tp_thrown hP hD hS hz hq
    exact ⟨(), trivial, ⟨rfl, h5.1.sub [] rfl, h5.2.sub [] (by decide) rfl⟩, h6⟩
set_option maxRecDepth 100000 in
set_option maxHeartbeats 4000000 in
/-- arrivesIn on a new object: IndexOutOfBoundsException -/
theorem tm_arrivesIn (l : Launch) (hst : l.stackTraces = false) (dC : Nat → ClassId) (dI : Nat → Nat → Nat) (cy : Nat → ClassId) (a0 : Nat) (a1 : Nat) (a2 : Nat) (aT : Nat) (b1 : Nat) (b2 : Nat) (b3 : Nat) (b4 : Nat) (b5 : Nat) (b6 : Nat) (b7 : Nat) (p1 : Int32) (p2 : Int32) (sz : Nat) : vx_Met l yX8_arrivesIn (tp_w yX8_arrivesIn cX8_arrivesIn 5 (some .int)) ({ frames := 7, cells := 1, slots := 6, locals := 104 }) (va_Pc [.ref a0, .int p1, .int p2] (tp_Pre dC dI cy [(a0, .inr (8, [.ref a1, .ref aT])), (a1, .inr (5, [.ref a2, .ref b1, .ref b2, .ref b3, .ref b4, .ref b5, .int 0, .int 1, .int 0, .int 0, .int 0, .int 0])), (a2, .inr (2, [.ref b6, .int 0, .ref b7, .int 0]))] sz)) (va_Qv (fun _ : Unit => False) (fun (_ : Unit) (_ : State) => False) (va_A [(a0, .inr (8, [.ref a1, .ref aT])), (a1, .inr (5, [.ref a2, .ref b1, .ref b2, .ref b3, .ref b4, .ref b5, .int 0, .int 1, .int 0, .int 0, .int 0, .int 0])), (a2, .inr (2, [.ref b6, .int 0, .ref b7, .int 0]))] sz)) (vx_X (fun _ : Unit => True) (fun (E : String) (_ : Unit) (t : State) => (E = "java/lang/IndexOutOfBoundsException") ∧ tp_Post dC dI (va_A [(a0, .inr (8, [.ref a1, .ref aT])), (a1, .inr (5, [.ref a2, .ref b1, .ref b2, .ref b3, .ref b4, .ref b5, .int 0, .int 1, .int 0, .int 0, .int 0, .int 0])), (a2, .inr (2, [.ref b6, .int 0, .ref b7, .int 0]))] sz) [] t) (va_A [(a0, .inr (8, [.ref a1, .ref aT])), (a1, .inr (5, [.ref a2, .ref b1, .ref b2, .ref b3, .ref b4, .ref b5, .int 0, .int 1, .int 0, .int 0, .int 0, .int 0])), (a2, .inr (2, [.ref b6, .int 0, .ref b7, .int 0]))] sz)) 1 6 (va_A [(a0, .inr (8, [.ref a1, .ref aT])), (a1, .inr (5, [.ref a2, .ref b1, .ref b2, .ref b3, .ref b4, .ref b5, .int 0, .int 1, .int 0, .int 0, .int 0, .int 0])), (a2, .inr (2, [.ref b6, .int 0, .ref b7, .int 0]))] sz) := by
  refine vx_ofW (cc := cX8_arrivesIn) (maxL := 5) (ret := (some .int)) (by decide) rfl ?_
  intro p e s m args below meth c s₁ B hml htb hv
  obtain ⟨rfl, hsz, hP, hK, hD0, hE, hZ⟩ := hv
  have hx := B.exec
  have hb := B.bytes
  have hr := B.returns
  have hts0 := atoms_spec (ws := tp_w yX8_arrivesIn cX8_arrivesIn 5 (some .int)) B.pre
  have hts : ∀ w ∈ tp_all, w.before _ s = true := fun w h => hts0 w (List.mem_cons_of_mem _ h)
  have hown : s.vm.findClass RX8 = some m.cls := findClass_of_methodNamed B.named
  have hlocks := B.notSynchronized
  subst hsz
  have hD := hD0.self (sz := s.heap.size)
  generalize hAe : va_A [(a0, .inr (8, [.ref a1, .ref aT])), (a1, .inr (5, [.ref a2, .ref b1, .ref b2, .ref b3, .ref b4, .ref b5, .int 0, .int 1, .int 0, .int 0, .int 0, .int 0])), (a2, .inr (2, [.ref b6, .int 0, .ref b7, .int 0]))] s.heap.size = A at hD hZ ⊢
  have hA : ∀ q : Nat, s.heap.size ≤ q → A q := fun q h => by rw [← hAe]; exact Or.inr h
  have hS : va_S A s.heap s.heap [] := va_S.rf
  have hl9 := lv_entry ([.ref a0, .int p1, .int p2]) (n := 5) (Nat.le_of_ble_eq_true rfl)
  rw [lg_entry_eq]
  generalize (lg_sl ([.ref a0, .int p1, .int p2]) ++ List.replicate (5 - (lg_sl ([.ref a0, .int p1, .int p2])).length) Slot.unset).toArray = ls at hl9 ⊢
  have hl : lv_has ls 5 [(0, .ref a0), (1, .int p1), (2, .int p2)] := hl9
  refine lv_aload_n hx hb dX8_arrivesIn_0 rfl (lv_at hl 0 rfl) ?_
  refine lv_iload_n hx hb dX8_arrivesIn_1 rfl (lv_at hl 1 rfl) ?_
  have hFc := va_free (wc := [(a0, .inr (8, [.ref a1, .ref aT])), (a1, .inr (5, [.ref a2, .ref b1, .ref b2, .ref b3, .ref b4, .ref b5, .int 0, .int 1, .int 0, .int 0, .int 0, .int 0])), (a2, .inr (2, [.ref b6, .int 0, .ref b7, .int 0]))]) hD hS hA [0, 1, 2] rfl
  refine vx_callv (vx_runV (As := [.int p1]) (rest := []) ⟨hx, hb, hml, hown, hts⟩ (tm_vehicleNumbered l hst dC dI cy a0 a1 a2 aT b1 b2 b3 b4 b5 b6 b7 p1 s.heap.size) (tp_cwV 1 hts tw_644 tw_646 tw_7 tw_38 tw_647 rfl rfl (by decide +kernel) ⟨Nat.le_of_ble_eq_true rfl, Nat.le_of_ble_eq_true rfl⟩) ⟨tp_blind, va_recv hK hP (ci := 8) (q0 := 0) rfl rfl, fun U hU hW => ⟨rfl, tp_pay hK hP hD hE hZ hS [0, 1, 2] (by decide) rfl hFc U hU hW⟩⟩ rfl rfl hl.1 rfl (lv_room (Nat.le_of_ble_eq_true rfl)) dX8_arrivesIn_2 ⟨(Nat.le_of_ble_eq_true rfl), (Nat.le_of_ble_eq_true rfl)⟩) hS (fun q _ h => hFc q h) hFc (fun q _ h => hFc q h) (fun E9 ce q9 u t H1 locs ht hvm hw hB hz1 hk1 hS hce hcv hcl => ?_) (fun u t H1 locs ht hvm hw hB hz1 hk1 hS => ?_)
  · obtain ⟨rfl, hP1, hD1⟩ := hB
    rw [ht] at hP1
    obtain ⟨hP, hD⟩ := va_join (wr := []) (w1 := []) hP hD [0, 1, 2] [] rfl rfl (by decide) (by decide) hk1 hFc hP1 hD1
    generalize H1 = H at hP hS hce ⊢
    have hP : va_P (dC, dI) vwCl [] _ := hP
    have hD : va_D A [] := hD
    refine vx_widen (k := 1) (n := 6) (Nat.le_of_ble_eq_true rfl) (Nat.le_of_ble_eq_true rfl) ?_
    exact vx_out (fun x hx9 => (htb x hx9).elim) hlocks hce hcv hcl (fun t ht hv => ⟨(), trivial, ⟨rfl, by rw [ht]; exact hP.sub [] rfl, hD.sub [] (by decide) rfl⟩, hS.F ht⟩) hS.2.2 (Nat.le_refl _) (Nat.le_refl _)
  · exact hw.elim
set_option maxRecDepth 100000 in
set_option maxHeartbeats 4000000 in
/-- distanceWithout on a new object: IndexOutOfBoundsException -/
theorem tm_distanceWithout (l : Launch) (hst : l.stackTraces = false) (dC : Nat → ClassId) (dI : Nat → Nat → Nat) (cy : Nat → ClassId) (a0 : Nat) (a1 : Nat) (a2 : Nat) (aT : Nat) (b1 : Nat) (b2 : Nat) (b3 : Nat) (b4 : Nat) (b5 : Nat) (b6 : Nat) (b7 : Nat) (p1 : Int32) (p2 : Int32) (p3 : Int32) (sz : Nat) : vx_Met l yX8_distanceWithout (tp_w yX8_distanceWithout cX8_distanceWithout 5 (some .int)) ({ frames := 7, cells := 1, slots := 6, locals := 104 }) (va_Pc [.ref a0, .int p1, .int p2, .int p3] (tp_Pre dC dI cy [(a0, .inr (8, [.ref a1, .ref aT])), (a1, .inr (5, [.ref a2, .ref b1, .ref b2, .ref b3, .ref b4, .ref b5, .int 0, .int 1, .int 0, .int 0, .int 0, .int 0])), (a2, .inr (2, [.ref b6, .int 0, .ref b7, .int 0]))] sz)) (va_Qv (fun _ : Unit => False) (fun (_ : Unit) (_ : State) => False) (va_A [(a0, .inr (8, [.ref a1, .ref aT])), (a1, .inr (5, [.ref a2, .ref b1, .ref b2, .ref b3, .ref b4, .ref b5, .int 0, .int 1, .int 0, .int 0, .int 0, .int 0])), (a2, .inr (2, [.ref b6, .int 0, .ref b7, .int 0]))] sz)) (vx_X (fun _ : Unit => True) (fun (E : String) (_ : Unit) (t : State) => (E = "java/lang/IndexOutOfBoundsException") ∧ tp_Post dC dI (va_A [(a0, .inr (8, [.ref a1, .ref aT])), (a1, .inr (5, [.ref a2, .ref b1, .ref b2, .ref b3, .ref b4, .ref b5, .int 0, .int 1, .int 0, .int 0, .int 0, .int 0])), (a2, .inr (2, [.ref b6, .int 0, .ref b7, .int 0]))] sz) [] t) (va_A [(a0, .inr (8, [.ref a1, .ref aT])), (a1, .inr (5, [.ref a2, .ref b1, .ref b2, .ref b3, .ref b4, .ref b5, .int 0, .int 1, .int 0, .int 0, .int 0, .int 0])), (a2, .inr (2, [.ref b6, .int 0, .ref b7, .int 0]))] sz)) 1 6 (va_A [(a0, .inr (8, [.ref a1, .ref aT])), (a1, .inr (5, [.ref a2, .ref b1, .ref b2, .ref b3, .ref b4, .ref b5, .int 0, .int 1, .int 0, .int 0, .int 0, .int 0])), (a2, .inr (2, [.ref b6, .int 0, .ref b7, .int 0]))] sz) := by
  refine vx_ofW (cc := cX8_distanceWithout) (maxL := 5) (ret := (some .int)) (by decide) rfl ?_
  intro p e s m args below meth c s₁ B hml htb hv
  obtain ⟨rfl, hsz, hP, hK, hD0, hE, hZ⟩ := hv
  have hx := B.exec
  have hb := B.bytes
  have hr := B.returns
  have hts0 := atoms_spec (ws := tp_w yX8_distanceWithout cX8_distanceWithout 5 (some .int)) B.pre
  have hts : ∀ w ∈ tp_all, w.before _ s = true := fun w h => hts0 w (List.mem_cons_of_mem _ h)
  have hown : s.vm.findClass RX8 = some m.cls := findClass_of_methodNamed B.named
  have hlocks := B.notSynchronized
  subst hsz
  have hD := hD0.self (sz := s.heap.size)
  generalize hAe : va_A [(a0, .inr (8, [.ref a1, .ref aT])), (a1, .inr (5, [.ref a2, .ref b1, .ref b2, .ref b3, .ref b4, .ref b5, .int 0, .int 1, .int 0, .int 0, .int 0, .int 0])), (a2, .inr (2, [.ref b6, .int 0, .ref b7, .int 0]))] s.heap.size = A at hD hZ ⊢
  have hA : ∀ q : Nat, s.heap.size ≤ q → A q := fun q h => by rw [← hAe]; exact Or.inr h
  have hS : va_S A s.heap s.heap [] := va_S.rf
  have hl9 := lv_entry ([.ref a0, .int p1, .int p2, .int p3]) (n := 5) (Nat.le_of_ble_eq_true rfl)
  rw [lg_entry_eq]
  generalize (lg_sl ([.ref a0, .int p1, .int p2, .int p3]) ++ List.replicate (5 - (lg_sl ([.ref a0, .int p1, .int p2, .int p3])).length) Slot.unset).toArray = ls at hl9 ⊢
  have hl : lv_has ls 5 [(0, .ref a0), (1, .int p1), (2, .int p2), (3, .int p3)] := hl9
  refine lv_aload_n hx hb dX8_distanceWithout_0 rfl (lv_at hl 0 rfl) ?_
  refine lv_iload_n hx hb dX8_distanceWithout_1 rfl (lv_at hl 1 rfl) ?_
  have hFc := va_free (wc := [(a0, .inr (8, [.ref a1, .ref aT])), (a1, .inr (5, [.ref a2, .ref b1, .ref b2, .ref b3, .ref b4, .ref b5, .int 0, .int 1, .int 0, .int 0, .int 0, .int 0])), (a2, .inr (2, [.ref b6, .int 0, .ref b7, .int 0]))]) hD hS hA [0, 1, 2] rfl
  refine vx_callv (vx_runV (As := [.int p1]) (rest := []) ⟨hx, hb, hml, hown, hts⟩ (tm_linkNumbered l hst dC dI cy a0 a1 a2 aT b1 b2 b3 b4 b5 b6 b7 p1 s.heap.size) (tp_cwV 1 hts tw_564 tw_566 tw_4 tw_38 tw_567 rfl rfl (by decide +kernel) ⟨Nat.le_of_ble_eq_true rfl, Nat.le_of_ble_eq_true rfl⟩) ⟨tp_blind, va_recv hK hP (ci := 8) (q0 := 0) rfl rfl, fun U hU hW => ⟨rfl, tp_pay hK hP hD hE hZ hS [0, 1, 2] (by decide) rfl hFc U hU hW⟩⟩ rfl rfl hl.1 rfl (lv_room (Nat.le_of_ble_eq_true rfl)) dX8_distanceWithout_2 ⟨(Nat.le_of_ble_eq_true rfl), (Nat.le_of_ble_eq_true rfl)⟩) hS (fun q _ h => hFc q h) hFc (fun q _ h => hFc q h) (fun E9 ce q9 u t H1 locs ht hvm hw hB hz1 hk1 hS hce hcv hcl => ?_) (fun u t H1 locs ht hvm hw hB hz1 hk1 hS => ?_)
  · obtain ⟨rfl, hP1, hD1⟩ := hB
    rw [ht] at hP1
    obtain ⟨hP, hD⟩ := va_join (wr := []) (w1 := []) hP hD [0, 1, 2] [] rfl rfl (by decide) (by decide) hk1 hFc hP1 hD1
    generalize H1 = H at hP hS hce ⊢
    have hP : va_P (dC, dI) vwCl [] _ := hP
    have hD : va_D A [] := hD
    refine vx_widen (k := 1) (n := 6) (Nat.le_of_ble_eq_true rfl) (Nat.le_of_ble_eq_true rfl) ?_
    exact vx_out (fun x hx9 => (htb x hx9).elim) hlocks hce hcv hcl (fun t ht hv => ⟨(), trivial, ⟨rfl, by rw [ht]; exact hP.sub [] rfl, hD.sub [] (by decide) rfl⟩, hS.F ht⟩) hS.2.2 (Nat.le_refl _) (Nat.le_refl _)
  · exact hw.elim

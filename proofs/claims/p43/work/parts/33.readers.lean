theorem tw_126 : Cond.code yX8_linkNumbered cX8_linkNumbered 3 (some (.object "Turnpike$Link")) ∈ tp_all := tp_mem 126 (by decide +kernel) rfl
theorem tw_122 : Cond.methodLink RX8 83 yX8_linkNumbered ∈ tp_all := tp_mem 122 (by decide +kernel) rfl
theorem tw_124 : Cond.instanceMethod yX8_linkNumbered ∈ tp_all := tp_mem 124 (by decide +kernel) rfl
theorem tw_1 : Cond.selects RX8 yX8_linkNumbered yX8_linkNumbered ∈ tp_all := tp_mem 1 (by decide +kernel) rfl
theorem tw_429 : Cond.code yX8_checkNode cX8_checkNode 2 none ∈ tp_all := tp_mem 429 (by decide +kernel) rfl
theorem tw_426 : Cond.methodLink RX8 32 yX8_checkNode ∈ tp_all := tp_mem 426 (by decide +kernel) rfl
theorem tw_428 : Cond.instanceMethod yX8_checkNode ∈ tp_all := tp_mem 428 (by decide +kernel) rfl
theorem tw_13 : Cond.selects RX8 yX8_checkNode yX8_checkNode ∈ tp_all := tp_mem 13 (by decide +kernel) rfl
theorem tw_390 : Cond.code yX8_vehicleNumbered cX8_vehicleNumbered 3 (some (.object "Turnpike$Vehicle")) ∈ tp_all := tp_mem 390 (by decide +kernel) rfl
theorem tw_387 : Cond.methodLink RX8 146 yX8_vehicleNumbered ∈ tp_all := tp_mem 387 (by decide +kernel) rfl
theorem tw_389 : Cond.instanceMethod yX8_vehicleNumbered ∈ tp_all := tp_mem 389 (by decide +kernel) rfl
theorem tw_12 : Cond.selects RX8 yX8_vehicleNumbered yX8_vehicleNumbered ∈ tp_all := tp_mem 12 (by decide +kernel) rfl
theorem tw_440 : Cond.methodLink RX8 198 yX3_get ∈ tp_all := tp_mem 440 (by decide +kernel) rfl
theorem tw_445 : Cond.methodLink RX8 201 yX1_queueIn ∈ tp_all := tp_mem 445 (by decide +kernel) rfl
theorem te_f66 {U : State} (h : tp_E U) : va_Nw (.fieldLinkNest "Turnpike" 102 "Turnpike$Traffic" "clock" "I" "Turnpike") U := h.1 _ (List.mem_of_getElem? (i := 66) rfl)
theorem te_f25 {U : State} (h : tp_E U) : va_Nw (.fieldLinkNest "Turnpike" 47 "Turnpike$Roads" "links" "I" "Turnpike") U := h.1 _ (List.mem_of_getElem? (i := 25) rfl)
theorem te_f69 {U : State} (h : tp_E U) : va_Nw (.fieldLinkNest "Turnpike" 105 "Turnpike$Traffic" "flows" "I" "Turnpike") U := h.1 _ (List.mem_of_getElem? (i := 69) rfl)
theorem te_f70 {U : State} (h : tp_E U) : va_Nw (.fieldLinkNest "Turnpike" 143 "Turnpike$Traffic" "vehicles" "I" "Turnpike") U := h.1 _ (List.mem_of_getElem? (i := 70) rfl)
theorem te_f11 {U : State} (h : tp_E U) : va_Nw (.fieldLinkNest "Turnpike" 96 "Turnpike$Link" "rate" "I" "Turnpike") U := h.1 _ (List.mem_of_getElem? (i := 11) rfl)
theorem te_f16 {U : State} (h : tp_E U) : va_Nw (.fieldLinkNest "Turnpike" 126 "Turnpike$Link" "cost" "I" "Turnpike") U := h.1 _ (List.mem_of_getElem? (i := 16) rfl)
theorem te_f13 {U : State} (h : tp_E U) : va_Nw (.fieldLinkNest "Turnpike" 87 "Turnpike$Link" "shut" "Z" "Turnpike") U := h.1 _ (List.mem_of_getElem? (i := 13) rfl)
theorem te_f18 {U : State} (h : tp_E U) : va_Nw (.fieldLinkNest "Turnpike" 193 "Turnpike$Link" "row" "LTurnpike$Row;" "Turnpike") U := h.1 _ (List.mem_of_getElem? (i := 18) rfl)
theorem te_f1 {U : State} (h : tp_E U) : va_Nw (.fieldLinkNest "Turnpike" 188 "Turnpike$Row" "size" "I" "Turnpike") U := h.1 _ (List.mem_of_getElem? (i := 1) rfl)
theorem te_f61 {U : State} (h : tp_E U) : va_Nw (.fieldLinkNest "Turnpike" 62 "Turnpike$Traffic" "signal" "[LTurnpike$Signal;" "Turnpike") U := h.1 _ (List.mem_of_getElem? (i := 61) rfl)
theorem te_f29 {U : State} (h : tp_E U) : va_Nw (.fieldLinkNest "Turnpike" 129 "Turnpike$Signal" "phase" "I" "Turnpike") U := h.1 _ (List.mem_of_getElem? (i := 29) rfl)
theorem te_f30 {U : State} (h : tp_E U) : va_Nw (.fieldLinkNest "Turnpike" 132 "Turnpike$Signal" "ticks" "I" "Turnpike") U := h.1 _ (List.mem_of_getElem? (i := 30) rfl)
theorem te_f62 {U : State} (h : tp_E U) : va_Nw (.fieldLinkNest "Turnpike" 184 "Turnpike$Traffic" "row" "[LTurnpike$Row;" "Turnpike") U := h.1 _ (List.mem_of_getElem? (i := 62) rfl)
theorem te_f50 {U : State} (h : tp_E U) : va_Nw (.fieldLinkNest "Turnpike" 150 "Turnpike$Vehicle" "state" "I" "Turnpike") U := h.1 _ (List.mem_of_getElem? (i := 50) rfl)
theorem te_f51 {U : State} (h : tp_E U) : va_Nw (.fieldLinkNest "Turnpike" 155 "Turnpike$Vehicle" "link" "I" "Turnpike") U := h.1 _ (List.mem_of_getElem? (i := 51) rfl)
theorem te_f53 {U : State} (h : tp_E U) : va_Nw (.fieldLinkNest "Turnpike" 158 "Turnpike$Vehicle" "end" "I" "Turnpike") U := h.1 _ (List.mem_of_getElem? (i := 53) rfl)
theorem te_f55 {U : State} (h : tp_E U) : va_Nw (.fieldLinkNest "Turnpike" 161 "Turnpike$Vehicle" "gone" "I" "Turnpike") U := h.1 _ (List.mem_of_getElem? (i := 55) rfl)
theorem te_f57 {U : State} (h : tp_E U) : va_Nw (.fieldLinkNest "Turnpike" 178 "Turnpike$Vehicle" "trip" "I" "Turnpike") U := h.1 _ (List.mem_of_getElem? (i := 57) rfl)
theorem te_f59 {U : State} (h : tp_E U) : va_Nw (.fieldLinkNest "Turnpike" 181 "Turnpike$Vehicle" "delay" "I" "Turnpike") U := h.1 _ (List.mem_of_getElem? (i := 59) rfl)
theorem te_f23 {U : State} (h : tp_E U) : va_Nw (.fieldLinkNest "Turnpike" 221 "Turnpike$Link" "wentOnto" "[I" "Turnpike") U := h.1 _ (List.mem_of_getElem? (i := 23) rfl)
theorem te_f19 {U : State} (h : tp_E U) : va_Nw (.fieldLinkNest "Turnpike" 204 "Turnpike$Link" "came" "I" "Turnpike") U := h.1 _ (List.mem_of_getElem? (i := 19) rfl)
theorem te_f20 {U : State} (h : tp_E U) : va_Nw (.fieldLinkNest "Turnpike" 207 "Turnpike$Link" "left" "I" "Turnpike") U := h.1 _ (List.mem_of_getElem? (i := 20) rfl)
theorem te_f21 {U : State} (h : tp_E U) : va_Nw (.fieldLinkNest "Turnpike" 210 "Turnpike$Link" "greatestQueue" "I" "Turnpike") U := h.1 _ (List.mem_of_getElem? (i := 21) rfl)
theorem te_f22 {U : State} (h : tp_E U) : va_Nw (.fieldLinkNest "Turnpike" 213 "Turnpike$Link" "sumOfQueues" "I" "Turnpike") U := h.1 _ (List.mem_of_getElem? (i := 22) rfl)
theorem te_f63 {U : State} (h : tp_E U) : va_Nw (.fieldLinkNest "Turnpike" 110 "Turnpike$Traffic" "flow" "[LTurnpike$Flow;" "Turnpike") U := h.1 _ (List.mem_of_getElem? (i := 63) rfl)
theorem te_f38 {U : State} (h : tp_E U) : va_Nw (.fieldLinkNest "Turnpike" 227 "Turnpike$Flow" "came" "I" "Turnpike") U := h.1 _ (List.mem_of_getElem? (i := 38) rfl)
theorem te_f39 {U : State} (h : tp_E U) : va_Nw (.fieldLinkNest "Turnpike" 228 "Turnpike$Flow" "arrived" "I" "Turnpike") U := h.1 _ (List.mem_of_getElem? (i := 39) rfl)
theorem te_f41 {U : State} (h : tp_E U) : va_Nw (.fieldLinkNest "Turnpike" 231 "Turnpike$Flow" "givenUp" "I" "Turnpike") U := h.1 _ (List.mem_of_getElem? (i := 41) rfl)
theorem te_f42 {U : State} (h : tp_E U) : va_Nw (.fieldLinkNest "Turnpike" 234 "Turnpike$Flow" "sumOfTrips" "I" "Turnpike") U := h.1 _ (List.mem_of_getElem? (i := 42) rfl)
theorem te_f43 {U : State} (h : tp_E U) : va_Nw (.fieldLinkNest "Turnpike" 237 "Turnpike$Flow" "sumOfDelays" "I" "Turnpike") U := h.1 _ (List.mem_of_getElem? (i := 43) rfl)
theorem te_f44 {U : State} (h : tp_E U) : va_Nw (.fieldLinkNest "Turnpike" 240 "Turnpike$Flow" "longestTrip" "I" "Turnpike") U := h.1 _ (List.mem_of_getElem? (i := 44) rfl)
theorem dX8_clock_0 : decode cX8_clock 0 = .ok (.aload_n 0, 1) := by decide +kernel
theorem dX8_clock_1 : decode cX8_clock 1 = .ok (.getfield 12, 3) := by decide +kernel
theorem dX8_clock_4 : decode cX8_clock 4 = .ok (.getfield 102, 3) := by decide +kernel
theorem dX8_clock_7 : decode cX8_clock 7 = .ok (.ireturn, 1) := by decide +kernel
theorem dX8_nodes_0 : decode cX8_nodes 0 = .ok (.aload_n 0, 1) := by decide +kernel
theorem dX8_nodes_1 : decode cX8_nodes 1 = .ok (.getfield 12, 3) := by decide +kernel
theorem dX8_nodes_4 : decode cX8_nodes 4 = .ok (.getfield 21, 3) := by decide +kernel
theorem dX8_nodes_7 : decode cX8_nodes 7 = .ok (.ireturn, 1) := by decide +kernel
theorem dX8_links_0 : decode cX8_links 0 = .ok (.aload_n 0, 1) := by decide +kernel
theorem dX8_links_1 : decode cX8_links 1 = .ok (.getfield 12, 3) := by decide +kernel
theorem dX8_links_4 : decode cX8_links 4 = .ok (.getfield 43, 3) := by decide +kernel
theorem dX8_links_7 : decode cX8_links 7 = .ok (.getfield 47, 3) := by decide +kernel
theorem dX8_links_10 : decode cX8_links 10 = .ok (.ireturn, 1) := by decide +kernel
theorem dX8_flows_0 : decode cX8_flows 0 = .ok (.aload_n 0, 1) := by decide +kernel
theorem dX8_flows_1 : decode cX8_flows 1 = .ok (.getfield 12, 3) := by decide +kernel
theorem dX8_flows_4 : decode cX8_flows 4 = .ok (.getfield 105, 3) := by decide +kernel
theorem dX8_flows_7 : decode cX8_flows 7 = .ok (.ireturn, 1) := by decide +kernel
theorem dX8_vehicles_0 : decode cX8_vehicles 0 = .ok (.aload_n 0, 1) := by decide +kernel
theorem dX8_vehicles_1 : decode cX8_vehicles 1 = .ok (.getfield 12, 3) := by decide +kernel
theorem dX8_vehicles_4 : decode cX8_vehicles 4 = .ok (.getfield 143, 3) := by decide +kernel
theorem dX8_vehicles_7 : decode cX8_vehicles 7 = .ok (.ireturn, 1) := by decide +kernel
theorem dX8_rateOf_0 : decode cX8_rateOf 0 = .ok (.aload_n 0, 1) := by decide +kernel
theorem dX8_rateOf_1 : decode cX8_rateOf 1 = .ok (.iload_n 1, 1) := by decide +kernel
theorem dX8_rateOf_2 : decode cX8_rateOf 2 = .ok (.invokevirtual 83, 3) := by decide +kernel
theorem dX8_rateOf_5 : decode cX8_rateOf 5 = .ok (.getfield 96, 3) := by decide +kernel
theorem dX8_rateOf_8 : decode cX8_rateOf 8 = .ok (.ireturn, 1) := by decide +kernel
theorem dX8_costOf_0 : decode cX8_costOf 0 = .ok (.aload_n 0, 1) := by decide +kernel
theorem dX8_costOf_1 : decode cX8_costOf 1 = .ok (.iload_n 1, 1) := by decide +kernel
theorem dX8_costOf_2 : decode cX8_costOf 2 = .ok (.invokevirtual 83, 3) := by decide +kernel
theorem dX8_costOf_5 : decode cX8_costOf 5 = .ok (.getfield 126, 3) := by decide +kernel
theorem dX8_costOf_8 : decode cX8_costOf 8 = .ok (.ireturn, 1) := by decide +kernel
theorem dX8_isShut_0 : decode cX8_isShut 0 = .ok (.aload_n 0, 1) := by decide +kernel
theorem dX8_isShut_1 : decode cX8_isShut 1 = .ok (.iload_n 1, 1) := by decide +kernel
theorem dX8_isShut_2 : decode cX8_isShut 2 = .ok (.invokevirtual 83, 3) := by decide +kernel
theorem dX8_isShut_5 : decode cX8_isShut 5 = .ok (.getfield 87, 3) := by decide +kernel
theorem dX8_isShut_8 : decode cX8_isShut 8 = .ok (.ireturn, 1) := by decide +kernel
theorem dX8_onLink_0 : decode cX8_onLink 0 = .ok (.aload_n 0, 1) := by decide +kernel
theorem dX8_onLink_1 : decode cX8_onLink 1 = .ok (.iload_n 1, 1) := by decide +kernel
theorem dX8_onLink_2 : decode cX8_onLink 2 = .ok (.invokevirtual 83, 3) := by decide +kernel
theorem dX8_onLink_5 : decode cX8_onLink 5 = .ok (.getfield 193, 3) := by decide +kernel
theorem dX8_onLink_8 : decode cX8_onLink 8 = .ok (.getfield 188, 3) := by decide +kernel
theorem dX8_onLink_11 : decode cX8_onLink 11 = .ok (.ireturn, 1) := by decide +kernel
theorem dX8_phaseOf_0 : decode cX8_phaseOf 0 = .ok (.aload_n 0, 1) := by decide +kernel
theorem dX8_phaseOf_1 : decode cX8_phaseOf 1 = .ok (.iload_n 1, 1) := by decide +kernel
theorem dX8_phaseOf_2 : decode cX8_phaseOf 2 = .ok (.invokevirtual 32, 3) := by decide +kernel
theorem dX8_phaseOf_5 : decode cX8_phaseOf 5 = .ok (.aload_n 0, 1) := by decide +kernel
theorem dX8_phaseOf_6 : decode cX8_phaseOf 6 = .ok (.getfield 12, 3) := by decide +kernel
theorem dX8_phaseOf_9 : decode cX8_phaseOf 9 = .ok (.getfield 62, 3) := by decide +kernel
theorem dX8_phaseOf_12 : decode cX8_phaseOf 12 = .ok (.iload_n 1, 1) := by decide +kernel
theorem dX8_phaseOf_13 : decode cX8_phaseOf 13 = .ok (.aaload, 1) := by decide +kernel
theorem dX8_phaseOf_14 : decode cX8_phaseOf 14 = .ok (.getfield 129, 3) := by decide +kernel
theorem dX8_phaseOf_17 : decode cX8_phaseOf 17 = .ok (.ireturn, 1) := by decide +kernel
theorem dX8_phaseTicks_0 : decode cX8_phaseTicks 0 = .ok (.aload_n 0, 1) := by decide +kernel
theorem dX8_phaseTicks_1 : decode cX8_phaseTicks 1 = .ok (.iload_n 1, 1) := by decide +kernel
theorem dX8_phaseTicks_2 : decode cX8_phaseTicks 2 = .ok (.invokevirtual 32, 3) := by decide +kernel
theorem dX8_phaseTicks_5 : decode cX8_phaseTicks 5 = .ok (.aload_n 0, 1) := by decide +kernel
theorem dX8_phaseTicks_6 : decode cX8_phaseTicks 6 = .ok (.getfield 12, 3) := by decide +kernel
theorem dX8_phaseTicks_9 : decode cX8_phaseTicks 9 = .ok (.getfield 62, 3) := by decide +kernel
theorem dX8_phaseTicks_12 : decode cX8_phaseTicks 12 = .ok (.iload_n 1, 1) := by decide +kernel
theorem dX8_phaseTicks_13 : decode cX8_phaseTicks 13 = .ok (.aaload, 1) := by decide +kernel
theorem dX8_phaseTicks_14 : decode cX8_phaseTicks 14 = .ok (.getfield 132, 3) := by decide +kernel
theorem dX8_phaseTicks_17 : decode cX8_phaseTicks 17 = .ok (.ireturn, 1) := by decide +kernel
theorem dX8_waiting_0 : decode cX8_waiting 0 = .ok (.aload_n 0, 1) := by decide +kernel
theorem dX8_waiting_1 : decode cX8_waiting 1 = .ok (.iload_n 1, 1) := by decide +kernel
theorem dX8_waiting_2 : decode cX8_waiting 2 = .ok (.invokevirtual 32, 3) := by decide +kernel
theorem dX8_waiting_5 : decode cX8_waiting 5 = .ok (.aload_n 0, 1) := by decide +kernel
theorem dX8_waiting_6 : decode cX8_waiting 6 = .ok (.getfield 12, 3) := by decide +kernel
theorem dX8_waiting_9 : decode cX8_waiting 9 = .ok (.getfield 184, 3) := by decide +kernel
theorem dX8_waiting_12 : decode cX8_waiting 12 = .ok (.iload_n 1, 1) := by decide +kernel
theorem dX8_waiting_13 : decode cX8_waiting 13 = .ok (.aaload, 1) := by decide +kernel
theorem dX8_waiting_14 : decode cX8_waiting 14 = .ok (.getfield 188, 3) := by decide +kernel
theorem dX8_waiting_17 : decode cX8_waiting 17 = .ok (.ireturn, 1) := by decide +kernel
theorem dX8_stateOf_0 : decode cX8_stateOf 0 = .ok (.aload_n 0, 1) := by decide +kernel
theorem dX8_stateOf_1 : decode cX8_stateOf 1 = .ok (.iload_n 1, 1) := by decide +kernel
theorem dX8_stateOf_2 : decode cX8_stateOf 2 = .ok (.invokevirtual 146, 3) := by decide +kernel
theorem dX8_stateOf_5 : decode cX8_stateOf 5 = .ok (.getfield 150, 3) := by decide +kernel
theorem dX8_stateOf_8 : decode cX8_stateOf 8 = .ok (.ireturn, 1) := by decide +kernel
theorem dX8_linkOf_0 : decode cX8_linkOf 0 = .ok (.aload_n 0, 1) := by decide +kernel
theorem dX8_linkOf_1 : decode cX8_linkOf 1 = .ok (.iload_n 1, 1) := by decide +kernel
theorem dX8_linkOf_2 : decode cX8_linkOf 2 = .ok (.invokevirtual 146, 3) := by decide +kernel
theorem dX8_linkOf_5 : decode cX8_linkOf 5 = .ok (.getfield 155, 3) := by decide +kernel
theorem dX8_linkOf_8 : decode cX8_linkOf 8 = .ok (.ireturn, 1) := by decide +kernel
theorem dX8_endOf_0 : decode cX8_endOf 0 = .ok (.aload_n 0, 1) := by decide +kernel
theorem dX8_endOf_1 : decode cX8_endOf 1 = .ok (.iload_n 1, 1) := by decide +kernel
theorem dX8_endOf_2 : decode cX8_endOf 2 = .ok (.invokevirtual 146, 3) := by decide +kernel
theorem dX8_endOf_5 : decode cX8_endOf 5 = .ok (.getfield 158, 3) := by decide +kernel
theorem dX8_endOf_8 : decode cX8_endOf 8 = .ok (.ireturn, 1) := by decide +kernel
theorem dX8_linksOf_0 : decode cX8_linksOf 0 = .ok (.aload_n 0, 1) := by decide +kernel
theorem dX8_linksOf_1 : decode cX8_linksOf 1 = .ok (.iload_n 1, 1) := by decide +kernel
theorem dX8_linksOf_2 : decode cX8_linksOf 2 = .ok (.invokevirtual 146, 3) := by decide +kernel
theorem dX8_linksOf_5 : decode cX8_linksOf 5 = .ok (.getfield 161, 3) := by decide +kernel
theorem dX8_linksOf_8 : decode cX8_linksOf 8 = .ok (.ireturn, 1) := by decide +kernel
theorem dX8_tripOf_0 : decode cX8_tripOf 0 = .ok (.aload_n 0, 1) := by decide +kernel
theorem dX8_tripOf_1 : decode cX8_tripOf 1 = .ok (.iload_n 1, 1) := by decide +kernel
theorem dX8_tripOf_2 : decode cX8_tripOf 2 = .ok (.invokevirtual 146, 3) := by decide +kernel
theorem dX8_tripOf_5 : decode cX8_tripOf 5 = .ok (.getfield 178, 3) := by decide +kernel
theorem dX8_tripOf_8 : decode cX8_tripOf 8 = .ok (.ireturn, 1) := by decide +kernel
theorem dX8_delayOf_0 : decode cX8_delayOf 0 = .ok (.aload_n 0, 1) := by decide +kernel
theorem dX8_delayOf_1 : decode cX8_delayOf 1 = .ok (.iload_n 1, 1) := by decide +kernel
theorem dX8_delayOf_2 : decode cX8_delayOf 2 = .ok (.invokevirtual 146, 3) := by decide +kernel
theorem dX8_delayOf_5 : decode cX8_delayOf 5 = .ok (.getfield 181, 3) := by decide +kernel
theorem dX8_delayOf_8 : decode cX8_delayOf 8 = .ok (.ireturn, 1) := by decide +kernel
theorem dX8_vehicleAt_0 : decode cX8_vehicleAt 0 = .ok (.aload_n 0, 1) := by decide +kernel
theorem dX8_vehicleAt_1 : decode cX8_vehicleAt 1 = .ok (.iload_n 1, 1) := by decide +kernel
theorem dX8_vehicleAt_2 : decode cX8_vehicleAt 2 = .ok (.invokevirtual 83, 3) := by decide +kernel
theorem dX8_vehicleAt_5 : decode cX8_vehicleAt 5 = .ok (.getfield 193, 3) := by decide +kernel
theorem dX8_vehicleAt_8 : decode cX8_vehicleAt 8 = .ok (.astore_n 3, 1) := by decide +kernel
theorem dX8_vehicleAt_9 : decode cX8_vehicleAt 9 = .ok (.iload_n 2, 1) := by decide +kernel
theorem dX8_vehicleAt_10 : decode cX8_vehicleAt 10 = .ok (.ifCond .lt 11, 3) := by decide +kernel
theorem dX8_vehicleAt_13 : decode cX8_vehicleAt 13 = .ok (.iload_n 2, 1) := by decide +kernel
theorem dX8_vehicleAt_14 : decode cX8_vehicleAt 14 = .ok (.aload_n 3, 1) := by decide +kernel
theorem dX8_vehicleAt_15 : decode cX8_vehicleAt 15 = .ok (.getfield 188, 3) := by decide +kernel
theorem dX8_vehicleAt_18 : decode cX8_vehicleAt 18 = .ok (.if_icmp .lt 13, 3) := by decide +kernel
theorem dX8_vehicleAt_31 : decode cX8_vehicleAt 31 = .ok (.aload_n 3, 1) := by decide +kernel
theorem dX8_vehicleAt_32 : decode cX8_vehicleAt 32 = .ok (.iload_n 2, 1) := by decide +kernel
theorem dX8_vehicleAt_33 : decode cX8_vehicleAt 33 = .ok (.invokevirtual 198, 3) := by decide +kernel
theorem dX8_vehicleAt_36 : decode cX8_vehicleAt 36 = .ok (.ireturn, 1) := by decide +kernel
theorem dX8_queue_0 : decode cX8_queue 0 = .ok (.aload_n 0, 1) := by decide +kernel
theorem dX8_queue_1 : decode cX8_queue 1 = .ok (.iload_n 1, 1) := by decide +kernel
theorem dX8_queue_2 : decode cX8_queue 2 = .ok (.invokevirtual 83, 3) := by decide +kernel
theorem dX8_queue_5 : decode cX8_queue 5 = .ok (.aload_n 0, 1) := by decide +kernel
theorem dX8_queue_6 : decode cX8_queue 6 = .ok (.getfield 12, 3) := by decide +kernel
theorem dX8_queue_9 : decode cX8_queue 9 = .ok (.getfield 102, 3) := by decide +kernel
theorem dX8_queue_12 : decode cX8_queue 12 = .ok (.invokevirtual 201, 3) := by decide +kernel
theorem dX8_queue_15 : decode cX8_queue 15 = .ok (.ireturn, 1) := by decide +kernel
theorem dX8_turned_0 : decode cX8_turned 0 = .ok (.aload_n 0, 1) := by decide +kernel
theorem dX8_turned_1 : decode cX8_turned 1 = .ok (.iload_n 1, 1) := by decide +kernel
theorem dX8_turned_2 : decode cX8_turned 2 = .ok (.invokevirtual 83, 3) := by decide +kernel
theorem dX8_turned_5 : decode cX8_turned 5 = .ok (.astore_n 3, 1) := by decide +kernel
theorem dX8_turned_6 : decode cX8_turned 6 = .ok (.aload_n 0, 1) := by decide +kernel
theorem dX8_turned_7 : decode cX8_turned 7 = .ok (.iload_n 2, 1) := by decide +kernel
theorem dX8_turned_8 : decode cX8_turned 8 = .ok (.invokevirtual 83, 3) := by decide +kernel
theorem dX8_turned_11 : decode cX8_turned 11 = .ok (.pop, 1) := by decide +kernel
theorem dX8_turned_12 : decode cX8_turned 12 = .ok (.aload_n 3, 1) := by decide +kernel
theorem dX8_turned_13 : decode cX8_turned 13 = .ok (.getfield 221, 3) := by decide +kernel
theorem dX8_turned_16 : decode cX8_turned 16 = .ok (.iload_n 2, 1) := by decide +kernel
theorem dX8_turned_17 : decode cX8_turned 17 = .ok (.iaload, 1) := by decide +kernel
theorem dX8_turned_18 : decode cX8_turned 18 = .ok (.ireturn, 1) := by decide +kernel
theorem dX8_count_0 : decode cX8_count 0 = .ok (.aload_n 0, 1) := by decide +kernel
theorem dX8_count_1 : decode cX8_count 1 = .ok (.iload_n 1, 1) := by decide +kernel
theorem dX8_count_2 : decode cX8_count 2 = .ok (.invokevirtual 83, 3) := by decide +kernel
theorem dX8_count_5 : decode cX8_count 5 = .ok (.astore_n 3, 1) := by decide +kernel
theorem dX8_count_6 : decode cX8_count 6 = .ok (.iload_n 2, 1) := by decide +kernel
theorem dX8_count_7 : decode cX8_count 7 = .ok (.tableswitch 49 0 3 #[29, 34, 39, 44], 29) := by decide +kernel
theorem dX8_count_36 : decode cX8_count 36 = .ok (.aload_n 3, 1) := by decide +kernel
theorem dX8_count_37 : decode cX8_count 37 = .ok (.getfield 204, 3) := by decide +kernel
theorem dX8_count_40 : decode cX8_count 40 = .ok (.ireturn, 1) := by decide +kernel
theorem dX8_count_41 : decode cX8_count 41 = .ok (.aload_n 3, 1) := by decide +kernel
theorem dX8_count_42 : decode cX8_count 42 = .ok (.getfield 207, 3) := by decide +kernel
theorem dX8_count_45 : decode cX8_count 45 = .ok (.ireturn, 1) := by decide +kernel
theorem dX8_count_46 : decode cX8_count 46 = .ok (.aload_n 3, 1) := by decide +kernel
theorem dX8_count_47 : decode cX8_count 47 = .ok (.getfield 210, 3) := by decide +kernel
theorem dX8_count_50 : decode cX8_count 50 = .ok (.ireturn, 1) := by decide +kernel
theorem dX8_count_51 : decode cX8_count 51 = .ok (.aload_n 3, 1) := by decide +kernel
theorem dX8_count_52 : decode cX8_count 52 = .ok (.getfield 213, 3) := by decide +kernel
theorem dX8_count_55 : decode cX8_count 55 = .ok (.ireturn, 1) := by decide +kernel
theorem dX8_ofFlow_0 : decode cX8_ofFlow 0 = .ok (.iload_n 1, 1) := by decide +kernel
theorem dX8_ofFlow_1 : decode cX8_ofFlow 1 = .ok (.ifCond .lt 14, 3) := by decide +kernel
theorem dX8_ofFlow_4 : decode cX8_ofFlow 4 = .ok (.iload_n 1, 1) := by decide +kernel
theorem dX8_ofFlow_5 : decode cX8_ofFlow 5 = .ok (.aload_n 0, 1) := by decide +kernel
theorem dX8_ofFlow_6 : decode cX8_ofFlow 6 = .ok (.getfield 12, 3) := by decide +kernel
theorem dX8_ofFlow_9 : decode cX8_ofFlow 9 = .ok (.getfield 105, 3) := by decide +kernel
theorem dX8_ofFlow_12 : decode cX8_ofFlow 12 = .ok (.if_icmp .lt 13, 3) := by decide +kernel
theorem dX8_ofFlow_25 : decode cX8_ofFlow 25 = .ok (.aload_n 0, 1) := by decide +kernel
theorem dX8_ofFlow_26 : decode cX8_ofFlow 26 = .ok (.getfield 12, 3) := by decide +kernel
theorem dX8_ofFlow_29 : decode cX8_ofFlow 29 = .ok (.getfield 110, 3) := by decide +kernel
theorem dX8_ofFlow_32 : decode cX8_ofFlow 32 = .ok (.iload_n 1, 1) := by decide +kernel
theorem dX8_ofFlow_33 : decode cX8_ofFlow 33 = .ok (.aaload, 1) := by decide +kernel
theorem dX8_ofFlow_34 : decode cX8_ofFlow 34 = .ok (.astore_n 3, 1) := by decide +kernel
theorem dX8_ofFlow_35 : decode cX8_ofFlow 35 = .ok (.iload_n 2, 1) := by decide +kernel
theorem dX8_ofFlow_36 : decode cX8_ofFlow 36 = .ok (.tableswitch 70 0 5 #[40, 45, 50, 55, 60, 65], 40) := by decide +kernel
theorem dX8_ofFlow_76 : decode cX8_ofFlow 76 = .ok (.aload_n 3, 1) := by decide +kernel
theorem dX8_ofFlow_77 : decode cX8_ofFlow 77 = .ok (.getfield 227, 3) := by decide +kernel
theorem dX8_ofFlow_80 : decode cX8_ofFlow 80 = .ok (.ireturn, 1) := by decide +kernel
theorem dX8_ofFlow_81 : decode cX8_ofFlow 81 = .ok (.aload_n 3, 1) := by decide +kernel
theorem dX8_ofFlow_82 : decode cX8_ofFlow 82 = .ok (.getfield 228, 3) := by decide +kernel
theorem dX8_ofFlow_85 : decode cX8_ofFlow 85 = .ok (.ireturn, 1) := by decide +kernel
theorem dX8_ofFlow_86 : decode cX8_ofFlow 86 = .ok (.aload_n 3, 1) := by decide +kernel
theorem dX8_ofFlow_87 : decode cX8_ofFlow 87 = .ok (.getfield 231, 3) := by decide +kernel
theorem dX8_ofFlow_90 : decode cX8_ofFlow 90 = .ok (.ireturn, 1) := by decide +kernel
theorem dX8_ofFlow_91 : decode cX8_ofFlow 91 = .ok (.aload_n 3, 1) := by decide +kernel
theorem dX8_ofFlow_92 : decode cX8_ofFlow 92 = .ok (.getfield 234, 3) := by decide +kernel
theorem dX8_ofFlow_95 : decode cX8_ofFlow 95 = .ok (.ireturn, 1) := by decide +kernel
theorem dX8_ofFlow_96 : decode cX8_ofFlow 96 = .ok (.aload_n 3, 1) := by decide +kernel
theorem dX8_ofFlow_97 : decode cX8_ofFlow 97 = .ok (.getfield 237, 3) := by decide +kernel
theorem dX8_ofFlow_100 : decode cX8_ofFlow 100 = .ok (.ireturn, 1) := by decide +kernel
theorem dX8_ofFlow_101 : decode cX8_ofFlow 101 = .ok (.aload_n 3, 1) := by decide +kernel
theorem dX8_ofFlow_102 : decode cX8_ofFlow 102 = .ok (.getfield 240, 3) := by decide +kernel
theorem dX8_ofFlow_105 : decode cX8_ofFlow 105 = .ok (.ireturn, 1) := by decide +kernel
set_option maxRecDepth 100000 in
set_option maxHeartbeats 4000000 in
/-- clock -/
theorem c_clock (l : Launch) (dC : Nat → ClassId) (dI : Nat → Nat → Nat) (cy : Nat → ClassId) (L : Lay) (tr : Option Nat) (a : St) (κ : Kap) (τ : Tau) (ob : Nat) (tp : Nat) (sz : Nat) (hT : TL L tr τ) : Met l yX8_clock (tp_w yX8_clock cX8_clock 1 (some .int)) ({ frames := 0, cells := 0, slots := 0, locals := 0 }) (va_Pc [.ref ob] (mPre dC dI cy (fun q e => TW cy L tr a κ τ q e ∨ oW ob (L 0 0) tp q e) sz)) (va_Qi (fun (r u : Int32) => r = u) (fun (u : Int32) (t : State) => (u = a 0 0 0) ∧ mw (dC, dI) vwCl (mA (fun q e => TW cy L tr a κ τ q e ∨ oW ob (L 0 0) tp q e) sz) (fun q e => TW cy L tr a κ τ q e ∨ oW ob (L 0 0) tp q e) t.heap) (mA (fun q e => TW cy L tr a κ τ q e ∨ oW ob (L 0 0) tp q e) sz)) (0) (0) (mA (fun q e => TW cy L tr a κ τ q e ∨ oW ob (L 0 0) tp q e) sz) := by
  refine Met.ofW (cc := cX8_clock) (maxL := 1) (ret := (some .int)) (by decide) rfl ?_
  intro p e s m args below meth c s₁ B hml hv
  obtain ⟨rfl, hsz, hP, hK, hE⟩ := hv
  have hx := B.exec
  have hb := B.bytes
  have hr := B.returns
  have hts0 := atoms_spec (ws := tp_w yX8_clock cX8_clock 1 (some .int)) B.pre
  have hts : ∀ w ∈ tp_all, w.before _ s = true := fun w h => hts0 w (List.mem_cons_of_mem _ h)
  have hown : s.vm.findClass RX8 = some m.cls := findClass_of_methodNamed B.named
  have hlocks := B.notSynchronized
  subst hsz
  have hP := hP.self s.heap.size
  generalize hAe : mA (fun q e => TW cy L tr a κ τ q e ∨ oW ob (L 0 0) tp q e) s.heap.size = A at hP ⊢
  have hA : ∀ q : Nat, s.heap.size ≤ q → A q := fun q h => by rw [← hAe]; exact Or.inr h
  have hS : va_S A s.heap s.heap [] := va_S.rf
  have hl9 := lv_entry ([.ref ob]) (n := 1) (Nat.le_of_ble_eq_true rfl)
  rw [lg_entry_eq]
  generalize (lg_sl ([.ref ob]) ++ List.replicate (1 - (lg_sl ([.ref ob])).length) Slot.unset).toArray = ls at hl9 ⊢
  have hl : lv_has ls 1 [(0, .ref ob)] := hl9
  refine lv_aload_n hx hb dX8_clock_0 rfl (lv_at hl 0 rfl) ?_
  refine va_get (D := (dC, dI)) (ws := [(ob, .inr (8, [.ref (L 0 0), .ref tp]))]) (ci := 8) (v := .ref (L 0 0)) (C := RX8) (T := TX8) (N := 2) hx hb hts tl_X8 hown hK (hP.one (Or.inr oW_mem)) 0 rfl rfl 0 (by decide) (hts _ tw_922) (fun _ h9 => h9) rfl dX8_clock_1 ?_
  refine va_getN (D := (dC, dI)) (ws := [(L 0 0, .inr (5, [.ref (L 1 0), .ref (L 20 0), .ref (L 21 0), .ref (L 22 0), .ref (L 23 0), va_rf tr, .int ((a 0 0) 0), .int ((a 0 0) 1), .int ((a 0 0) 2), .int ((a 0 0) 3), .int ((a 0 0) 4), .int ((a 0 0) 5)]))]) (ci := 5) (v := .int ((a 0 0) 0)) (C := RX5) (T := TX5) (N := 12) hx hb hts tl_X5 hown hK (hP.one (Or.inl (tw_mem (f := 0) (i := 0) (by decide) rfl))) 0 rfl rfl 6 (by decide) (va_Nw.use rfl (te_f66 hE)) (fun _ h9 => h9) rfl dX8_clock_4 ?_
  refine W.widen (k := 0) (n := 0) (Nat.le_of_ble_eq_true rfl) (Nat.le_of_ble_eq_true rfl) ?_
  have g_1 : ((a 0 0) 0) = a 0 0 0 := by
    first | rfl | assumption | (simp only [])
  exact W.iret (v := (a 0 0) 0) hx hb hr (fun t ht hW => ⟨⟨((a 0 0) 0), ((a 0 0) 0), rfl, rfl, ⟨g_1, by show mw _ _ _ _ t.heap; rw [ht]; exact hP⟩⟩, hS.F ht⟩) hS.2.2 dX8_clock_7
set_option maxRecDepth 100000 in
set_option maxHeartbeats 4000000 in
/-- nodes -/
theorem c_nodes (l : Launch) (dC : Nat → ClassId) (dI : Nat → Nat → Nat) (cy : Nat → ClassId) (L : Lay) (tr : Option Nat) (a : St) (κ : Kap) (τ : Tau) (ob : Nat) (tp : Nat) (sz : Nat) (hT : TL L tr τ) : Met l yX8_nodes (tp_w yX8_nodes cX8_nodes 1 (some .int)) ({ frames := 0, cells := 0, slots := 0, locals := 0 }) (va_Pc [.ref ob] (mPre dC dI cy (fun q e => TW cy L tr a κ τ q e ∨ oW ob (L 0 0) tp q e) sz)) (va_Qi (fun (r u : Int32) => r = u) (fun (u : Int32) (t : State) => (u = a 0 0 2) ∧ mw (dC, dI) vwCl (mA (fun q e => TW cy L tr a κ τ q e ∨ oW ob (L 0 0) tp q e) sz) (fun q e => TW cy L tr a κ τ q e ∨ oW ob (L 0 0) tp q e) t.heap) (mA (fun q e => TW cy L tr a κ τ q e ∨ oW ob (L 0 0) tp q e) sz)) (0) (0) (mA (fun q e => TW cy L tr a κ τ q e ∨ oW ob (L 0 0) tp q e) sz) := by
  refine Met.ofW (cc := cX8_nodes) (maxL := 1) (ret := (some .int)) (by decide) rfl ?_
  intro p e s m args below meth c s₁ B hml hv
  obtain ⟨rfl, hsz, hP, hK, hE⟩ := hv
  have hx := B.exec
  have hb := B.bytes
  have hr := B.returns
  have hts0 := atoms_spec (ws := tp_w yX8_nodes cX8_nodes 1 (some .int)) B.pre
  have hts : ∀ w ∈ tp_all, w.before _ s = true := fun w h => hts0 w (List.mem_cons_of_mem _ h)
  have hown : s.vm.findClass RX8 = some m.cls := findClass_of_methodNamed B.named
  have hlocks := B.notSynchronized
  subst hsz
  have hP := hP.self s.heap.size
  generalize hAe : mA (fun q e => TW cy L tr a κ τ q e ∨ oW ob (L 0 0) tp q e) s.heap.size = A at hP ⊢
  have hA : ∀ q : Nat, s.heap.size ≤ q → A q := fun q h => by rw [← hAe]; exact Or.inr h
  have hS : va_S A s.heap s.heap [] := va_S.rf
  have hl9 := lv_entry ([.ref ob]) (n := 1) (Nat.le_of_ble_eq_true rfl)
  rw [lg_entry_eq]
  generalize (lg_sl ([.ref ob]) ++ List.replicate (1 - (lg_sl ([.ref ob])).length) Slot.unset).toArray = ls at hl9 ⊢
  have hl : lv_has ls 1 [(0, .ref ob)] := hl9
  refine lv_aload_n hx hb dX8_nodes_0 rfl (lv_at hl 0 rfl) ?_
  refine va_get (D := (dC, dI)) (ws := [(ob, .inr (8, [.ref (L 0 0), .ref tp]))]) (ci := 8) (v := .ref (L 0 0)) (C := RX8) (T := TX8) (N := 2) hx hb hts tl_X8 hown hK (hP.one (Or.inr oW_mem)) 0 rfl rfl 0 (by decide) (hts _ tw_922) (fun _ h9 => h9) rfl dX8_nodes_1 ?_
  refine va_getN (D := (dC, dI)) (ws := [(L 0 0, .inr (5, [.ref (L 1 0), .ref (L 20 0), .ref (L 21 0), .ref (L 22 0), .ref (L 23 0), va_rf tr, .int ((a 0 0) 0), .int ((a 0 0) 1), .int ((a 0 0) 2), .int ((a 0 0) 3), .int ((a 0 0) 4), .int ((a 0 0) 5)]))]) (ci := 5) (v := .int ((a 0 0) 2)) (C := RX5) (T := TX5) (N := 12) hx hb hts tl_X5 hown hK (hP.one (Or.inl (tw_mem (f := 0) (i := 0) (by decide) rfl))) 0 rfl rfl 8 (by decide) (va_Nw.use rfl (te_f68 hE)) (fun _ h9 => h9) rfl dX8_nodes_4 ?_
  refine W.widen (k := 0) (n := 0) (Nat.le_of_ble_eq_true rfl) (Nat.le_of_ble_eq_true rfl) ?_
  have g_1 : ((a 0 0) 2) = a 0 0 2 := by
    first | rfl | assumption | (simp only [])
  exact W.iret (v := (a 0 0) 2) hx hb hr (fun t ht hW => ⟨⟨((a 0 0) 2), ((a 0 0) 2), rfl, rfl, ⟨g_1, by show mw _ _ _ _ t.heap; rw [ht]; exact hP⟩⟩, hS.F ht⟩) hS.2.2 dX8_nodes_7
set_option maxRecDepth 100000 in
set_option maxHeartbeats 4000000 in
/-- links -/
theorem c_links (l : Launch) (dC : Nat → ClassId) (dI : Nat → Nat → Nat) (cy : Nat → ClassId) (L : Lay) (tr : Option Nat) (a : St) (κ : Kap) (τ : Tau) (ob : Nat) (tp : Nat) (sz : Nat) (hT : TL L tr τ) : Met l yX8_links (tp_w yX8_links cX8_links 1 (some .int)) ({ frames := 0, cells := 0, slots := 0, locals := 0 }) (va_Pc [.ref ob] (mPre dC dI cy (fun q e => TW cy L tr a κ τ q e ∨ oW ob (L 0 0) tp q e) sz)) (va_Qi (fun (r u : Int32) => r = u) (fun (u : Int32) (t : State) => (u = a 1 0 0) ∧ mw (dC, dI) vwCl (mA (fun q e => TW cy L tr a κ τ q e ∨ oW ob (L 0 0) tp q e) sz) (fun q e => TW cy L tr a κ τ q e ∨ oW ob (L 0 0) tp q e) t.heap) (mA (fun q e => TW cy L tr a κ τ q e ∨ oW ob (L 0 0) tp q e) sz)) (0) (0) (mA (fun q e => TW cy L tr a κ τ q e ∨ oW ob (L 0 0) tp q e) sz) := by
  refine Met.ofW (cc := cX8_links) (maxL := 1) (ret := (some .int)) (by decide) rfl ?_
  intro p e s m args below meth c s₁ B hml hv
  obtain ⟨rfl, hsz, hP, hK, hE⟩ := hv
  have hx := B.exec
  have hb := B.bytes
  have hr := B.returns
  have hts0 := atoms_spec (ws := tp_w yX8_links cX8_links 1 (some .int)) B.pre
  have hts : ∀ w ∈ tp_all, w.before _ s = true := fun w h => hts0 w (List.mem_cons_of_mem _ h)
  have hown : s.vm.findClass RX8 = some m.cls := findClass_of_methodNamed B.named
  have hlocks := B.notSynchronized
  subst hsz
  have hP := hP.self s.heap.size
  generalize hAe : mA (fun q e => TW cy L tr a κ τ q e ∨ oW ob (L 0 0) tp q e) s.heap.size = A at hP ⊢
  have hA : ∀ q : Nat, s.heap.size ≤ q → A q := fun q h => by rw [← hAe]; exact Or.inr h
  have hS : va_S A s.heap s.heap [] := va_S.rf
  have hl9 := lv_entry ([.ref ob]) (n := 1) (Nat.le_of_ble_eq_true rfl)
  rw [lg_entry_eq]
  generalize (lg_sl ([.ref ob]) ++ List.replicate (1 - (lg_sl ([.ref ob])).length) Slot.unset).toArray = ls at hl9 ⊢
  have hl : lv_has ls 1 [(0, .ref ob)] := hl9
  refine lv_aload_n hx hb dX8_links_0 rfl (lv_at hl 0 rfl) ?_
  refine va_get (D := (dC, dI)) (ws := [(ob, .inr (8, [.ref (L 0 0), .ref tp]))]) (ci := 8) (v := .ref (L 0 0)) (C := RX8) (T := TX8) (N := 2) hx hb hts tl_X8 hown hK (hP.one (Or.inr oW_mem)) 0 rfl rfl 0 (by decide) (hts _ tw_922) (fun _ h9 => h9) rfl dX8_links_1 ?_
  refine va_getN (D := (dC, dI)) (ws := [(L 0 0, .inr (5, [.ref (L 1 0), .ref (L 20 0), .ref (L 21 0), .ref (L 22 0), .ref (L 23 0), va_rf tr, .int ((a 0 0) 0), .int ((a 0 0) 1), .int ((a 0 0) 2), .int ((a 0 0) 3), .int ((a 0 0) 4), .int ((a 0 0) 5)]))]) (ci := 5) (v := .ref (L 1 0)) (C := RX5) (T := TX5) (N := 12) hx hb hts tl_X5 hown hK (hP.one (Or.inl (tw_mem (f := 0) (i := 0) (by decide) rfl))) 0 rfl rfl 0 (by decide) (va_Nw.use rfl (te_f60 hE)) (fun _ h9 => h9) rfl dX8_links_4 ?_
  refine va_getN (D := (dC, dI)) (ws := [(L 1 0, .inr (2, [.ref (L 24 0), .int ((a 1 0) 0), .ref (L 25 0), .int κ.1]))]) (ci := 2) (v := .int ((a 1 0) 0)) (C := RX2) (T := TX2) (N := 4) hx hb hts tl_X2 hown hK (hP.one (Or.inl (tw_mem (f := 1) (i := 0) (by decide) rfl))) 0 rfl rfl 1 (by decide) (va_Nw.use rfl (te_f25 hE)) (fun _ h9 => h9) rfl dX8_links_7 ?_
  refine W.widen (k := 0) (n := 0) (Nat.le_of_ble_eq_true rfl) (Nat.le_of_ble_eq_true rfl) ?_
  have g_1 : ((a 1 0) 0) = a 1 0 0 := by
    first | rfl | assumption | (simp only [])
  exact W.iret (v := (a 1 0) 0) hx hb hr (fun t ht hW => ⟨⟨((a 1 0) 0), ((a 1 0) 0), rfl, rfl, ⟨g_1, by show mw _ _ _ _ t.heap; rw [ht]; exact hP⟩⟩, hS.F ht⟩) hS.2.2 dX8_links_10
set_option maxRecDepth 100000 in
set_option maxHeartbeats 4000000 in
/-- flows -/
theorem c_flows (l : Launch) (dC : Nat → ClassId) (dI : Nat → Nat → Nat) (cy : Nat → ClassId) (L : Lay) (tr : Option Nat) (a : St) (κ : Kap) (τ : Tau) (ob : Nat) (tp : Nat) (sz : Nat) (hT : TL L tr τ) : Met l yX8_flows (tp_w yX8_flows cX8_flows 1 (some .int)) ({ frames := 0, cells := 0, slots := 0, locals := 0 }) (va_Pc [.ref ob] (mPre dC dI cy (fun q e => TW cy L tr a κ τ q e ∨ oW ob (L 0 0) tp q e) sz)) (va_Qi (fun (r u : Int32) => r = u) (fun (u : Int32) (t : State) => (u = a 0 0 3) ∧ mw (dC, dI) vwCl (mA (fun q e => TW cy L tr a κ τ q e ∨ oW ob (L 0 0) tp q e) sz) (fun q e => TW cy L tr a κ τ q e ∨ oW ob (L 0 0) tp q e) t.heap) (mA (fun q e => TW cy L tr a κ τ q e ∨ oW ob (L 0 0) tp q e) sz)) (0) (0) (mA (fun q e => TW cy L tr a κ τ q e ∨ oW ob (L 0 0) tp q e) sz) := by
  refine Met.ofW (cc := cX8_flows) (maxL := 1) (ret := (some .int)) (by decide) rfl ?_
  intro p e s m args below meth c s₁ B hml hv
  obtain ⟨rfl, hsz, hP, hK, hE⟩ := hv
  have hx := B.exec
  have hb := B.bytes
  have hr := B.returns
  have hts0 := atoms_spec (ws := tp_w yX8_flows cX8_flows 1 (some .int)) B.pre
  have hts : ∀ w ∈ tp_all, w.before _ s = true := fun w h => hts0 w (List.mem_cons_of_mem _ h)
  have hown : s.vm.findClass RX8 = some m.cls := findClass_of_methodNamed B.named
  have hlocks := B.notSynchronized
  subst hsz
  have hP := hP.self s.heap.size
  generalize hAe : mA (fun q e => TW cy L tr a κ τ q e ∨ oW ob (L 0 0) tp q e) s.heap.size = A at hP ⊢
  have hA : ∀ q : Nat, s.heap.size ≤ q → A q := fun q h => by rw [← hAe]; exact Or.inr h
  have hS : va_S A s.heap s.heap [] := va_S.rf
  have hl9 := lv_entry ([.ref ob]) (n := 1) (Nat.le_of_ble_eq_true rfl)
  rw [lg_entry_eq]
  generalize (lg_sl ([.ref ob]) ++ List.replicate (1 - (lg_sl ([.ref ob])).length) Slot.unset).toArray = ls at hl9 ⊢
  have hl : lv_has ls 1 [(0, .ref ob)] := hl9
  refine lv_aload_n hx hb dX8_flows_0 rfl (lv_at hl 0 rfl) ?_
  refine va_get (D := (dC, dI)) (ws := [(ob, .inr (8, [.ref (L 0 0), .ref tp]))]) (ci := 8) (v := .ref (L 0 0)) (C := RX8) (T := TX8) (N := 2) hx hb hts tl_X8 hown hK (hP.one (Or.inr oW_mem)) 0 rfl rfl 0 (by decide) (hts _ tw_922) (fun _ h9 => h9) rfl dX8_flows_1 ?_
  refine va_getN (D := (dC, dI)) (ws := [(L 0 0, .inr (5, [.ref (L 1 0), .ref (L 20 0), .ref (L 21 0), .ref (L 22 0), .ref (L 23 0), va_rf tr, .int ((a 0 0) 0), .int ((a 0 0) 1), .int ((a 0 0) 2), .int ((a 0 0) 3), .int ((a 0 0) 4), .int ((a 0 0) 5)]))]) (ci := 5) (v := .int ((a 0 0) 3)) (C := RX5) (T := TX5) (N := 12) hx hb hts tl_X5 hown hK (hP.one (Or.inl (tw_mem (f := 0) (i := 0) (by decide) rfl))) 0 rfl rfl 9 (by decide) (va_Nw.use rfl (te_f69 hE)) (fun _ h9 => h9) rfl dX8_flows_4 ?_
  refine W.widen (k := 0) (n := 0) (Nat.le_of_ble_eq_true rfl) (Nat.le_of_ble_eq_true rfl) ?_
  have g_1 : ((a 0 0) 3) = a 0 0 3 := by
    first | rfl | assumption | (simp only [])
  exact W.iret (v := (a 0 0) 3) hx hb hr (fun t ht hW => ⟨⟨((a 0 0) 3), ((a 0 0) 3), rfl, rfl, ⟨g_1, by show mw _ _ _ _ t.heap; rw [ht]; exact hP⟩⟩, hS.F ht⟩) hS.2.2 dX8_flows_7
set_option maxRecDepth 100000 in
set_option maxHeartbeats 4000000 in
/-- vehicles -/
theorem c_vehicles (l : Launch) (dC : Nat → ClassId) (dI : Nat → Nat → Nat) (cy : Nat → ClassId) (L : Lay) (tr : Option Nat) (a : St) (κ : Kap) (τ : Tau) (ob : Nat) (tp : Nat) (sz : Nat) (hT : TL L tr τ) : Met l yX8_vehicles (tp_w yX8_vehicles cX8_vehicles 1 (some .int)) ({ frames := 0, cells := 0, slots := 0, locals := 0 }) (va_Pc [.ref ob] (mPre dC dI cy (fun q e => TW cy L tr a κ τ q e ∨ oW ob (L 0 0) tp q e) sz)) (va_Qi (fun (r u : Int32) => r = u) (fun (u : Int32) (t : State) => (u = a 0 0 4) ∧ mw (dC, dI) vwCl (mA (fun q e => TW cy L tr a κ τ q e ∨ oW ob (L 0 0) tp q e) sz) (fun q e => TW cy L tr a κ τ q e ∨ oW ob (L 0 0) tp q e) t.heap) (mA (fun q e => TW cy L tr a κ τ q e ∨ oW ob (L 0 0) tp q e) sz)) (0) (0) (mA (fun q e => TW cy L tr a κ τ q e ∨ oW ob (L 0 0) tp q e) sz) := by
  refine Met.ofW (cc := cX8_vehicles) (maxL := 1) (ret := (some .int)) (by decide) rfl ?_
  intro p e s m args below meth c s₁ B hml hv
  obtain ⟨rfl, hsz, hP, hK, hE⟩ := hv
  have hx := B.exec
  have hb := B.bytes
  have hr := B.returns
  have hts0 := atoms_spec (ws := tp_w yX8_vehicles cX8_vehicles 1 (some .int)) B.pre
  have hts : ∀ w ∈ tp_all, w.before _ s = true := fun w h => hts0 w (List.mem_cons_of_mem _ h)
  have hown : s.vm.findClass RX8 = some m.cls := findClass_of_methodNamed B.named
  have hlocks := B.notSynchronized
  subst hsz
  have hP := hP.self s.heap.size
  generalize hAe : mA (fun q e => TW cy L tr a κ τ q e ∨ oW ob (L 0 0) tp q e) s.heap.size = A at hP ⊢
  have hA : ∀ q : Nat, s.heap.size ≤ q → A q := fun q h => by rw [← hAe]; exact Or.inr h
  have hS : va_S A s.heap s.heap [] := va_S.rf
  have hl9 := lv_entry ([.ref ob]) (n := 1) (Nat.le_of_ble_eq_true rfl)
  rw [lg_entry_eq]
  generalize (lg_sl ([.ref ob]) ++ List.replicate (1 - (lg_sl ([.ref ob])).length) Slot.unset).toArray = ls at hl9 ⊢
  have hl : lv_has ls 1 [(0, .ref ob)] := hl9
  refine lv_aload_n hx hb dX8_vehicles_0 rfl (lv_at hl 0 rfl) ?_
  refine va_get (D := (dC, dI)) (ws := [(ob, .inr (8, [.ref (L 0 0), .ref tp]))]) (ci := 8) (v := .ref (L 0 0)) (C := RX8) (T := TX8) (N := 2) hx hb hts tl_X8 hown hK (hP.one (Or.inr oW_mem)) 0 rfl rfl 0 (by decide) (hts _ tw_922) (fun _ h9 => h9) rfl dX8_vehicles_1 ?_
  refine va_getN (D := (dC, dI)) (ws := [(L 0 0, .inr (5, [.ref (L 1 0), .ref (L 20 0), .ref (L 21 0), .ref (L 22 0), .ref (L 23 0), va_rf tr, .int ((a 0 0) 0), .int ((a 0 0) 1), .int ((a 0 0) 2), .int ((a 0 0) 3), .int ((a 0 0) 4), .int ((a 0 0) 5)]))]) (ci := 5) (v := .int ((a 0 0) 4)) (C := RX5) (T := TX5) (N := 12) hx hb hts tl_X5 hown hK (hP.one (Or.inl (tw_mem (f := 0) (i := 0) (by decide) rfl))) 0 rfl rfl 10 (by decide) (va_Nw.use rfl (te_f70 hE)) (fun _ h9 => h9) rfl dX8_vehicles_4 ?_
  refine W.widen (k := 0) (n := 0) (Nat.le_of_ble_eq_true rfl) (Nat.le_of_ble_eq_true rfl) ?_
  have g_1 : ((a 0 0) 4) = a 0 0 4 := by
    first | rfl | assumption | (simp only [])
  exact W.iret (v := (a 0 0) 4) hx hb hr (fun t ht hW => ⟨⟨((a 0 0) 4), ((a 0 0) 4), rfl, rfl, ⟨g_1, by show mw _ _ _ _ t.heap; rw [ht]; exact hP⟩⟩, hS.F ht⟩) hS.2.2 dX8_vehicles_7
set_option maxRecDepth 100000 in
set_option maxHeartbeats 4000000 in
/-- rateOf -/
theorem c_rateOf (l : Launch) (dC : Nat → ClassId) (dI : Nat → Nat → Nat) (cy : Nat → ClassId) (L : Lay) (tr : Option Nat) (a : St) (κ : Kap) (τ : Tau) (ob : Nat) (tp : Nat) (M : Nat) (n : Int32) (sz : Nat) (hT : TL L tr τ) (hw : Wf M a) (hf : ¬ G_no a n) : Met l yX8_rateOf (tp_w yX8_rateOf cX8_rateOf 2 (some .int)) ({ frames := 2, cells := 0, slots := 0, locals := 43 }) (va_Pc [.ref ob, .int n] (mPre dC dI cy (fun q e => TW cy L tr a κ τ q e ∨ oW ob (L 0 0) tp q e) sz)) (va_Qi (fun (r u : Int32) => r = u) (fun (u : Int32) (t : State) => (u = a 2 n.toNatClampNeg 5) ∧ mw (dC, dI) vwCl (mA (fun q e => TW cy L tr a κ τ q e ∨ oW ob (L 0 0) tp q e) sz) (fun q e => TW cy L tr a κ τ q e ∨ oW ob (L 0 0) tp q e) t.heap) (mA (fun q e => TW cy L tr a κ τ q e ∨ oW ob (L 0 0) tp q e) sz)) (0) (0) (mA (fun q e => TW cy L tr a κ τ q e ∨ oW ob (L 0 0) tp q e) sz) := by
  refine Met.ofW (cc := cX8_rateOf) (maxL := 2) (ret := (some .int)) (by decide) rfl ?_
  intro p e s m args below meth c s₁ B hml hv
  obtain ⟨rfl, hsz, hP, hK, hE⟩ := hv
  have hx := B.exec
  have hb := B.bytes
  have hr := B.returns
  have hts0 := atoms_spec (ws := tp_w yX8_rateOf cX8_rateOf 2 (some .int)) B.pre
  have hts : ∀ w ∈ tp_all, w.before _ s = true := fun w h => hts0 w (List.mem_cons_of_mem _ h)
  have hown : s.vm.findClass RX8 = some m.cls := findClass_of_methodNamed B.named
  have hlocks := B.notSynchronized
  subst hsz
  have hP := hP.self s.heap.size
  generalize hAe : mA (fun q e => TW cy L tr a κ τ q e ∨ oW ob (L 0 0) tp q e) s.heap.size = A at hP ⊢
  have hA : ∀ q : Nat, s.heap.size ≤ q → A q := fun q h => by rw [← hAe]; exact Or.inr h
  have hS : va_S A s.heap s.heap [] := va_S.rf
  have hl9 := lv_entry ([.ref ob, .int n]) (n := 2) (Nat.le_of_ble_eq_true rfl)
  rw [lg_entry_eq]
  generalize (lg_sl ([.ref ob, .int n]) ++ List.replicate (2 - (lg_sl ([.ref ob, .int n])).length) Slot.unset).toArray = ls at hl9 ⊢
  have hl : lv_has ls 2 [(0, .ref ob), (1, .int n)] := hl9
  refine lv_aload_n hx hb dX8_rateOf_0 rfl (lv_at hl 0 rfl) ?_
  refine lv_iload_n hx hb dX8_rateOf_1 rfl (lv_at hl 1 rfl) ?_
  have hFc := m_free (C := (fun q e => TW cy L tr a κ τ q e ∨ oW ob (L 0 0) tp q e)) hP hS hA (fun _ _ h => h)
  refine va_callr (va_runV (As := [.int n]) (rest := []) ⟨hx, hb, hml, hown, hts⟩ (c_linkNumbered l dC dI cy L tr a κ τ ob tp M n s.heap.size hT hw hf) (tp_cwV 1 hts tw_122 tw_124 tw_1 tw_20 tw_126 rfl rfl (by decide +kernel) ⟨Nat.le_of_ble_eq_true rfl, Nat.le_of_ble_eq_true rfl⟩) ⟨m_blind, va_recv hK (hP.one (e := .inr (8, [.ref (L 0 0), .ref tp])) (Or.inr oW_mem)) (ci := 8) (q0 := 0) rfl rfl, fun U hU hW => ⟨rfl, m_pay hK hP hE (fun _ _ h => h) U hU hW⟩⟩ rfl rfl hl.1 rfl (lv_room (Nat.le_of_ble_eq_true rfl)) dX8_rateOf_2 ⟨(Nat.le_of_ble_eq_true rfl), (Nat.le_of_ble_eq_true rfl)⟩) hS (fun q _ h => hFc q h) hFc (fun u r_1 t H1 locs ht hvm hpo hB hz1 hk1 hS => ?_)
  obtain ⟨f_1, hP1⟩ := hB
  subst f_1
  rw [ht] at hP1
  have hP : mw (dC, dI) vwCl A (fun q e => TW cy L tr a κ τ q e ∨ oW ob (L 0 0) tp q e) H1 := hP.join (fun _ _ h => h) hk1 hFc hP1 (fun _ _ h => Or.inl h)
  generalize H1 = H at hP hS ⊢
  clear hP1 hk1 hFc
  refine va_getN (D := (dC, dI)) (ws := [(L 2 n.toNatClampNeg, .inr (1, [.int ((a 2 n.toNatClampNeg) 0), .int ((a 2 n.toNatClampNeg) 1), .int ((a 2 n.toNatClampNeg) 2), .int ((a 2 n.toNatClampNeg) 3), .int ((a 2 n.toNatClampNeg) 4), .int ((a 2 n.toNatClampNeg) 5), .int ((a 2 n.toNatClampNeg) 6), .int ((a 2 n.toNatClampNeg) 7), .int ((a 2 n.toNatClampNeg) 8), .ref (L 3 n.toNatClampNeg), .ref (L 5 n.toNatClampNeg), .int ((a 2 n.toNatClampNeg) 9), .int ((a 2 n.toNatClampNeg) 10), .int ((a 2 n.toNatClampNeg) 11), .int ((a 2 n.toNatClampNeg) 12), .ref (L 7 n.toNatClampNeg)]))]) (ci := 1) (v := .int ((a 2 n.toNatClampNeg) 5)) (C := RX1) (T := TX1) (N := 16) hx hb hts tl_X1 hown hK (hP.one (Or.inl (tw_mem (f := 2) (i := n.toNatClampNeg) (G_lt hw hf) rfl))) 0 rfl rfl 5 (by decide) (va_Nw.use rfl (te_f11 hE)) (fun _ h9 => h9) rfl dX8_rateOf_5 ?_
  refine W.widen (k := 0) (n := 0) (Nat.le_of_ble_eq_true rfl) (Nat.le_of_ble_eq_true rfl) ?_
  have g_1 : ((a 2 n.toNatClampNeg) 5) = a 2 n.toNatClampNeg 5 := by
    first | rfl | assumption | (simp only [])
  exact W.iret (v := (a 2 n.toNatClampNeg) 5) hx hb hr (fun t ht hW => ⟨⟨((a 2 n.toNatClampNeg) 5), ((a 2 n.toNatClampNeg) 5), rfl, rfl, ⟨g_1, by show mw _ _ _ _ t.heap; rw [ht]; exact hP⟩⟩, hS.F ht⟩) hS.2.2 dX8_rateOf_8
set_option maxRecDepth 100000 in
set_option maxHeartbeats 4000000 in
/-- costOf -/
theorem c_costOf (l : Launch) (dC : Nat → ClassId) (dI : Nat → Nat → Nat) (cy : Nat → ClassId) (L : Lay) (tr : Option Nat) (a : St) (κ : Kap) (τ : Tau) (ob : Nat) (tp : Nat) (M : Nat) (n : Int32) (sz : Nat) (hT : TL L tr τ) (hw : Wf M a) (hf : ¬ G_no a n) : Met l yX8_costOf (tp_w yX8_costOf cX8_costOf 2 (some .int)) ({ frames := 2, cells := 0, slots := 0, locals := 43 }) (va_Pc [.ref ob, .int n] (mPre dC dI cy (fun q e => TW cy L tr a κ τ q e ∨ oW ob (L 0 0) tp q e) sz)) (va_Qi (fun (r u : Int32) => r = u) (fun (u : Int32) (t : State) => (u = a 2 n.toNatClampNeg 8) ∧ mw (dC, dI) vwCl (mA (fun q e => TW cy L tr a κ τ q e ∨ oW ob (L 0 0) tp q e) sz) (fun q e => TW cy L tr a κ τ q e ∨ oW ob (L 0 0) tp q e) t.heap) (mA (fun q e => TW cy L tr a κ τ q e ∨ oW ob (L 0 0) tp q e) sz)) (0) (0) (mA (fun q e => TW cy L tr a κ τ q e ∨ oW ob (L 0 0) tp q e) sz) := by
  refine Met.ofW (cc := cX8_costOf) (maxL := 2) (ret := (some .int)) (by decide) rfl ?_
  intro p e s m args below meth c s₁ B hml hv
  obtain ⟨rfl, hsz, hP, hK, hE⟩ := hv
  have hx := B.exec
  have hb := B.bytes
  have hr := B.returns
  have hts0 := atoms_spec (ws := tp_w yX8_costOf cX8_costOf 2 (some .int)) B.pre
  have hts : ∀ w ∈ tp_all, w.before _ s = true := fun w h => hts0 w (List.mem_cons_of_mem _ h)
  have hown : s.vm.findClass RX8 = some m.cls := findClass_of_methodNamed B.named
  have hlocks := B.notSynchronized
  subst hsz
  have hP := hP.self s.heap.size
  generalize hAe : mA (fun q e => TW cy L tr a κ τ q e ∨ oW ob (L 0 0) tp q e) s.heap.size = A at hP ⊢
  have hA : ∀ q : Nat, s.heap.size ≤ q → A q := fun q h => by rw [← hAe]; exact Or.inr h
  have hS : va_S A s.heap s.heap [] := va_S.rf
  have hl9 := lv_entry ([.ref ob, .int n]) (n := 2) (Nat.le_of_ble_eq_true rfl)
  rw [lg_entry_eq]
  generalize (lg_sl ([.ref ob, .int n]) ++ List.replicate (2 - (lg_sl ([.ref ob, .int n])).length) Slot.unset).toArray = ls at hl9 ⊢
  have hl : lv_has ls 2 [(0, .ref ob), (1, .int n)] := hl9
  refine lv_aload_n hx hb dX8_costOf_0 rfl (lv_at hl 0 rfl) ?_
  refine lv_iload_n hx hb dX8_costOf_1 rfl (lv_at hl 1 rfl) ?_
  have hFc := m_free (C := (fun q e => TW cy L tr a κ τ q e ∨ oW ob (L 0 0) tp q e)) hP hS hA (fun _ _ h => h)
  refine va_callr (va_runV (As := [.int n]) (rest := []) ⟨hx, hb, hml, hown, hts⟩ (c_linkNumbered l dC dI cy L tr a κ τ ob tp M n s.heap.size hT hw hf) (tp_cwV 1 hts tw_122 tw_124 tw_1 tw_20 tw_126 rfl rfl (by decide +kernel) ⟨Nat.le_of_ble_eq_true rfl, Nat.le_of_ble_eq_true rfl⟩) ⟨m_blind, va_recv hK (hP.one (e := .inr (8, [.ref (L 0 0), .ref tp])) (Or.inr oW_mem)) (ci := 8) (q0 := 0) rfl rfl, fun U hU hW => ⟨rfl, m_pay hK hP hE (fun _ _ h => h) U hU hW⟩⟩ rfl rfl hl.1 rfl (lv_room (Nat.le_of_ble_eq_true rfl)) dX8_costOf_2 ⟨(Nat.le_of_ble_eq_true rfl), (Nat.le_of_ble_eq_true rfl)⟩) hS (fun q _ h => hFc q h) hFc (fun u r_1 t H1 locs ht hvm hpo hB hz1 hk1 hS => ?_)
  obtain ⟨f_1, hP1⟩ := hB
  subst f_1
  rw [ht] at hP1
  have hP : mw (dC, dI) vwCl A (fun q e => TW cy L tr a κ τ q e ∨ oW ob (L 0 0) tp q e) H1 := hP.join (fun _ _ h => h) hk1 hFc hP1 (fun _ _ h => Or.inl h)
  generalize H1 = H at hP hS ⊢
  clear hP1 hk1 hFc
  refine va_getN (D := (dC, dI)) (ws := [(L 2 n.toNatClampNeg, .inr (1, [.int ((a 2 n.toNatClampNeg) 0), .int ((a 2 n.toNatClampNeg) 1), .int ((a 2 n.toNatClampNeg) 2), .int ((a 2 n.toNatClampNeg) 3), .int ((a 2 n.toNatClampNeg) 4), .int ((a 2 n.toNatClampNeg) 5), .int ((a 2 n.toNatClampNeg) 6), .int ((a 2 n.toNatClampNeg) 7), .int ((a 2 n.toNatClampNeg) 8), .ref (L 3 n.toNatClampNeg), .ref (L 5 n.toNatClampNeg), .int ((a 2 n.toNatClampNeg) 9), .int ((a 2 n.toNatClampNeg) 10), .int ((a 2 n.toNatClampNeg) 11), .int ((a 2 n.toNatClampNeg) 12), .ref (L 7 n.toNatClampNeg)]))]) (ci := 1) (v := .int ((a 2 n.toNatClampNeg) 8)) (C := RX1) (T := TX1) (N := 16) hx hb hts tl_X1 hown hK (hP.one (Or.inl (tw_mem (f := 2) (i := n.toNatClampNeg) (G_lt hw hf) rfl))) 0 rfl rfl 8 (by decide) (va_Nw.use rfl (te_f16 hE)) (fun _ h9 => h9) rfl dX8_costOf_5 ?_
  refine W.widen (k := 0) (n := 0) (Nat.le_of_ble_eq_true rfl) (Nat.le_of_ble_eq_true rfl) ?_
  have g_1 : ((a 2 n.toNatClampNeg) 8) = a 2 n.toNatClampNeg 8 := by
    first | rfl | assumption | (simp only [])
  exact W.iret (v := (a 2 n.toNatClampNeg) 8) hx hb hr (fun t ht hW => ⟨⟨((a 2 n.toNatClampNeg) 8), ((a 2 n.toNatClampNeg) 8), rfl, rfl, ⟨g_1, by show mw _ _ _ _ t.heap; rw [ht]; exact hP⟩⟩, hS.F ht⟩) hS.2.2 dX8_costOf_8
set_option maxRecDepth 100000 in
set_option maxHeartbeats 4000000 in
/-- isShut -/
theorem c_isShut (l : Launch) (dC : Nat → ClassId) (dI : Nat → Nat → Nat) (cy : Nat → ClassId) (L : Lay) (tr : Option Nat) (a : St) (κ : Kap) (τ : Tau) (ob : Nat) (tp : Nat) (M : Nat) (n : Int32) (sz : Nat) (hT : TL L tr τ) (hw : Wf M a) (hf : ¬ G_no a n) (hsh : ∀ i, i < 24 → a 2 i 7 = 0 ∨ a 2 i 7 = 1) : Met l yX8_isShut (tp_w yX8_isShut cX8_isShut 2 (some .boolean)) ({ frames := 2, cells := 0, slots := 0, locals := 43 }) (va_Pc [.ref ob, .int n] (mPre dC dI cy (fun q e => TW cy L tr a κ τ q e ∨ oW ob (L 0 0) tp q e) sz)) (va_Qi (fun (r u : Int32) => r = u) (fun (u : Int32) (t : State) => (u = a 2 n.toNatClampNeg 7) ∧ mw (dC, dI) vwCl (mA (fun q e => TW cy L tr a κ τ q e ∨ oW ob (L 0 0) tp q e) sz) (fun q e => TW cy L tr a κ τ q e ∨ oW ob (L 0 0) tp q e) t.heap) (mA (fun q e => TW cy L tr a κ τ q e ∨ oW ob (L 0 0) tp q e) sz)) (0) (0) (mA (fun q e => TW cy L tr a κ τ q e ∨ oW ob (L 0 0) tp q e) sz) := by
  refine Met.ofW (cc := cX8_isShut) (maxL := 2) (ret := (some .boolean)) (by decide) rfl ?_
  intro p e s m args below meth c s₁ B hml hv
  obtain ⟨rfl, hsz, hP, hK, hE⟩ := hv
  have hx := B.exec
  have hb := B.bytes
  have hr := B.returns
  have hts0 := atoms_spec (ws := tp_w yX8_isShut cX8_isShut 2 (some .boolean)) B.pre
  have hts : ∀ w ∈ tp_all, w.before _ s = true := fun w h => hts0 w (List.mem_cons_of_mem _ h)
  have hown : s.vm.findClass RX8 = some m.cls := findClass_of_methodNamed B.named
  have hlocks := B.notSynchronized
  subst hsz
  have hP := hP.self s.heap.size
  generalize hAe : mA (fun q e => TW cy L tr a κ τ q e ∨ oW ob (L 0 0) tp q e) s.heap.size = A at hP ⊢
  have hA : ∀ q : Nat, s.heap.size ≤ q → A q := fun q h => by rw [← hAe]; exact Or.inr h
  have hS : va_S A s.heap s.heap [] := va_S.rf
  have hl9 := lv_entry ([.ref ob, .int n]) (n := 2) (Nat.le_of_ble_eq_true rfl)
  rw [lg_entry_eq]
  generalize (lg_sl ([.ref ob, .int n]) ++ List.replicate (2 - (lg_sl ([.ref ob, .int n])).length) Slot.unset).toArray = ls at hl9 ⊢
  have hl : lv_has ls 2 [(0, .ref ob), (1, .int n)] := hl9
  refine lv_aload_n hx hb dX8_isShut_0 rfl (lv_at hl 0 rfl) ?_
  refine lv_iload_n hx hb dX8_isShut_1 rfl (lv_at hl 1 rfl) ?_
  have hFc := m_free (C := (fun q e => TW cy L tr a κ τ q e ∨ oW ob (L 0 0) tp q e)) hP hS hA (fun _ _ h => h)
  refine va_callr (va_runV (As := [.int n]) (rest := []) ⟨hx, hb, hml, hown, hts⟩ (c_linkNumbered l dC dI cy L tr a κ τ ob tp M n s.heap.size hT hw hf) (tp_cwV 1 hts tw_122 tw_124 tw_1 tw_20 tw_126 rfl rfl (by decide +kernel) ⟨Nat.le_of_ble_eq_true rfl, Nat.le_of_ble_eq_true rfl⟩) ⟨m_blind, va_recv hK (hP.one (e := .inr (8, [.ref (L 0 0), .ref tp])) (Or.inr oW_mem)) (ci := 8) (q0 := 0) rfl rfl, fun U hU hW => ⟨rfl, m_pay hK hP hE (fun _ _ h => h) U hU hW⟩⟩ rfl rfl hl.1 rfl (lv_room (Nat.le_of_ble_eq_true rfl)) dX8_isShut_2 ⟨(Nat.le_of_ble_eq_true rfl), (Nat.le_of_ble_eq_true rfl)⟩) hS (fun q _ h => hFc q h) hFc (fun u r_1 t H1 locs ht hvm hpo hB hz1 hk1 hS => ?_)
  obtain ⟨f_1, hP1⟩ := hB
  subst f_1
  rw [ht] at hP1
  have hP : mw (dC, dI) vwCl A (fun q e => TW cy L tr a κ τ q e ∨ oW ob (L 0 0) tp q e) H1 := hP.join (fun _ _ h => h) hk1 hFc hP1 (fun _ _ h => Or.inl h)
  generalize H1 = H at hP hS ⊢
  clear hP1 hk1 hFc
  refine va_getN (D := (dC, dI)) (ws := [(L 2 n.toNatClampNeg, .inr (1, [.int ((a 2 n.toNatClampNeg) 0), .int ((a 2 n.toNatClampNeg) 1), .int ((a 2 n.toNatClampNeg) 2), .int ((a 2 n.toNatClampNeg) 3), .int ((a 2 n.toNatClampNeg) 4), .int ((a 2 n.toNatClampNeg) 5), .int ((a 2 n.toNatClampNeg) 6), .int ((a 2 n.toNatClampNeg) 7), .int ((a 2 n.toNatClampNeg) 8), .ref (L 3 n.toNatClampNeg), .ref (L 5 n.toNatClampNeg), .int ((a 2 n.toNatClampNeg) 9), .int ((a 2 n.toNatClampNeg) 10), .int ((a 2 n.toNatClampNeg) 11), .int ((a 2 n.toNatClampNeg) 12), .ref (L 7 n.toNatClampNeg)]))]) (ci := 1) (v := .int ((a 2 n.toNatClampNeg) 7)) (C := RX1) (T := TX1) (N := 16) hx hb hts tl_X1 hown hK (hP.one (Or.inl (tw_mem (f := 2) (i := n.toNatClampNeg) (G_lt hw hf) rfl))) 0 rfl rfl 7 (by decide) (va_Nw.use rfl (te_f13 hE)) (fun _ h9 => h9) rfl dX8_isShut_5 ?_
  refine W.widen (k := 0) (n := 0) (Nat.le_of_ble_eq_true rfl) (Nat.le_of_ble_eq_true rfl) ?_
  have g_1 : ((a 2 n.toNatClampNeg) 7) = a 2 n.toNatClampNeg 7 := by
    first | rfl | assumption | (simp only [])
  exact W.zret (v := (a 2 n.toNatClampNeg) 7) hx hb hr (m_bool (hsh _ (G_lt hw hf))) (fun t ht hW => ⟨⟨((a 2 n.toNatClampNeg) 7), ((a 2 n.toNatClampNeg) 7), rfl, rfl, ⟨g_1, by show mw _ _ _ _ t.heap; rw [ht]; exact hP⟩⟩, hS.F ht⟩) hS.2.2 dX8_isShut_8
set_option maxRecDepth 100000 in
set_option maxHeartbeats 4000000 in
/-- onLink -/
theorem c_onLink (l : Launch) (dC : Nat → ClassId) (dI : Nat → Nat → Nat) (cy : Nat → ClassId) (L : Lay) (tr : Option Nat) (a : St) (κ : Kap) (τ : Tau) (ob : Nat) (tp : Nat) (M : Nat) (n : Int32) (sz : Nat) (hT : TL L tr τ) (hw : Wf M a) (hf : ¬ G_no a n) : Met l yX8_onLink (tp_w yX8_onLink cX8_onLink 2 (some .int)) ({ frames := 2, cells := 0, slots := 0, locals := 43 }) (va_Pc [.ref ob, .int n] (mPre dC dI cy (fun q e => TW cy L tr a κ τ q e ∨ oW ob (L 0 0) tp q e) sz)) (va_Qi (fun (r u : Int32) => r = u) (fun (u : Int32) (t : State) => (u = a 3 n.toNatClampNeg 0) ∧ mw (dC, dI) vwCl (mA (fun q e => TW cy L tr a κ τ q e ∨ oW ob (L 0 0) tp q e) sz) (fun q e => TW cy L tr a κ τ q e ∨ oW ob (L 0 0) tp q e) t.heap) (mA (fun q e => TW cy L tr a κ τ q e ∨ oW ob (L 0 0) tp q e) sz)) (0) (0) (mA (fun q e => TW cy L tr a κ τ q e ∨ oW ob (L 0 0) tp q e) sz) := by
  refine Met.ofW (cc := cX8_onLink) (maxL := 2) (ret := (some .int)) (by decide) rfl ?_
  intro p e s m args below meth c s₁ B hml hv
  obtain ⟨rfl, hsz, hP, hK, hE⟩ := hv
  have hx := B.exec
  have hb := B.bytes
  have hr := B.returns
  have hts0 := atoms_spec (ws := tp_w yX8_onLink cX8_onLink 2 (some .int)) B.pre
  have hts : ∀ w ∈ tp_all, w.before _ s = true := fun w h => hts0 w (List.mem_cons_of_mem _ h)
  have hown : s.vm.findClass RX8 = some m.cls := findClass_of_methodNamed B.named
  have hlocks := B.notSynchronized
  subst hsz
  have hP := hP.self s.heap.size
  generalize hAe : mA (fun q e => TW cy L tr a κ τ q e ∨ oW ob (L 0 0) tp q e) s.heap.size = A at hP ⊢
  have hA : ∀ q : Nat, s.heap.size ≤ q → A q := fun q h => by rw [← hAe]; exact Or.inr h
  have hS : va_S A s.heap s.heap [] := va_S.rf
  have hl9 := lv_entry ([.ref ob, .int n]) (n := 2) (Nat.le_of_ble_eq_true rfl)
  rw [lg_entry_eq]
  generalize (lg_sl ([.ref ob, .int n]) ++ List.replicate (2 - (lg_sl ([.ref ob, .int n])).length) Slot.unset).toArray = ls at hl9 ⊢
  have hl : lv_has ls 2 [(0, .ref ob), (1, .int n)] := hl9
  refine lv_aload_n hx hb dX8_onLink_0 rfl (lv_at hl 0 rfl) ?_
  refine lv_iload_n hx hb dX8_onLink_1 rfl (lv_at hl 1 rfl) ?_
  have hFc := m_free (C := (fun q e => TW cy L tr a κ τ q e ∨ oW ob (L 0 0) tp q e)) hP hS hA (fun _ _ h => h)
  refine va_callr (va_runV (As := [.int n]) (rest := []) ⟨hx, hb, hml, hown, hts⟩ (c_linkNumbered l dC dI cy L tr a κ τ ob tp M n s.heap.size hT hw hf) (tp_cwV 1 hts tw_122 tw_124 tw_1 tw_20 tw_126 rfl rfl (by decide +kernel) ⟨Nat.le_of_ble_eq_true rfl, Nat.le_of_ble_eq_true rfl⟩) ⟨m_blind, va_recv hK (hP.one (e := .inr (8, [.ref (L 0 0), .ref tp])) (Or.inr oW_mem)) (ci := 8) (q0 := 0) rfl rfl, fun U hU hW => ⟨rfl, m_pay hK hP hE (fun _ _ h => h) U hU hW⟩⟩ rfl rfl hl.1 rfl (lv_room (Nat.le_of_ble_eq_true rfl)) dX8_onLink_2 ⟨(Nat.le_of_ble_eq_true rfl), (Nat.le_of_ble_eq_true rfl)⟩) hS (fun q _ h => hFc q h) hFc (fun u r_1 t H1 locs ht hvm hpo hB hz1 hk1 hS => ?_)
  obtain ⟨f_1, hP1⟩ := hB
  subst f_1
  rw [ht] at hP1
  have hP : mw (dC, dI) vwCl A (fun q e => TW cy L tr a κ τ q e ∨ oW ob (L 0 0) tp q e) H1 := hP.join (fun _ _ h => h) hk1 hFc hP1 (fun _ _ h => Or.inl h)
  generalize H1 = H at hP hS ⊢
  clear hP1 hk1 hFc
  refine va_getN (D := (dC, dI)) (ws := [(L 2 n.toNatClampNeg, .inr (1, [.int ((a 2 n.toNatClampNeg) 0), .int ((a 2 n.toNatClampNeg) 1), .int ((a 2 n.toNatClampNeg) 2), .int ((a 2 n.toNatClampNeg) 3), .int ((a 2 n.toNatClampNeg) 4), .int ((a 2 n.toNatClampNeg) 5), .int ((a 2 n.toNatClampNeg) 6), .int ((a 2 n.toNatClampNeg) 7), .int ((a 2 n.toNatClampNeg) 8), .ref (L 3 n.toNatClampNeg), .ref (L 5 n.toNatClampNeg), .int ((a 2 n.toNatClampNeg) 9), .int ((a 2 n.toNatClampNeg) 10), .int ((a 2 n.toNatClampNeg) 11), .int ((a 2 n.toNatClampNeg) 12), .ref (L 7 n.toNatClampNeg)]))]) (ci := 1) (v := .ref (L 3 n.toNatClampNeg)) (C := RX1) (T := TX1) (N := 16) hx hb hts tl_X1 hown hK (hP.one (Or.inl (tw_mem (f := 2) (i := n.toNatClampNeg) (G_lt hw hf) rfl))) 0 rfl rfl 9 (by decide) (va_Nw.use rfl (te_f18 hE)) (fun _ h9 => h9) rfl dX8_onLink_5 ?_
  refine va_getN (D := (dC, dI)) (ws := [(L 3 n.toNatClampNeg, .inr (3, [.ref (L 4 n.toNatClampNeg), .int ((a 3 n.toNatClampNeg) 0)]))]) (ci := 3) (v := .int ((a 3 n.toNatClampNeg) 0)) (C := RX3) (T := TX3) (N := 2) hx hb hts tl_X3 hown hK (hP.one (Or.inl (tw_mem (f := 3) (i := n.toNatClampNeg) (G_lt hw hf) rfl))) 0 rfl rfl 1 (by decide) (va_Nw.use rfl (te_f1 hE)) (fun _ h9 => h9) rfl dX8_onLink_8 ?_
  refine W.widen (k := 0) (n := 0) (Nat.le_of_ble_eq_true rfl) (Nat.le_of_ble_eq_true rfl) ?_
  have g_1 : ((a 3 n.toNatClampNeg) 0) = a 3 n.toNatClampNeg 0 := by
    first | rfl | assumption | (simp only [])
  exact W.iret (v := (a 3 n.toNatClampNeg) 0) hx hb hr (fun t ht hW => ⟨⟨((a 3 n.toNatClampNeg) 0), ((a 3 n.toNatClampNeg) 0), rfl, rfl, ⟨g_1, by show mw _ _ _ _ t.heap; rw [ht]; exact hP⟩⟩, hS.F ht⟩) hS.2.2 dX8_onLink_11
set_option maxRecDepth 100000 in
set_option maxHeartbeats 4000000 in
/-- phaseOf -/
theorem c_phaseOf (l : Launch) (dC : Nat → ClassId) (dI : Nat → Nat → Nat) (cy : Nat → ClassId) (L : Lay) (tr : Option Nat) (a : St) (κ : Kap) (τ : Tau) (ob : Nat) (tp : Nat) (M : Nat) (n : Int32) (sz : Nat) (hT : TL L tr τ) (hw : Wf M a) (hf : ¬ N_no a n) : Met l yX8_phaseOf (tp_w yX8_phaseOf cX8_phaseOf 2 (some .int)) ({ frames := 1, cells := 0, slots := 0, locals := 21 }) (va_Pc [.ref ob, .int n] (mPre dC dI cy (fun q e => TW cy L tr a κ τ q e ∨ oW ob (L 0 0) tp q e) sz)) (va_Qi (fun (r u : Int32) => r = u) (fun (u : Int32) (t : State) => (u = a 8 n.toNatClampNeg 1) ∧ mw (dC, dI) vwCl (mA (fun q e => TW cy L tr a κ τ q e ∨ oW ob (L 0 0) tp q e) sz) (fun q e => TW cy L tr a κ τ q e ∨ oW ob (L 0 0) tp q e) t.heap) (mA (fun q e => TW cy L tr a κ τ q e ∨ oW ob (L 0 0) tp q e) sz)) (0) (0) (mA (fun q e => TW cy L tr a κ τ q e ∨ oW ob (L 0 0) tp q e) sz) := by
  refine Met.ofW (cc := cX8_phaseOf) (maxL := 2) (ret := (some .int)) (by decide) rfl ?_
  intro p e s m args below meth c s₁ B hml hv
  obtain ⟨rfl, hsz, hP, hK, hE⟩ := hv
  have hx := B.exec
  have hb := B.bytes
  have hr := B.returns
  have hts0 := atoms_spec (ws := tp_w yX8_phaseOf cX8_phaseOf 2 (some .int)) B.pre
  have hts : ∀ w ∈ tp_all, w.before _ s = true := fun w h => hts0 w (List.mem_cons_of_mem _ h)
  have hown : s.vm.findClass RX8 = some m.cls := findClass_of_methodNamed B.named
  have hlocks := B.notSynchronized
  subst hsz
  have hP := hP.self s.heap.size
  generalize hAe : mA (fun q e => TW cy L tr a κ τ q e ∨ oW ob (L 0 0) tp q e) s.heap.size = A at hP ⊢
  have hA : ∀ q : Nat, s.heap.size ≤ q → A q := fun q h => by rw [← hAe]; exact Or.inr h
  have hS : va_S A s.heap s.heap [] := va_S.rf
  have hl9 := lv_entry ([.ref ob, .int n]) (n := 2) (Nat.le_of_ble_eq_true rfl)
  rw [lg_entry_eq]
  generalize (lg_sl ([.ref ob, .int n]) ++ List.replicate (2 - (lg_sl ([.ref ob, .int n])).length) Slot.unset).toArray = ls at hl9 ⊢
  have hl : lv_has ls 2 [(0, .ref ob), (1, .int n)] := hl9
  refine lv_aload_n hx hb dX8_phaseOf_0 rfl (lv_at hl 0 rfl) ?_
  refine lv_iload_n hx hb dX8_phaseOf_1 rfl (lv_at hl 1 rfl) ?_
  have hFc := m_free (C := (fun q e => TW cy L tr a κ τ q e ∨ oW ob (L 0 0) tp q e)) hP hS hA (fun _ _ h => h)
  refine va_callv (va_runV (As := [.int n]) (rest := []) ⟨hx, hb, hml, hown, hts⟩ (c_checkNode l dC dI cy L tr a κ τ ob tp n s.heap.size hT hf) (tp_cwV 1 hts tw_426 tw_428 tw_13 tw_20 tw_429 rfl rfl (by decide +kernel) ⟨Nat.le_of_ble_eq_true rfl, Nat.le_of_ble_eq_true rfl⟩) ⟨m_blind, va_recv hK (hP.one (e := .inr (8, [.ref (L 0 0), .ref tp])) (Or.inr oW_mem)) (ci := 8) (q0 := 0) rfl rfl, fun U hU hW => ⟨rfl, m_pay hK hP hE (fun _ _ h => h) U hU hW⟩⟩ rfl rfl hl.1 rfl (lv_room (Nat.le_of_ble_eq_true rfl)) dX8_phaseOf_2 ⟨(Nat.le_of_ble_eq_true rfl), (Nat.le_of_ble_eq_true rfl)⟩) hS (fun q _ h => hFc q h) hFc (fun u t H1 locs ht hvm hpo hB hz1 hk1 hS => ?_)
  have hP1 := hB
  rw [ht] at hP1
  have hP : mw (dC, dI) vwCl A (fun q e => TW cy L tr a κ τ q e ∨ oW ob (L 0 0) tp q e) H1 := hP.join (fun _ _ h => h) hk1 hFc hP1 (fun _ _ h => Or.inl h)
  generalize H1 = H at hP hS ⊢
  clear hP1 hk1 hFc
  refine lv_aload_n hx hb dX8_phaseOf_5 rfl (lv_at hl 0 rfl) ?_
  refine va_get (D := (dC, dI)) (ws := [(ob, .inr (8, [.ref (L 0 0), .ref tp]))]) (ci := 8) (v := .ref (L 0 0)) (C := RX8) (T := TX8) (N := 2) hx hb hts tl_X8 hown hK (hP.one (Or.inr oW_mem)) 0 rfl rfl 0 (by decide) (hts _ tw_922) (fun _ h9 => h9) rfl dX8_phaseOf_6 ?_
  refine va_getN (D := (dC, dI)) (ws := [(L 0 0, .inr (5, [.ref (L 1 0), .ref (L 20 0), .ref (L 21 0), .ref (L 22 0), .ref (L 23 0), va_rf tr, .int ((a 0 0) 0), .int ((a 0 0) 1), .int ((a 0 0) 2), .int ((a 0 0) 3), .int ((a 0 0) 4), .int ((a 0 0) 5)]))]) (ci := 5) (v := .ref (L 20 0)) (C := RX5) (T := TX5) (N := 12) hx hb hts tl_X5 hown hK (hP.one (Or.inl (tw_mem (f := 0) (i := 0) (by decide) rfl))) 0 rfl rfl 1 (by decide) (va_Nw.use rfl (te_f61 hE)) (fun _ h9 => h9) rfl dX8_phaseOf_9 ?_
  refine lv_iload_n hx hb dX8_phaseOf_12 rfl (lv_at hl 1 rfl) ?_
  have j_1 : (n : Int32).toNatClampNeg = n.toNatClampNeg := m_cl (m_nI (fun h => hf (Or.inl h))) (N_lt hw hf) (by decide)
  refine va_aldq hx hb hK (ws := [(L 20 0, .inl (cy 4, 12, .inr (.inr (.inr (.inr (fun j => some (L 8 j)))))))]) (hP.one (Or.inl (tw_mem (f := 20) (i := 0) (by decide) rfl))) 0 4 rfl rfl (m_in (m_nI (fun h => hf (Or.inl h))) (N_lt hw hf) (by decide)) dX8_phaseOf_13 ?_
  refine W.eq (g2 := F0 m 14 ls [.ref (L 8 n.toNatClampNeg)]) (by first | (rw [j_1]; done) | (rw [j_1]; rfl)) ?_
  refine va_getN (D := (dC, dI)) (ws := [(L 8 n.toNatClampNeg, .inr (4, [.ref (L 9 n.toNatClampNeg), .ref (L 10 n.toNatClampNeg), .ref (L 11 n.toNatClampNeg), .int ((a 8 n.toNatClampNeg) 0), .int ((a 8 n.toNatClampNeg) 1), .int ((a 8 n.toNatClampNeg) 2)]))]) (ci := 4) (v := .int ((a 8 n.toNatClampNeg) 1)) (C := RX4) (T := TX4) (N := 6) hx hb hts tl_X4 hown hK (hP.one (Or.inl (tw_mem (f := 8) (i := n.toNatClampNeg) (N_lt hw hf) rfl))) 0 rfl rfl 4 (by decide) (va_Nw.use rfl (te_f29 hE)) (fun _ h9 => h9) rfl dX8_phaseOf_14 ?_
  refine W.widen (k := 0) (n := 0) (Nat.le_of_ble_eq_true rfl) (Nat.le_of_ble_eq_true rfl) ?_
  have g_1 : ((a 8 n.toNatClampNeg) 1) = a 8 n.toNatClampNeg 1 := by
    first | rfl | assumption | (simp only [])
  exact W.iret (v := (a 8 n.toNatClampNeg) 1) hx hb hr (fun t ht hW => ⟨⟨((a 8 n.toNatClampNeg) 1), ((a 8 n.toNatClampNeg) 1), rfl, rfl, ⟨g_1, by show mw _ _ _ _ t.heap; rw [ht]; exact hP⟩⟩, hS.F ht⟩) hS.2.2 dX8_phaseOf_17
set_option maxRecDepth 100000 in
set_option maxHeartbeats 4000000 in
/-- phaseTicks -/
theorem c_phaseTicks (l : Launch) (dC : Nat → ClassId) (dI : Nat → Nat → Nat) (cy : Nat → ClassId) (L : Lay) (tr : Option Nat) (a : St) (κ : Kap) (τ : Tau) (ob : Nat) (tp : Nat) (M : Nat) (n : Int32) (sz : Nat) (hT : TL L tr τ) (hw : Wf M a) (hf : ¬ N_no a n) : Met l yX8_phaseTicks (tp_w yX8_phaseTicks cX8_phaseTicks 2 (some .int)) ({ frames := 1, cells := 0, slots := 0, locals := 21 }) (va_Pc [.ref ob, .int n] (mPre dC dI cy (fun q e => TW cy L tr a κ τ q e ∨ oW ob (L 0 0) tp q e) sz)) (va_Qi (fun (r u : Int32) => r = u) (fun (u : Int32) (t : State) => (u = a 8 n.toNatClampNeg 2) ∧ mw (dC, dI) vwCl (mA (fun q e => TW cy L tr a κ τ q e ∨ oW ob (L 0 0) tp q e) sz) (fun q e => TW cy L tr a κ τ q e ∨ oW ob (L 0 0) tp q e) t.heap) (mA (fun q e => TW cy L tr a κ τ q e ∨ oW ob (L 0 0) tp q e) sz)) (0) (0) (mA (fun q e => TW cy L tr a κ τ q e ∨ oW ob (L 0 0) tp q e) sz) := by
  refine Met.ofW (cc := cX8_phaseTicks) (maxL := 2) (ret := (some .int)) (by decide) rfl ?_
  intro p e s m args below meth c s₁ B hml hv
  obtain ⟨rfl, hsz, hP, hK, hE⟩ := hv
  have hx := B.exec
  have hb := B.bytes
  have hr := B.returns
  have hts0 := atoms_spec (ws := tp_w yX8_phaseTicks cX8_phaseTicks 2 (some .int)) B.pre
  have hts : ∀ w ∈ tp_all, w.before _ s = true := fun w h => hts0 w (List.mem_cons_of_mem _ h)
  have hown : s.vm.findClass RX8 = some m.cls := findClass_of_methodNamed B.named
  have hlocks := B.notSynchronized
  subst hsz
  have hP := hP.self s.heap.size
  generalize hAe : mA (fun q e => TW cy L tr a κ τ q e ∨ oW ob (L 0 0) tp q e) s.heap.size = A at hP ⊢
  have hA : ∀ q : Nat, s.heap.size ≤ q → A q := fun q h => by rw [← hAe]; exact Or.inr h
  have hS : va_S A s.heap s.heap [] := va_S.rf
  have hl9 := lv_entry ([.ref ob, .int n]) (n := 2) (Nat.le_of_ble_eq_true rfl)
  rw [lg_entry_eq]
  generalize (lg_sl ([.ref ob, .int n]) ++ List.replicate (2 - (lg_sl ([.ref ob, .int n])).length) Slot.unset).toArray = ls at hl9 ⊢
  have hl : lv_has ls 2 [(0, .ref ob), (1, .int n)] := hl9
  refine lv_aload_n hx hb dX8_phaseTicks_0 rfl (lv_at hl 0 rfl) ?_
  refine lv_iload_n hx hb dX8_phaseTicks_1 rfl (lv_at hl 1 rfl) ?_
  have hFc := m_free (C := (fun q e => TW cy L tr a κ τ q e ∨ oW ob (L 0 0) tp q e)) hP hS hA (fun _ _ h => h)
  refine va_callv (va_runV (As := [.int n]) (rest := []) ⟨hx, hb, hml, hown, hts⟩ (c_checkNode l dC dI cy L tr a κ τ ob tp n s.heap.size hT hf) (tp_cwV 1 hts tw_426 tw_428 tw_13 tw_20 tw_429 rfl rfl (by decide +kernel) ⟨Nat.le_of_ble_eq_true rfl, Nat.le_of_ble_eq_true rfl⟩) ⟨m_blind, va_recv hK (hP.one (e := .inr (8, [.ref (L 0 0), .ref tp])) (Or.inr oW_mem)) (ci := 8) (q0 := 0) rfl rfl, fun U hU hW => ⟨rfl, m_pay hK hP hE (fun _ _ h => h) U hU hW⟩⟩ rfl rfl hl.1 rfl (lv_room (Nat.le_of_ble_eq_true rfl)) dX8_phaseTicks_2 ⟨(Nat.le_of_ble_eq_true rfl), (Nat.le_of_ble_eq_true rfl)⟩) hS (fun q _ h => hFc q h) hFc (fun u t H1 locs ht hvm hpo hB hz1 hk1 hS => ?_)
  have hP1 := hB
  rw [ht] at hP1
  have hP : mw (dC, dI) vwCl A (fun q e => TW cy L tr a κ τ q e ∨ oW ob (L 0 0) tp q e) H1 := hP.join (fun _ _ h => h) hk1 hFc hP1 (fun _ _ h => Or.inl h)
  generalize H1 = H at hP hS ⊢
  clear hP1 hk1 hFc
  refine lv_aload_n hx hb dX8_phaseTicks_5 rfl (lv_at hl 0 rfl) ?_
  refine va_get (D := (dC, dI)) (ws := [(ob, .inr (8, [.ref (L 0 0), .ref tp]))]) (ci := 8) (v := .ref (L 0 0)) (C := RX8) (T := TX8) (N := 2) hx hb hts tl_X8 hown hK (hP.one (Or.inr oW_mem)) 0 rfl rfl 0 (by decide) (hts _ tw_922) (fun _ h9 => h9) rfl dX8_phaseTicks_6 ?_
  refine va_getN (D := (dC, dI)) (ws := [(L 0 0, .inr (5, [.ref (L 1 0), .ref (L 20 0), .ref (L 21 0), .ref (L 22 0), .ref (L 23 0), va_rf tr, .int ((a 0 0) 0), .int ((a 0 0) 1), .int ((a 0 0) 2), .int ((a 0 0) 3), .int ((a 0 0) 4), .int ((a 0 0) 5)]))]) (ci := 5) (v := .ref (L 20 0)) (C := RX5) (T := TX5) (N := 12) hx hb hts tl_X5 hown hK (hP.one (Or.inl (tw_mem (f := 0) (i := 0) (by decide) rfl))) 0 rfl rfl 1 (by decide) (va_Nw.use rfl (te_f61 hE)) (fun _ h9 => h9) rfl dX8_phaseTicks_9 ?_
  refine lv_iload_n hx hb dX8_phaseTicks_12 rfl (lv_at hl 1 rfl) ?_
  have j_1 : (n : Int32).toNatClampNeg = n.toNatClampNeg := m_cl (m_nI (fun h => hf (Or.inl h))) (N_lt hw hf) (by decide)
  refine va_aldq hx hb hK (ws := [(L 20 0, .inl (cy 4, 12, .inr (.inr (.inr (.inr (fun j => some (L 8 j)))))))]) (hP.one (Or.inl (tw_mem (f := 20) (i := 0) (by decide) rfl))) 0 4 rfl rfl (m_in (m_nI (fun h => hf (Or.inl h))) (N_lt hw hf) (by decide)) dX8_phaseTicks_13 ?_
  refine W.eq (g2 := F0 m 14 ls [.ref (L 8 n.toNatClampNeg)]) (by first | (rw [j_1]; done) | (rw [j_1]; rfl)) ?_
  refine va_getN (D := (dC, dI)) (ws := [(L 8 n.toNatClampNeg, .inr (4, [.ref (L 9 n.toNatClampNeg), .ref (L 10 n.toNatClampNeg), .ref (L 11 n.toNatClampNeg), .int ((a 8 n.toNatClampNeg) 0), .int ((a 8 n.toNatClampNeg) 1), .int ((a 8 n.toNatClampNeg) 2)]))]) (ci := 4) (v := .int ((a 8 n.toNatClampNeg) 2)) (C := RX4) (T := TX4) (N := 6) hx hb hts tl_X4 hown hK (hP.one (Or.inl (tw_mem (f := 8) (i := n.toNatClampNeg) (N_lt hw hf) rfl))) 0 rfl rfl 5 (by decide) (va_Nw.use rfl (te_f30 hE)) (fun _ h9 => h9) rfl dX8_phaseTicks_14 ?_
  refine W.widen (k := 0) (n := 0) (Nat.le_of_ble_eq_true rfl) (Nat.le_of_ble_eq_true rfl) ?_
  have g_1 : ((a 8 n.toNatClampNeg) 2) = a 8 n.toNatClampNeg 2 := by
    first | rfl | assumption | (simp only [])
  exact W.iret (v := (a 8 n.toNatClampNeg) 2) hx hb hr (fun t ht hW => ⟨⟨((a 8 n.toNatClampNeg) 2), ((a 8 n.toNatClampNeg) 2), rfl, rfl, ⟨g_1, by show mw _ _ _ _ t.heap; rw [ht]; exact hP⟩⟩, hS.F ht⟩) hS.2.2 dX8_phaseTicks_17
set_option maxRecDepth 100000 in
set_option maxHeartbeats 4000000 in
/-- waiting -/
theorem c_waiting (l : Launch) (dC : Nat → ClassId) (dI : Nat → Nat → Nat) (cy : Nat → ClassId) (L : Lay) (tr : Option Nat) (a : St) (κ : Kap) (τ : Tau) (ob : Nat) (tp : Nat) (M : Nat) (n : Int32) (sz : Nat) (hT : TL L tr τ) (hw : Wf M a) (hf : ¬ N_no a n) : Met l yX8_waiting (tp_w yX8_waiting cX8_waiting 2 (some .int)) ({ frames := 1, cells := 0, slots := 0, locals := 21 }) (va_Pc [.ref ob, .int n] (mPre dC dI cy (fun q e => TW cy L tr a κ τ q e ∨ oW ob (L 0 0) tp q e) sz)) (va_Qi (fun (r u : Int32) => r = u) (fun (u : Int32) (t : State) => (u = a 12 n.toNatClampNeg 0) ∧ mw (dC, dI) vwCl (mA (fun q e => TW cy L tr a κ τ q e ∨ oW ob (L 0 0) tp q e) sz) (fun q e => TW cy L tr a κ τ q e ∨ oW ob (L 0 0) tp q e) t.heap) (mA (fun q e => TW cy L tr a κ τ q e ∨ oW ob (L 0 0) tp q e) sz)) (0) (0) (mA (fun q e => TW cy L tr a κ τ q e ∨ oW ob (L 0 0) tp q e) sz) := by
  refine Met.ofW (cc := cX8_waiting) (maxL := 2) (ret := (some .int)) (by decide) rfl ?_
  intro p e s m args below meth c s₁ B hml hv
  obtain ⟨rfl, hsz, hP, hK, hE⟩ := hv
  have hx := B.exec
  have hb := B.bytes
  have hr := B.returns
  have hts0 := atoms_spec (ws := tp_w yX8_waiting cX8_waiting 2 (some .int)) B.pre
  have hts : ∀ w ∈ tp_all, w.before _ s = true := fun w h => hts0 w (List.mem_cons_of_mem _ h)
  have hown : s.vm.findClass RX8 = some m.cls := findClass_of_methodNamed B.named
  have hlocks := B.notSynchronized
  subst hsz
  have hP := hP.self s.heap.size
  generalize hAe : mA (fun q e => TW cy L tr a κ τ q e ∨ oW ob (L 0 0) tp q e) s.heap.size = A at hP ⊢
  have hA : ∀ q : Nat, s.heap.size ≤ q → A q := fun q h => by rw [← hAe]; exact Or.inr h
  have hS : va_S A s.heap s.heap [] := va_S.rf
  have hl9 := lv_entry ([.ref ob, .int n]) (n := 2) (Nat.le_of_ble_eq_true rfl)
  rw [lg_entry_eq]
  generalize (lg_sl ([.ref ob, .int n]) ++ List.replicate (2 - (lg_sl ([.ref ob, .int n])).length) Slot.unset).toArray = ls at hl9 ⊢
  have hl : lv_has ls 2 [(0, .ref ob), (1, .int n)] := hl9
  refine lv_aload_n hx hb dX8_waiting_0 rfl (lv_at hl 0 rfl) ?_
  refine lv_iload_n hx hb dX8_waiting_1 rfl (lv_at hl 1 rfl) ?_
  have hFc := m_free (C := (fun q e => TW cy L tr a κ τ q e ∨ oW ob (L 0 0) tp q e)) hP hS hA (fun _ _ h => h)
  refine va_callv (va_runV (As := [.int n]) (rest := []) ⟨hx, hb, hml, hown, hts⟩ (c_checkNode l dC dI cy L tr a κ τ ob tp n s.heap.size hT hf) (tp_cwV 1 hts tw_426 tw_428 tw_13 tw_20 tw_429 rfl rfl (by decide +kernel) ⟨Nat.le_of_ble_eq_true rfl, Nat.le_of_ble_eq_true rfl⟩) ⟨m_blind, va_recv hK (hP.one (e := .inr (8, [.ref (L 0 0), .ref tp])) (Or.inr oW_mem)) (ci := 8) (q0 := 0) rfl rfl, fun U hU hW => ⟨rfl, m_pay hK hP hE (fun _ _ h => h) U hU hW⟩⟩ rfl rfl hl.1 rfl (lv_room (Nat.le_of_ble_eq_true rfl)) dX8_waiting_2 ⟨(Nat.le_of_ble_eq_true rfl), (Nat.le_of_ble_eq_true rfl)⟩) hS (fun q _ h => hFc q h) hFc (fun u t H1 locs ht hvm hpo hB hz1 hk1 hS => ?_)
  have hP1 := hB
  rw [ht] at hP1
  have hP : mw (dC, dI) vwCl A (fun q e => TW cy L tr a κ τ q e ∨ oW ob (L 0 0) tp q e) H1 := hP.join (fun _ _ h => h) hk1 hFc hP1 (fun _ _ h => Or.inl h)
  generalize H1 = H at hP hS ⊢
  clear hP1 hk1 hFc
  refine lv_aload_n hx hb dX8_waiting_5 rfl (lv_at hl 0 rfl) ?_
  refine va_get (D := (dC, dI)) (ws := [(ob, .inr (8, [.ref (L 0 0), .ref tp]))]) (ci := 8) (v := .ref (L 0 0)) (C := RX8) (T := TX8) (N := 2) hx hb hts tl_X8 hown hK (hP.one (Or.inr oW_mem)) 0 rfl rfl 0 (by decide) (hts _ tw_922) (fun _ h9 => h9) rfl dX8_waiting_6 ?_
  refine va_getN (D := (dC, dI)) (ws := [(L 0 0, .inr (5, [.ref (L 1 0), .ref (L 20 0), .ref (L 21 0), .ref (L 22 0), .ref (L 23 0), va_rf tr, .int ((a 0 0) 0), .int ((a 0 0) 1), .int ((a 0 0) 2), .int ((a 0 0) 3), .int ((a 0 0) 4), .int ((a 0 0) 5)]))]) (ci := 5) (v := .ref (L 21 0)) (C := RX5) (T := TX5) (N := 12) hx hb hts tl_X5 hown hK (hP.one (Or.inl (tw_mem (f := 0) (i := 0) (by decide) rfl))) 0 rfl rfl 2 (by decide) (va_Nw.use rfl (te_f62 hE)) (fun _ h9 => h9) rfl dX8_waiting_9 ?_
  refine lv_iload_n hx hb dX8_waiting_12 rfl (lv_at hl 1 rfl) ?_
  have j_1 : (n : Int32).toNatClampNeg = n.toNatClampNeg := m_cl (m_nI (fun h => hf (Or.inl h))) (N_lt hw hf) (by decide)
  refine va_aldq hx hb hK (ws := [(L 21 0, .inl (cy 5, 12, .inr (.inr (.inr (.inr (fun j => some (L 12 j)))))))]) (hP.one (Or.inl (tw_mem (f := 21) (i := 0) (by decide) rfl))) 0 5 rfl rfl (m_in (m_nI (fun h => hf (Or.inl h))) (N_lt hw hf) (by decide)) dX8_waiting_13 ?_
  refine W.eq (g2 := F0 m 14 ls [.ref (L 12 n.toNatClampNeg)]) (by first | (rw [j_1]; done) | (rw [j_1]; rfl)) ?_
  refine va_getN (D := (dC, dI)) (ws := [(L 12 n.toNatClampNeg, .inr (3, [.ref (L 13 n.toNatClampNeg), .int ((a 12 n.toNatClampNeg) 0)]))]) (ci := 3) (v := .int ((a 12 n.toNatClampNeg) 0)) (C := RX3) (T := TX3) (N := 2) hx hb hts tl_X3 hown hK (hP.one (Or.inl (tw_mem (f := 12) (i := n.toNatClampNeg) (N_lt hw hf) rfl))) 0 rfl rfl 1 (by decide) (va_Nw.use rfl (te_f1 hE)) (fun _ h9 => h9) rfl dX8_waiting_14 ?_
  refine W.widen (k := 0) (n := 0) (Nat.le_of_ble_eq_true rfl) (Nat.le_of_ble_eq_true rfl) ?_
  have g_1 : ((a 12 n.toNatClampNeg) 0) = a 12 n.toNatClampNeg 0 := by
    first | rfl | assumption | (simp only [])
  exact W.iret (v := (a 12 n.toNatClampNeg) 0) hx hb hr (fun t ht hW => ⟨⟨((a 12 n.toNatClampNeg) 0), ((a 12 n.toNatClampNeg) 0), rfl, rfl, ⟨g_1, by show mw _ _ _ _ t.heap; rw [ht]; exact hP⟩⟩, hS.F ht⟩) hS.2.2 dX8_waiting_17
set_option maxRecDepth 100000 in
set_option maxHeartbeats 4000000 in
/-- stateOf -/
theorem c_stateOf (l : Launch) (dC : Nat → ClassId) (dI : Nat → Nat → Nat) (cy : Nat → ClassId) (L : Lay) (tr : Option Nat) (a : St) (κ : Kap) (τ : Tau) (ob : Nat) (tp : Nat) (M : Nat) (n : Int32) (sz : Nat) (hT : TL L tr τ) (hw : Wf M a) (hf : ¬ T_no a n) : Met l yX8_stateOf (tp_w yX8_stateOf cX8_stateOf 2 (some .int)) ({ frames := 2, cells := 0, slots := 0, locals := 43 }) (va_Pc [.ref ob, .int n] (mPre dC dI cy (fun q e => TW cy L tr a κ τ q e ∨ oW ob (L 0 0) tp q e) sz)) (va_Qi (fun (r u : Int32) => r = u) (fun (u : Int32) (t : State) => (u = a 15 n.toNatClampNeg 3) ∧ mw (dC, dI) vwCl (mA (fun q e => TW cy L tr a κ τ q e ∨ oW ob (L 0 0) tp q e) sz) (fun q e => TW cy L tr a κ τ q e ∨ oW ob (L 0 0) tp q e) t.heap) (mA (fun q e => TW cy L tr a κ τ q e ∨ oW ob (L 0 0) tp q e) sz)) (0) (0) (mA (fun q e => TW cy L tr a κ τ q e ∨ oW ob (L 0 0) tp q e) sz) := by
  refine Met.ofW (cc := cX8_stateOf) (maxL := 2) (ret := (some .int)) (by decide) rfl ?_
  intro p e s m args below meth c s₁ B hml hv
  obtain ⟨rfl, hsz, hP, hK, hE⟩ := hv
  have hx := B.exec
  have hb := B.bytes
  have hr := B.returns
  have hts0 := atoms_spec (ws := tp_w yX8_stateOf cX8_stateOf 2 (some .int)) B.pre
  have hts : ∀ w ∈ tp_all, w.before _ s = true := fun w h => hts0 w (List.mem_cons_of_mem _ h)
  have hown : s.vm.findClass RX8 = some m.cls := findClass_of_methodNamed B.named
  have hlocks := B.notSynchronized
  subst hsz
  have hP := hP.self s.heap.size
  generalize hAe : mA (fun q e => TW cy L tr a κ τ q e ∨ oW ob (L 0 0) tp q e) s.heap.size = A at hP ⊢
  have hA : ∀ q : Nat, s.heap.size ≤ q → A q := fun q h => by rw [← hAe]; exact Or.inr h
  have hS : va_S A s.heap s.heap [] := va_S.rf
  have hl9 := lv_entry ([.ref ob, .int n]) (n := 2) (Nat.le_of_ble_eq_true rfl)
  rw [lg_entry_eq]
  generalize (lg_sl ([.ref ob, .int n]) ++ List.replicate (2 - (lg_sl ([.ref ob, .int n])).length) Slot.unset).toArray = ls at hl9 ⊢
  have hl : lv_has ls 2 [(0, .ref ob), (1, .int n)] := hl9
  refine lv_aload_n hx hb dX8_stateOf_0 rfl (lv_at hl 0 rfl) ?_
  refine lv_iload_n hx hb dX8_stateOf_1 rfl (lv_at hl 1 rfl) ?_
  have hFc := m_free (C := (fun q e => TW cy L tr a κ τ q e ∨ oW ob (L 0 0) tp q e)) hP hS hA (fun _ _ h => h)
  refine va_callr (va_runV (As := [.int n]) (rest := []) ⟨hx, hb, hml, hown, hts⟩ (c_vehicleNumbered l dC dI cy L tr a κ τ ob tp M n s.heap.size hT hw hf) (tp_cwV 1 hts tw_387 tw_389 tw_12 tw_20 tw_390 rfl rfl (by decide +kernel) ⟨Nat.le_of_ble_eq_true rfl, Nat.le_of_ble_eq_true rfl⟩) ⟨m_blind, va_recv hK (hP.one (e := .inr (8, [.ref (L 0 0), .ref tp])) (Or.inr oW_mem)) (ci := 8) (q0 := 0) rfl rfl, fun U hU hW => ⟨rfl, m_pay hK hP hE (fun _ _ h => h) U hU hW⟩⟩ rfl rfl hl.1 rfl (lv_room (Nat.le_of_ble_eq_true rfl)) dX8_stateOf_2 ⟨(Nat.le_of_ble_eq_true rfl), (Nat.le_of_ble_eq_true rfl)⟩) hS (fun q _ h => hFc q h) hFc (fun u r_1 t H1 locs ht hvm hpo hB hz1 hk1 hS => ?_)
  obtain ⟨f_1, hP1⟩ := hB
  subst f_1
  rw [ht] at hP1
  have hP : mw (dC, dI) vwCl A (fun q e => TW cy L tr a κ τ q e ∨ oW ob (L 0 0) tp q e) H1 := hP.join (fun _ _ h => h) hk1 hFc hP1 (fun _ _ h => Or.inl h)
  generalize H1 = H at hP hS ⊢
  clear hP1 hk1 hFc
  refine va_getN (D := (dC, dI)) (ws := [(L 15 n.toNatClampNeg, .inr (7, [.int ((a 15 n.toNatClampNeg) 0), .int ((a 15 n.toNatClampNeg) 1), .int ((a 15 n.toNatClampNeg) 2), .int ((a 15 n.toNatClampNeg) 3), .int ((a 15 n.toNatClampNeg) 4), .int ((a 15 n.toNatClampNeg) 5), .int ((a 15 n.toNatClampNeg) 6), .int ((a 15 n.toNatClampNeg) 7), .int ((a 15 n.toNatClampNeg) 8), .int ((a 15 n.toNatClampNeg) 9), .int ((a 15 n.toNatClampNeg) 10), .int ((a 15 n.toNatClampNeg) 11), .ref (L 16 n.toNatClampNeg)]))]) (ci := 7) (v := .int ((a 15 n.toNatClampNeg) 3)) (C := RX7) (T := TX7) (N := 13) hx hb hts tl_X7 hown hK (hP.one (Or.inl (tw_mem (f := 15) (i := n.toNatClampNeg) (T_lt hw hf) rfl))) 0 rfl rfl 3 (by decide) (va_Nw.use rfl (te_f50 hE)) (fun _ h9 => h9) rfl dX8_stateOf_5 ?_
  refine W.widen (k := 0) (n := 0) (Nat.le_of_ble_eq_true rfl) (Nat.le_of_ble_eq_true rfl) ?_
  have g_1 : ((a 15 n.toNatClampNeg) 3) = a 15 n.toNatClampNeg 3 := by
    first | rfl | assumption | (simp only [])
  exact W.iret (v := (a 15 n.toNatClampNeg) 3) hx hb hr (fun t ht hW => ⟨⟨((a 15 n.toNatClampNeg) 3), ((a 15 n.toNatClampNeg) 3), rfl, rfl, ⟨g_1, by show mw _ _ _ _ t.heap; rw [ht]; exact hP⟩⟩, hS.F ht⟩) hS.2.2 dX8_stateOf_8
set_option maxRecDepth 100000 in
set_option maxHeartbeats 4000000 in
/-- linkOf -/
theorem c_linkOf (l : Launch) (dC : Nat → ClassId) (dI : Nat → Nat → Nat) (cy : Nat → ClassId) (L : Lay) (tr : Option Nat) (a : St) (κ : Kap) (τ : Tau) (ob : Nat) (tp : Nat) (M : Nat) (n : Int32) (sz : Nat) (hT : TL L tr τ) (hw : Wf M a) (hf : ¬ T_no a n) : Met l yX8_linkOf (tp_w yX8_linkOf cX8_linkOf 2 (some .int)) ({ frames := 2, cells := 0, slots := 0, locals := 43 }) (va_Pc [.ref ob, .int n] (mPre dC dI cy (fun q e => TW cy L tr a κ τ q e ∨ oW ob (L 0 0) tp q e) sz)) (va_Qi (fun (r u : Int32) => r = u) (fun (u : Int32) (t : State) => (u = a 15 n.toNatClampNeg 5) ∧ mw (dC, dI) vwCl (mA (fun q e => TW cy L tr a κ τ q e ∨ oW ob (L 0 0) tp q e) sz) (fun q e => TW cy L tr a κ τ q e ∨ oW ob (L 0 0) tp q e) t.heap) (mA (fun q e => TW cy L tr a κ τ q e ∨ oW ob (L 0 0) tp q e) sz)) (0) (0) (mA (fun q e => TW cy L tr a κ τ q e ∨ oW ob (L 0 0) tp q e) sz) := by
  refine Met.ofW (cc := cX8_linkOf) (maxL := 2) (ret := (some .int)) (by decide) rfl ?_
  intro p e s m args below meth c s₁ B hml hv
  obtain ⟨rfl, hsz, hP, hK, hE⟩ := hv
  have hx := B.exec
  have hb := B.bytes
  have hr := B.returns
  have hts0 := atoms_spec (ws := tp_w yX8_linkOf cX8_linkOf 2 (some .int)) B.pre
  have hts : ∀ w ∈ tp_all, w.before _ s = true := fun w h => hts0 w (List.mem_cons_of_mem _ h)
  have hown : s.vm.findClass RX8 = some m.cls := findClass_of_methodNamed B.named
  have hlocks := B.notSynchronized
  subst hsz
  have hP := hP.self s.heap.size
  generalize hAe : mA (fun q e => TW cy L tr a κ τ q e ∨ oW ob (L 0 0) tp q e) s.heap.size = A at hP ⊢
  have hA : ∀ q : Nat, s.heap.size ≤ q → A q := fun q h => by rw [← hAe]; exact Or.inr h
  have hS : va_S A s.heap s.heap [] := va_S.rf
  have hl9 := lv_entry ([.ref ob, .int n]) (n := 2) (Nat.le_of_ble_eq_true rfl)
  rw [lg_entry_eq]
  generalize (lg_sl ([.ref ob, .int n]) ++ List.replicate (2 - (lg_sl ([.ref ob, .int n])).length) Slot.unset).toArray = ls at hl9 ⊢
  have hl : lv_has ls 2 [(0, .ref ob), (1, .int n)] := hl9
  refine lv_aload_n hx hb dX8_linkOf_0 rfl (lv_at hl 0 rfl) ?_
  refine lv_iload_n hx hb dX8_linkOf_1 rfl (lv_at hl 1 rfl) ?_
  have hFc := m_free (C := (fun q e => TW cy L tr a κ τ q e ∨ oW ob (L 0 0) tp q e)) hP hS hA (fun _ _ h => h)
  refine va_callr (va_runV (As := [.int n]) (rest := []) ⟨hx, hb, hml, hown, hts⟩ (c_vehicleNumbered l dC dI cy L tr a κ τ ob tp M n s.heap.size hT hw hf) (tp_cwV 1 hts tw_387 tw_389 tw_12 tw_20 tw_390 rfl rfl (by decide +kernel) ⟨Nat.le_of_ble_eq_true rfl, Nat.le_of_ble_eq_true rfl⟩) ⟨m_blind, va_recv hK (hP.one (e := .inr (8, [.ref (L 0 0), .ref tp])) (Or.inr oW_mem)) (ci := 8) (q0 := 0) rfl rfl, fun U hU hW => ⟨rfl, m_pay hK hP hE (fun _ _ h => h) U hU hW⟩⟩ rfl rfl hl.1 rfl (lv_room (Nat.le_of_ble_eq_true rfl)) dX8_linkOf_2 ⟨(Nat.le_of_ble_eq_true rfl), (Nat.le_of_ble_eq_true rfl)⟩) hS (fun q _ h => hFc q h) hFc (fun u r_1 t H1 locs ht hvm hpo hB hz1 hk1 hS => ?_)
  obtain ⟨f_1, hP1⟩ := hB
  subst f_1
  rw [ht] at hP1
  have hP : mw (dC, dI) vwCl A (fun q e => TW cy L tr a κ τ q e ∨ oW ob (L 0 0) tp q e) H1 := hP.join (fun _ _ h => h) hk1 hFc hP1 (fun _ _ h => Or.inl h)
  generalize H1 = H at hP hS ⊢
  clear hP1 hk1 hFc
  refine va_getN (D := (dC, dI)) (ws := [(L 15 n.toNatClampNeg, .inr (7, [.int ((a 15 n.toNatClampNeg) 0), .int ((a 15 n.toNatClampNeg) 1), .int ((a 15 n.toNatClampNeg) 2), .int ((a 15 n.toNatClampNeg) 3), .int ((a 15 n.toNatClampNeg) 4), .int ((a 15 n.toNatClampNeg) 5), .int ((a 15 n.toNatClampNeg) 6), .int ((a 15 n.toNatClampNeg) 7), .int ((a 15 n.toNatClampNeg) 8), .int ((a 15 n.toNatClampNeg) 9), .int ((a 15 n.toNatClampNeg) 10), .int ((a 15 n.toNatClampNeg) 11), .ref (L 16 n.toNatClampNeg)]))]) (ci := 7) (v := .int ((a 15 n.toNatClampNeg) 5)) (C := RX7) (T := TX7) (N := 13) hx hb hts tl_X7 hown hK (hP.one (Or.inl (tw_mem (f := 15) (i := n.toNatClampNeg) (T_lt hw hf) rfl))) 0 rfl rfl 5 (by decide) (va_Nw.use rfl (te_f51 hE)) (fun _ h9 => h9) rfl dX8_linkOf_5 ?_
  refine W.widen (k := 0) (n := 0) (Nat.le_of_ble_eq_true rfl) (Nat.le_of_ble_eq_true rfl) ?_
  have g_1 : ((a 15 n.toNatClampNeg) 5) = a 15 n.toNatClampNeg 5 := by
    first | rfl | assumption | (simp only [])
  exact W.iret (v := (a 15 n.toNatClampNeg) 5) hx hb hr (fun t ht hW => ⟨⟨((a 15 n.toNatClampNeg) 5), ((a 15 n.toNatClampNeg) 5), rfl, rfl, ⟨g_1, by show mw _ _ _ _ t.heap; rw [ht]; exact hP⟩⟩, hS.F ht⟩) hS.2.2 dX8_linkOf_8
set_option maxRecDepth 100000 in
set_option maxHeartbeats 4000000 in
/-- endOf -/
theorem c_endOf (l : Launch) (dC : Nat → ClassId) (dI : Nat → Nat → Nat) (cy : Nat → ClassId) (L : Lay) (tr : Option Nat) (a : St) (κ : Kap) (τ : Tau) (ob : Nat) (tp : Nat) (M : Nat) (n : Int32) (sz : Nat) (hT : TL L tr τ) (hw : Wf M a) (hf : ¬ T_no a n) : Met l yX8_endOf (tp_w yX8_endOf cX8_endOf 2 (some .int)) ({ frames := 2, cells := 0, slots := 0, locals := 43 }) (va_Pc [.ref ob, .int n] (mPre dC dI cy (fun q e => TW cy L tr a κ τ q e ∨ oW ob (L 0 0) tp q e) sz)) (va_Qi (fun (r u : Int32) => r = u) (fun (u : Int32) (t : State) => (u = a 15 n.toNatClampNeg 6) ∧ mw (dC, dI) vwCl (mA (fun q e => TW cy L tr a κ τ q e ∨ oW ob (L 0 0) tp q e) sz) (fun q e => TW cy L tr a κ τ q e ∨ oW ob (L 0 0) tp q e) t.heap) (mA (fun q e => TW cy L tr a κ τ q e ∨ oW ob (L 0 0) tp q e) sz)) (0) (0) (mA (fun q e => TW cy L tr a κ τ q e ∨ oW ob (L 0 0) tp q e) sz) := by
  refine Met.ofW (cc := cX8_endOf) (maxL := 2) (ret := (some .int)) (by decide) rfl ?_
  intro p e s m args below meth c s₁ B hml hv
  obtain ⟨rfl, hsz, hP, hK, hE⟩ := hv
  have hx := B.exec
  have hb := B.bytes
  have hr := B.returns
  have hts0 := atoms_spec (ws := tp_w yX8_endOf cX8_endOf 2 (some .int)) B.pre
  have hts : ∀ w ∈ tp_all, w.before _ s = true := fun w h => hts0 w (List.mem_cons_of_mem _ h)
  have hown : s.vm.findClass RX8 = some m.cls := findClass_of_methodNamed B.named
  have hlocks := B.notSynchronized
  subst hsz
  have hP := hP.self s.heap.size
  generalize hAe : mA (fun q e => TW cy L tr a κ τ q e ∨ oW ob (L 0 0) tp q e) s.heap.size = A at hP ⊢
  have hA : ∀ q : Nat, s.heap.size ≤ q → A q := fun q h => by rw [← hAe]; exact Or.inr h
  have hS : va_S A s.heap s.heap [] := va_S.rf
  have hl9 := lv_entry ([.ref ob, .int n]) (n := 2) (Nat.le_of_ble_eq_true rfl)
  rw [lg_entry_eq]
  generalize (lg_sl ([.ref ob, .int n]) ++ List.replicate (2 - (lg_sl ([.ref ob, .int n])).length) Slot.unset).toArray = ls at hl9 ⊢
  have hl : lv_has ls 2 [(0, .ref ob), (1, .int n)] := hl9
  refine lv_aload_n hx hb dX8_endOf_0 rfl (lv_at hl 0 rfl) ?_
  refine lv_iload_n hx hb dX8_endOf_1 rfl (lv_at hl 1 rfl) ?_
  have hFc := m_free (C := (fun q e => TW cy L tr a κ τ q e ∨ oW ob (L 0 0) tp q e)) hP hS hA (fun _ _ h => h)
  refine va_callr (va_runV (As := [.int n]) (rest := []) ⟨hx, hb, hml, hown, hts⟩ (c_vehicleNumbered l dC dI cy L tr a κ τ ob tp M n s.heap.size hT hw hf) (tp_cwV 1 hts tw_387 tw_389 tw_12 tw_20 tw_390 rfl rfl (by decide +kernel) ⟨Nat.le_of_ble_eq_true rfl, Nat.le_of_ble_eq_true rfl⟩) ⟨m_blind, va_recv hK (hP.one (e := .inr (8, [.ref (L 0 0), .ref tp])) (Or.inr oW_mem)) (ci := 8) (q0 := 0) rfl rfl, fun U hU hW => ⟨rfl, m_pay hK hP hE (fun _ _ h => h) U hU hW⟩⟩ rfl rfl hl.1 rfl (lv_room (Nat.le_of_ble_eq_true rfl)) dX8_endOf_2 ⟨(Nat.le_of_ble_eq_true rfl), (Nat.le_of_ble_eq_true rfl)⟩) hS (fun q _ h => hFc q h) hFc (fun u r_1 t H1 locs ht hvm hpo hB hz1 hk1 hS => ?_)
  obtain ⟨f_1, hP1⟩ := hB
  subst f_1
  rw [ht] at hP1
  have hP : mw (dC, dI) vwCl A (fun q e => TW cy L tr a κ τ q e ∨ oW ob (L 0 0) tp q e) H1 := hP.join (fun _ _ h => h) hk1 hFc hP1 (fun _ _ h => Or.inl h)
  generalize H1 = H at hP hS ⊢
  clear hP1 hk1 hFc
  refine va_getN (D := (dC, dI)) (ws := [(L 15 n.toNatClampNeg, .inr (7, [.int ((a 15 n.toNatClampNeg) 0), .int ((a 15 n.toNatClampNeg) 1), .int ((a 15 n.toNatClampNeg) 2), .int ((a 15 n.toNatClampNeg) 3), .int ((a 15 n.toNatClampNeg) 4), .int ((a 15 n.toNatClampNeg) 5), .int ((a 15 n.toNatClampNeg) 6), .int ((a 15 n.toNatClampNeg) 7), .int ((a 15 n.toNatClampNeg) 8), .int ((a 15 n.toNatClampNeg) 9), .int ((a 15 n.toNatClampNeg) 10), .int ((a 15 n.toNatClampNeg) 11), .ref (L 16 n.toNatClampNeg)]))]) (ci := 7) (v := .int ((a 15 n.toNatClampNeg) 6)) (C := RX7) (T := TX7) (N := 13) hx hb hts tl_X7 hown hK (hP.one (Or.inl (tw_mem (f := 15) (i := n.toNatClampNeg) (T_lt hw hf) rfl))) 0 rfl rfl 6 (by decide) (va_Nw.use rfl (te_f53 hE)) (fun _ h9 => h9) rfl dX8_endOf_5 ?_
  refine W.widen (k := 0) (n := 0) (Nat.le_of_ble_eq_true rfl) (Nat.le_of_ble_eq_true rfl) ?_
  have g_1 : ((a 15 n.toNatClampNeg) 6) = a 15 n.toNatClampNeg 6 := by
    first | rfl | assumption | (simp only [])
  exact W.iret (v := (a 15 n.toNatClampNeg) 6) hx hb hr (fun t ht hW => ⟨⟨((a 15 n.toNatClampNeg) 6), ((a 15 n.toNatClampNeg) 6), rfl, rfl, ⟨g_1, by show mw _ _ _ _ t.heap; rw [ht]; exact hP⟩⟩, hS.F ht⟩) hS.2.2 dX8_endOf_8
set_option maxRecDepth 100000 in
set_option maxHeartbeats 4000000 in
/-- linksOf -/
theorem c_linksOf (l : Launch) (dC : Nat → ClassId) (dI : Nat → Nat → Nat) (cy : Nat → ClassId) (L : Lay) (tr : Option Nat) (a : St) (κ : Kap) (τ : Tau) (ob : Nat) (tp : Nat) (M : Nat) (n : Int32) (sz : Nat) (hT : TL L tr τ) (hw : Wf M a) (hf : ¬ T_no a n) : Met l yX8_linksOf (tp_w yX8_linksOf cX8_linksOf 2 (some .int)) ({ frames := 2, cells := 0, slots := 0, locals := 43 }) (va_Pc [.ref ob, .int n] (mPre dC dI cy (fun q e => TW cy L tr a κ τ q e ∨ oW ob (L 0 0) tp q e) sz)) (va_Qi (fun (r u : Int32) => r = u) (fun (u : Int32) (t : State) => (u = a 15 n.toNatClampNeg 7) ∧ mw (dC, dI) vwCl (mA (fun q e => TW cy L tr a κ τ q e ∨ oW ob (L 0 0) tp q e) sz) (fun q e => TW cy L tr a κ τ q e ∨ oW ob (L 0 0) tp q e) t.heap) (mA (fun q e => TW cy L tr a κ τ q e ∨ oW ob (L 0 0) tp q e) sz)) (0) (0) (mA (fun q e => TW cy L tr a κ τ q e ∨ oW ob (L 0 0) tp q e) sz) := by
  refine Met.ofW (cc := cX8_linksOf) (maxL := 2) (ret := (some .int)) (by decide) rfl ?_
  intro p e s m args below meth c s₁ B hml hv
  obtain ⟨rfl, hsz, hP, hK, hE⟩ := hv
  have hx := B.exec
  have hb := B.bytes
  have hr := B.returns
  have hts0 := atoms_spec (ws := tp_w yX8_linksOf cX8_linksOf 2 (some .int)) B.pre
  have hts : ∀ w ∈ tp_all, w.before _ s = true := fun w h => hts0 w (List.mem_cons_of_mem _ h)
  have hown : s.vm.findClass RX8 = some m.cls := findClass_of_methodNamed B.named
  have hlocks := B.notSynchronized
  subst hsz
  have hP := hP.self s.heap.size
  generalize hAe : mA (fun q e => TW cy L tr a κ τ q e ∨ oW ob (L 0 0) tp q e) s.heap.size = A at hP ⊢
  have hA : ∀ q : Nat, s.heap.size ≤ q → A q := fun q h => by rw [← hAe]; exact Or.inr h
  have hS : va_S A s.heap s.heap [] := va_S.rf
  have hl9 := lv_entry ([.ref ob, .int n]) (n := 2) (Nat.le_of_ble_eq_true rfl)
  rw [lg_entry_eq]
  generalize (lg_sl ([.ref ob, .int n]) ++ List.replicate (2 - (lg_sl ([.ref ob, .int n])).length) Slot.unset).toArray = ls at hl9 ⊢
  have hl : lv_has ls 2 [(0, .ref ob), (1, .int n)] := hl9
  refine lv_aload_n hx hb dX8_linksOf_0 rfl (lv_at hl 0 rfl) ?_
  refine lv_iload_n hx hb dX8_linksOf_1 rfl (lv_at hl 1 rfl) ?_
  have hFc := m_free (C := (fun q e => TW cy L tr a κ τ q e ∨ oW ob (L 0 0) tp q e)) hP hS hA (fun _ _ h => h)
  refine va_callr (va_runV (As := [.int n]) (rest := []) ⟨hx, hb, hml, hown, hts⟩ (c_vehicleNumbered l dC dI cy L tr a κ τ ob tp M n s.heap.size hT hw hf) (tp_cwV 1 hts tw_387 tw_389 tw_12 tw_20 tw_390 rfl rfl (by decide +kernel) ⟨Nat.le_of_ble_eq_true rfl, Nat.le_of_ble_eq_true rfl⟩) ⟨m_blind, va_recv hK (hP.one (e := .inr (8, [.ref (L 0 0), .ref tp])) (Or.inr oW_mem)) (ci := 8) (q0 := 0) rfl rfl, fun U hU hW => ⟨rfl, m_pay hK hP hE (fun _ _ h => h) U hU hW⟩⟩ rfl rfl hl.1 rfl (lv_room (Nat.le_of_ble_eq_true rfl)) dX8_linksOf_2 ⟨(Nat.le_of_ble_eq_true rfl), (Nat.le_of_ble_eq_true rfl)⟩) hS (fun q _ h => hFc q h) hFc (fun u r_1 t H1 locs ht hvm hpo hB hz1 hk1 hS => ?_)
  obtain ⟨f_1, hP1⟩ := hB
  subst f_1
  rw [ht] at hP1
  have hP : mw (dC, dI) vwCl A (fun q e => TW cy L tr a κ τ q e ∨ oW ob (L 0 0) tp q e) H1 := hP.join (fun _ _ h => h) hk1 hFc hP1 (fun _ _ h => Or.inl h)
  generalize H1 = H at hP hS ⊢
  clear hP1 hk1 hFc
  refine va_getN (D := (dC, dI)) (ws := [(L 15 n.toNatClampNeg, .inr (7, [.int ((a 15 n.toNatClampNeg) 0), .int ((a 15 n.toNatClampNeg) 1), .int ((a 15 n.toNatClampNeg) 2), .int ((a 15 n.toNatClampNeg) 3), .int ((a 15 n.toNatClampNeg) 4), .int ((a 15 n.toNatClampNeg) 5), .int ((a 15 n.toNatClampNeg) 6), .int ((a 15 n.toNatClampNeg) 7), .int ((a 15 n.toNatClampNeg) 8), .int ((a 15 n.toNatClampNeg) 9), .int ((a 15 n.toNatClampNeg) 10), .int ((a 15 n.toNatClampNeg) 11), .ref (L 16 n.toNatClampNeg)]))]) (ci := 7) (v := .int ((a 15 n.toNatClampNeg) 7)) (C := RX7) (T := TX7) (N := 13) hx hb hts tl_X7 hown hK (hP.one (Or.inl (tw_mem (f := 15) (i := n.toNatClampNeg) (T_lt hw hf) rfl))) 0 rfl rfl 7 (by decide) (va_Nw.use rfl (te_f55 hE)) (fun _ h9 => h9) rfl dX8_linksOf_5 ?_
  refine W.widen (k := 0) (n := 0) (Nat.le_of_ble_eq_true rfl) (Nat.le_of_ble_eq_true rfl) ?_
  have g_1 : ((a 15 n.toNatClampNeg) 7) = a 15 n.toNatClampNeg 7 := by
    first | rfl | assumption | (simp only [])
  exact W.iret (v := (a 15 n.toNatClampNeg) 7) hx hb hr (fun t ht hW => ⟨⟨((a 15 n.toNatClampNeg) 7), ((a 15 n.toNatClampNeg) 7), rfl, rfl, ⟨g_1, by show mw _ _ _ _ t.heap; rw [ht]; exact hP⟩⟩, hS.F ht⟩) hS.2.2 dX8_linksOf_8
set_option maxRecDepth 100000 in
set_option maxHeartbeats 4000000 in
/-- tripOf -/
theorem c_tripOf (l : Launch) (dC : Nat → ClassId) (dI : Nat → Nat → Nat) (cy : Nat → ClassId) (L : Lay) (tr : Option Nat) (a : St) (κ : Kap) (τ : Tau) (ob : Nat) (tp : Nat) (M : Nat) (n : Int32) (sz : Nat) (hT : TL L tr τ) (hw : Wf M a) (hf : ¬ T_no a n) : Met l yX8_tripOf (tp_w yX8_tripOf cX8_tripOf 2 (some .int)) ({ frames := 2, cells := 0, slots := 0, locals := 43 }) (va_Pc [.ref ob, .int n] (mPre dC dI cy (fun q e => TW cy L tr a κ τ q e ∨ oW ob (L 0 0) tp q e) sz)) (va_Qi (fun (r u : Int32) => r = u) (fun (u : Int32) (t : State) => (u = a 15 n.toNatClampNeg 9) ∧ mw (dC, dI) vwCl (mA (fun q e => TW cy L tr a κ τ q e ∨ oW ob (L 0 0) tp q e) sz) (fun q e => TW cy L tr a κ τ q e ∨ oW ob (L 0 0) tp q e) t.heap) (mA (fun q e => TW cy L tr a κ τ q e ∨ oW ob (L 0 0) tp q e) sz)) (0) (0) (mA (fun q e => TW cy L tr a κ τ q e ∨ oW ob (L 0 0) tp q e) sz) := by
  refine Met.ofW (cc := cX8_tripOf) (maxL := 2) (ret := (some .int)) (by decide) rfl ?_
  intro p e s m args below meth c s₁ B hml hv
  obtain ⟨rfl, hsz, hP, hK, hE⟩ := hv
  have hx := B.exec
  have hb := B.bytes
  have hr := B.returns
  have hts0 := atoms_spec (ws := tp_w yX8_tripOf cX8_tripOf 2 (some .int)) B.pre
  have hts : ∀ w ∈ tp_all, w.before _ s = true := fun w h => hts0 w (List.mem_cons_of_mem _ h)
  have hown : s.vm.findClass RX8 = some m.cls := findClass_of_methodNamed B.named
  have hlocks := B.notSynchronized
  subst hsz
  have hP := hP.self s.heap.size
  generalize hAe : mA (fun q e => TW cy L tr a κ τ q e ∨ oW ob (L 0 0) tp q e) s.heap.size = A at hP ⊢
  have hA : ∀ q : Nat, s.heap.size ≤ q → A q := fun q h => by rw [← hAe]; exact Or.inr h
  have hS : va_S A s.heap s.heap [] := va_S.rf
  have hl9 := lv_entry ([.ref ob, .int n]) (n := 2) (Nat.le_of_ble_eq_true rfl)
  rw [lg_entry_eq]
  generalize (lg_sl ([.ref ob, .int n]) ++ List.replicate (2 - (lg_sl ([.ref ob, .int n])).length) Slot.unset).toArray = ls at hl9 ⊢
  have hl : lv_has ls 2 [(0, .ref ob), (1, .int n)] := hl9
  refine lv_aload_n hx hb dX8_tripOf_0 rfl (lv_at hl 0 rfl) ?_
  refine lv_iload_n hx hb dX8_tripOf_1 rfl (lv_at hl 1 rfl) ?_
  have hFc := m_free (C := (fun q e => TW cy L tr a κ τ q e ∨ oW ob (L 0 0) tp q e)) hP hS hA (fun _ _ h => h)
  refine va_callr (va_runV (As := [.int n]) (rest := []) ⟨hx, hb, hml, hown, hts⟩ (c_vehicleNumbered l dC dI cy L tr a κ τ ob tp M n s.heap.size hT hw hf) (tp_cwV 1 hts tw_387 tw_389 tw_12 tw_20 tw_390 rfl rfl (by decide +kernel) ⟨Nat.le_of_ble_eq_true rfl, Nat.le_of_ble_eq_true rfl⟩) ⟨m_blind, va_recv hK (hP.one (e := .inr (8, [.ref (L 0 0), .ref tp])) (Or.inr oW_mem)) (ci := 8) (q0 := 0) rfl rfl, fun U hU hW => ⟨rfl, m_pay hK hP hE (fun _ _ h => h) U hU hW⟩⟩ rfl rfl hl.1 rfl (lv_room (Nat.le_of_ble_eq_true rfl)) dX8_tripOf_2 ⟨(Nat.le_of_ble_eq_true rfl), (Nat.le_of_ble_eq_true rfl)⟩) hS (fun q _ h => hFc q h) hFc (fun u r_1 t H1 locs ht hvm hpo hB hz1 hk1 hS => ?_)
  obtain ⟨f_1, hP1⟩ := hB
  subst f_1
  rw [ht] at hP1
  have hP : mw (dC, dI) vwCl A (fun q e => TW cy L tr a κ τ q e ∨ oW ob (L 0 0) tp q e) H1 := hP.join (fun _ _ h => h) hk1 hFc hP1 (fun _ _ h => Or.inl h)
  generalize H1 = H at hP hS ⊢
  clear hP1 hk1 hFc
  refine va_getN (D := (dC, dI)) (ws := [(L 15 n.toNatClampNeg, .inr (7, [.int ((a 15 n.toNatClampNeg) 0), .int ((a 15 n.toNatClampNeg) 1), .int ((a 15 n.toNatClampNeg) 2), .int ((a 15 n.toNatClampNeg) 3), .int ((a 15 n.toNatClampNeg) 4), .int ((a 15 n.toNatClampNeg) 5), .int ((a 15 n.toNatClampNeg) 6), .int ((a 15 n.toNatClampNeg) 7), .int ((a 15 n.toNatClampNeg) 8), .int ((a 15 n.toNatClampNeg) 9), .int ((a 15 n.toNatClampNeg) 10), .int ((a 15 n.toNatClampNeg) 11), .ref (L 16 n.toNatClampNeg)]))]) (ci := 7) (v := .int ((a 15 n.toNatClampNeg) 9)) (C := RX7) (T := TX7) (N := 13) hx hb hts tl_X7 hown hK (hP.one (Or.inl (tw_mem (f := 15) (i := n.toNatClampNeg) (T_lt hw hf) rfl))) 0 rfl rfl 9 (by decide) (va_Nw.use rfl (te_f57 hE)) (fun _ h9 => h9) rfl dX8_tripOf_5 ?_
  refine W.widen (k := 0) (n := 0) (Nat.le_of_ble_eq_true rfl) (Nat.le_of_ble_eq_true rfl) ?_
  have g_1 : ((a 15 n.toNatClampNeg) 9) = a 15 n.toNatClampNeg 9 := by
    first | rfl | assumption | (simp only [])
  exact W.iret (v := (a 15 n.toNatClampNeg) 9) hx hb hr (fun t ht hW => ⟨⟨((a 15 n.toNatClampNeg) 9), ((a 15 n.toNatClampNeg) 9), rfl, rfl, ⟨g_1, by show mw _ _ _ _ t.heap; rw [ht]; exact hP⟩⟩, hS.F ht⟩) hS.2.2 dX8_tripOf_8
set_option maxRecDepth 100000 in
set_option maxHeartbeats 4000000 in
/-- delayOf -/
theorem c_delayOf (l : Launch) (dC : Nat → ClassId) (dI : Nat → Nat → Nat) (cy : Nat → ClassId) (L : Lay) (tr : Option Nat) (a : St) (κ : Kap) (τ : Tau) (ob : Nat) (tp : Nat) (M : Nat) (n : Int32) (sz : Nat) (hT : TL L tr τ) (hw : Wf M a) (hf : ¬ T_no a n) : Met l yX8_delayOf (tp_w yX8_delayOf cX8_delayOf 2 (some .int)) ({ frames := 2, cells := 0, slots := 0, locals := 43 }) (va_Pc [.ref ob, .int n] (mPre dC dI cy (fun q e => TW cy L tr a κ τ q e ∨ oW ob (L 0 0) tp q e) sz)) (va_Qi (fun (r u : Int32) => r = u) (fun (u : Int32) (t : State) => (u = a 15 n.toNatClampNeg 10) ∧ mw (dC, dI) vwCl (mA (fun q e => TW cy L tr a κ τ q e ∨ oW ob (L 0 0) tp q e) sz) (fun q e => TW cy L tr a κ τ q e ∨ oW ob (L 0 0) tp q e) t.heap) (mA (fun q e => TW cy L tr a κ τ q e ∨ oW ob (L 0 0) tp q e) sz)) (0) (0) (mA (fun q e => TW cy L tr a κ τ q e ∨ oW ob (L 0 0) tp q e) sz) := by
  refine Met.ofW (cc := cX8_delayOf) (maxL := 2) (ret := (some .int)) (by decide) rfl ?_
  intro p e s m args below meth c s₁ B hml hv
  obtain ⟨rfl, hsz, hP, hK, hE⟩ := hv
  have hx := B.exec
  have hb := B.bytes
  have hr := B.returns
  have hts0 := atoms_spec (ws := tp_w yX8_delayOf cX8_delayOf 2 (some .int)) B.pre
  have hts : ∀ w ∈ tp_all, w.before _ s = true := fun w h => hts0 w (List.mem_cons_of_mem _ h)
  have hown : s.vm.findClass RX8 = some m.cls := findClass_of_methodNamed B.named
  have hlocks := B.notSynchronized
  subst hsz
  have hP := hP.self s.heap.size
  generalize hAe : mA (fun q e => TW cy L tr a κ τ q e ∨ oW ob (L 0 0) tp q e) s.heap.size = A at hP ⊢
  have hA : ∀ q : Nat, s.heap.size ≤ q → A q := fun q h => by rw [← hAe]; exact Or.inr h
  have hS : va_S A s.heap s.heap [] := va_S.rf
  have hl9 := lv_entry ([.ref ob, .int n]) (n := 2) (Nat.le_of_ble_eq_true rfl)
  rw [lg_entry_eq]
  generalize (lg_sl ([.ref ob, .int n]) ++ List.replicate (2 - (lg_sl ([.ref ob, .int n])).length) Slot.unset).toArray = ls at hl9 ⊢
  have hl : lv_has ls 2 [(0, .ref ob), (1, .int n)] := hl9
  refine lv_aload_n hx hb dX8_delayOf_0 rfl (lv_at hl 0 rfl) ?_
  refine lv_iload_n hx hb dX8_delayOf_1 rfl (lv_at hl 1 rfl) ?_
  have hFc := m_free (C := (fun q e => TW cy L tr a κ τ q e ∨ oW ob (L 0 0) tp q e)) hP hS hA (fun _ _ h => h)
  refine va_callr (va_runV (As := [.int n]) (rest := []) ⟨hx, hb, hml, hown, hts⟩ (c_vehicleNumbered l dC dI cy L tr a κ τ ob tp M n s.heap.size hT hw hf) (tp_cwV 1 hts tw_387 tw_389 tw_12 tw_20 tw_390 rfl rfl (by decide +kernel) ⟨Nat.le_of_ble_eq_true rfl, Nat.le_of_ble_eq_true rfl⟩) ⟨m_blind, va_recv hK (hP.one (e := .inr (8, [.ref (L 0 0), .ref tp])) (Or.inr oW_mem)) (ci := 8) (q0 := 0) rfl rfl, fun U hU hW => ⟨rfl, m_pay hK hP hE (fun _ _ h => h) U hU hW⟩⟩ rfl rfl hl.1 rfl (lv_room (Nat.le_of_ble_eq_true rfl)) dX8_delayOf_2 ⟨(Nat.le_of_ble_eq_true rfl), (Nat.le_of_ble_eq_true rfl)⟩) hS (fun q _ h => hFc q h) hFc (fun u r_1 t H1 locs ht hvm hpo hB hz1 hk1 hS => ?_)
  obtain ⟨f_1, hP1⟩ := hB
  subst f_1
  rw [ht] at hP1
  have hP : mw (dC, dI) vwCl A (fun q e => TW cy L tr a κ τ q e ∨ oW ob (L 0 0) tp q e) H1 := hP.join (fun _ _ h => h) hk1 hFc hP1 (fun _ _ h => Or.inl h)
  generalize H1 = H at hP hS ⊢
  clear hP1 hk1 hFc
  refine va_getN (D := (dC, dI)) (ws := [(L 15 n.toNatClampNeg, .inr (7, [.int ((a 15 n.toNatClampNeg) 0), .int ((a 15 n.toNatClampNeg) 1), .int ((a 15 n.toNatClampNeg) 2), .int ((a 15 n.toNatClampNeg) 3), .int ((a 15 n.toNatClampNeg) 4), .int ((a 15 n.toNatClampNeg) 5), .int ((a 15 n.toNatClampNeg) 6), .int ((a 15 n.toNatClampNeg) 7), .int ((a 15 n.toNatClampNeg) 8), .int ((a 15 n.toNatClampNeg) 9), .int ((a 15 n.toNatClampNeg) 10), .int ((a 15 n.toNatClampNeg) 11), .ref (L 16 n.toNatClampNeg)]))]) (ci := 7) (v := .int ((a 15 n.toNatClampNeg) 10)) (C := RX7) (T := TX7) (N := 13) hx hb hts tl_X7 hown hK (hP.one (Or.inl (tw_mem (f := 15) (i := n.toNatClampNeg) (T_lt hw hf) rfl))) 0 rfl rfl 10 (by decide) (va_Nw.use rfl (te_f59 hE)) (fun _ h9 => h9) rfl dX8_delayOf_5 ?_
  refine W.widen (k := 0) (n := 0) (Nat.le_of_ble_eq_true rfl) (Nat.le_of_ble_eq_true rfl) ?_
  have g_1 : ((a 15 n.toNatClampNeg) 10) = a 15 n.toNatClampNeg 10 := by
    first | rfl | assumption | (simp only [])
  exact W.iret (v := (a 15 n.toNatClampNeg) 10) hx hb hr (fun t ht hW => ⟨⟨((a 15 n.toNatClampNeg) 10), ((a 15 n.toNatClampNeg) 10), rfl, rfl, ⟨g_1, by show mw _ _ _ _ t.heap; rw [ht]; exact hP⟩⟩, hS.F ht⟩) hS.2.2 dX8_delayOf_8
set_option maxRecDepth 100000 in
set_option maxHeartbeats 4000000 in
/-- vehicleAt -/
theorem c_vehicleAt (l : Launch) (dC : Nat → ClassId) (dI : Nat → Nat → Nat) (cy : Nat → ClassId) (L : Lay) (tr : Option Nat) (a : St) (κ : Kap) (τ : Tau) (ob : Nat) (tp : Nat) (M : Nat) (n : Int32) (pl : Int32) (sz : Nat) (hT : TL L tr τ) (hw : Wf M a) (hf : ¬ G_no a n) (h0 : ¬ pl < 0) (h1 : pl < a 3 n.toNatClampNeg 0) : Met l yX8_vehicleAt (tp_w yX8_vehicleAt cX8_vehicleAt 4 (some .int)) ({ frames := 2, cells := 0, slots := 0, locals := 43 }) (va_Pc [.ref ob, .int n, .int pl] (mPre dC dI cy (fun q e => TW cy L tr a κ τ q e ∨ oW ob (L 0 0) tp q e) sz)) (va_Qi (fun (r u : Int32) => r = u) (fun (u : Int32) (t : State) => (u = R_get (a 3 n.toNatClampNeg 0) (a 4 n.toNatClampNeg) pl) ∧ mw (dC, dI) vwCl (mA (fun q e => TW cy L tr a κ τ q e ∨ oW ob (L 0 0) tp q e) sz) (fun q e => TW cy L tr a κ τ q e ∨ oW ob (L 0 0) tp q e) t.heap) (mA (fun q e => TW cy L tr a κ τ q e ∨ oW ob (L 0 0) tp q e) sz)) (0) (0) (mA (fun q e => TW cy L tr a κ τ q e ∨ oW ob (L 0 0) tp q e) sz) := by
  refine Met.ofW (cc := cX8_vehicleAt) (maxL := 4) (ret := (some .int)) (by decide) rfl ?_
  intro p e s m args below meth c s₁ B hml hv
  obtain ⟨rfl, hsz, hP, hK, hE⟩ := hv
  have hx := B.exec
  have hb := B.bytes
  have hr := B.returns
  have hts0 := atoms_spec (ws := tp_w yX8_vehicleAt cX8_vehicleAt 4 (some .int)) B.pre
  have hts : ∀ w ∈ tp_all, w.before _ s = true := fun w h => hts0 w (List.mem_cons_of_mem _ h)
  have hown : s.vm.findClass RX8 = some m.cls := findClass_of_methodNamed B.named
  have hlocks := B.notSynchronized
  subst hsz
  have hP := hP.self s.heap.size
  generalize hAe : mA (fun q e => TW cy L tr a κ τ q e ∨ oW ob (L 0 0) tp q e) s.heap.size = A at hP ⊢
  have hA : ∀ q : Nat, s.heap.size ≤ q → A q := fun q h => by rw [← hAe]; exact Or.inr h
  have hS : va_S A s.heap s.heap [] := va_S.rf
  have hl9 := lv_entry ([.ref ob, .int n, .int pl]) (n := 4) (Nat.le_of_ble_eq_true rfl)
  rw [lg_entry_eq]
  generalize (lg_sl ([.ref ob, .int n, .int pl]) ++ List.replicate (4 - (lg_sl ([.ref ob, .int n, .int pl])).length) Slot.unset).toArray = ls at hl9 ⊢
  have hl : lv_has ls 4 [(0, .ref ob), (1, .int n), (2, .int pl)] := hl9
  refine lv_aload_n hx hb dX8_vehicleAt_0 rfl (lv_at hl 0 rfl) ?_
  refine lv_iload_n hx hb dX8_vehicleAt_1 rfl (lv_at hl 1 rfl) ?_
  have hFc := m_free (C := (fun q e => TW cy L tr a κ τ q e ∨ oW ob (L 0 0) tp q e)) hP hS hA (fun _ _ h => h)
  refine va_callr (va_runV (As := [.int n]) (rest := []) ⟨hx, hb, hml, hown, hts⟩ (c_linkNumbered l dC dI cy L tr a κ τ ob tp M n s.heap.size hT hw hf) (tp_cwV 1 hts tw_122 tw_124 tw_1 tw_20 tw_126 rfl rfl (by decide +kernel) ⟨Nat.le_of_ble_eq_true rfl, Nat.le_of_ble_eq_true rfl⟩) ⟨m_blind, va_recv hK (hP.one (e := .inr (8, [.ref (L 0 0), .ref tp])) (Or.inr oW_mem)) (ci := 8) (q0 := 0) rfl rfl, fun U hU hW => ⟨rfl, m_pay hK hP hE (fun _ _ h => h) U hU hW⟩⟩ rfl rfl hl.1 rfl (lv_room (Nat.le_of_ble_eq_true rfl)) dX8_vehicleAt_2 ⟨(Nat.le_of_ble_eq_true rfl), (Nat.le_of_ble_eq_true rfl)⟩) hS (fun q _ h => hFc q h) hFc (fun u r_1 t H1 locs ht hvm hpo hB hz1 hk1 hS => ?_)
  obtain ⟨f_1, hP1⟩ := hB
  subst f_1
  rw [ht] at hP1
  have hP : mw (dC, dI) vwCl A (fun q e => TW cy L tr a κ τ q e ∨ oW ob (L 0 0) tp q e) H1 := hP.join (fun _ _ h => h) hk1 hFc hP1 (fun _ _ h => Or.inl h)
  generalize H1 = H at hP hS ⊢
  clear hP1 hk1 hFc
  refine va_getN (D := (dC, dI)) (ws := [(L 2 n.toNatClampNeg, .inr (1, [.int ((a 2 n.toNatClampNeg) 0), .int ((a 2 n.toNatClampNeg) 1), .int ((a 2 n.toNatClampNeg) 2), .int ((a 2 n.toNatClampNeg) 3), .int ((a 2 n.toNatClampNeg) 4), .int ((a 2 n.toNatClampNeg) 5), .int ((a 2 n.toNatClampNeg) 6), .int ((a 2 n.toNatClampNeg) 7), .int ((a 2 n.toNatClampNeg) 8), .ref (L 3 n.toNatClampNeg), .ref (L 5 n.toNatClampNeg), .int ((a 2 n.toNatClampNeg) 9), .int ((a 2 n.toNatClampNeg) 10), .int ((a 2 n.toNatClampNeg) 11), .int ((a 2 n.toNatClampNeg) 12), .ref (L 7 n.toNatClampNeg)]))]) (ci := 1) (v := .ref (L 3 n.toNatClampNeg)) (C := RX1) (T := TX1) (N := 16) hx hb hts tl_X1 hown hK (hP.one (Or.inl (tw_mem (f := 2) (i := n.toNatClampNeg) (G_lt hw hf) rfl))) 0 rfl rfl 9 (by decide) (va_Nw.use rfl (te_f18 hE)) (fun _ h9 => h9) rfl dX8_vehicleAt_5 ?_
  refine lv_astore_n (lv' := [(3, .ref (L 3 n.toNatClampNeg)), (0, .ref ob), (1, .int n), (2, .int pl)]) hx hb dX8_vehicleAt_8 rfl hl (by decide) rfl (fun ls hl => ?_)
  refine lv_iload_n hx hb dX8_vehicleAt_9 rfl (lv_at hl 3 rfl) ?_
  refine lv_if_lt (tgt := 21) hx hb dX8_vehicleAt_10 (by decide) (fun c_1 => absurd c_1 h0) (fun _ => ?_)
  refine lv_iload_n hx hb dX8_vehicleAt_13 rfl (lv_at hl 3 rfl) ?_
  refine lv_aload_n hx hb dX8_vehicleAt_14 rfl (lv_at hl 0 rfl) ?_
  refine va_getN (D := (dC, dI)) (ws := [(L 3 n.toNatClampNeg, .inr (3, [.ref (L 4 n.toNatClampNeg), .int ((a 3 n.toNatClampNeg) 0)]))]) (ci := 3) (v := .int ((a 3 n.toNatClampNeg) 0)) (C := RX3) (T := TX3) (N := 2) hx hb hts tl_X3 hown hK (hP.one (Or.inl (tw_mem (f := 3) (i := n.toNatClampNeg) (G_lt hw hf) rfl))) 0 rfl rfl 1 (by decide) (va_Nw.use rfl (te_f1 hE)) (fun _ h9 => h9) rfl dX8_vehicleAt_15 ?_
  refine lv_icmp_lt (tgt := 31) hx hb dX8_vehicleAt_18 (by decide) (fun _ => ?_) (fun c_2 => absurd h1 c_2)
  refine lv_aload_n hx hb dX8_vehicleAt_31 rfl (lv_at hl 0 rfl) ?_
  refine lv_iload_n hx hb dX8_vehicleAt_32 rfl (lv_at hl 3 rfl) ?_
  have hFc := m_free (C := (TW cy L tr a κ τ)) hP hS hA (fun _ _ h => (Or.inl h))
  refine va_calli (va_runV (As := [.int pl]) (rest := []) ⟨hx, hb, hml, hown, hts⟩ (c_Row_get_row l dC dI cy L tr a κ τ n.toNatClampNeg pl H.size hT (G_lt hw hf) (hw.2.1 _ (G_lt hw hf)).2.2.2.2.1.2) (tp_cwV 1 hts tw_440 tw_187 tw_188 tw_24 tw_189 rfl rfl (by decide +kernel) ⟨Nat.le_of_ble_eq_true rfl, Nat.le_of_ble_eq_true rfl⟩) ⟨m_blind, va_recv hK (hP.one (e := .inr (3, [.ref (L 4 n.toNatClampNeg), .int ((a 3 n.toNatClampNeg) 0)])) (Or.inl (tw_mem (f := 3) (i := n.toNatClampNeg) (G_lt hw hf) rfl))) (ci := 3) (q0 := 0) rfl rfl, fun U hU hW => ⟨rfl, m_pay hK hP hE (fun _ _ h => (Or.inl h)) U hU hW⟩⟩ rfl rfl hl.1 rfl (lv_room (Nat.le_of_ble_eq_true rfl)) dX8_vehicleAt_33 ⟨(Nat.le_of_ble_eq_true rfl), (Nat.le_of_ble_eq_true rfl)⟩) hS (fun q _ h => hFc q h) hFc (fun r_2 u t H1 locs ht hvm hpo hB hz1 hk1 hS => ?_)
  obtain rfl := hpo
  obtain ⟨f_2, hP1⟩ := hB
  subst f_2
  rw [ht] at hP1
  have hP : mw (dC, dI) vwCl A (fun q e => TW cy L tr a κ τ q e ∨ oW ob (L 0 0) tp q e) H1 := hP.join (fun _ _ h => (Or.inl h)) hk1 hFc hP1 (fun q e h => (h.elim (fun h => Or.inl h) (fun h => Or.inr ⟨(Or.inr h), fun y hy => ow_dis hP (fun _ _ h => (Or.inl h)) (fun _ _ h => (Or.inr h)) h hy⟩)))
  generalize H1 = H at hP hS ⊢
  clear hP1 hk1 hFc
  refine W.widen (k := 0) (n := 0) (Nat.le_of_ble_eq_true rfl) (Nat.le_of_ble_eq_true rfl) ?_
  have g_1 : (R_get (a 3 n.toNatClampNeg 0) (a 4 n.toNatClampNeg) pl) = R_get (a 3 n.toNatClampNeg 0) (a 4 n.toNatClampNeg) pl := by
    first | rfl | assumption | (simp only [])
  exact W.iret (v := R_get (a 3 n.toNatClampNeg 0) (a 4 n.toNatClampNeg) pl) hx hb hr (fun t ht hW => ⟨⟨(R_get (a 3 n.toNatClampNeg 0) (a 4 n.toNatClampNeg) pl), (R_get (a 3 n.toNatClampNeg 0) (a 4 n.toNatClampNeg) pl), rfl, rfl, ⟨g_1, by show mw _ _ _ _ t.heap; rw [ht]; exact hP⟩⟩, hS.F ht⟩) hS.2.2 dX8_vehicleAt_36
set_option maxRecDepth 100000 in
set_option maxHeartbeats 4000000 in
/-- queue -/
theorem c_queue (l : Launch) (dC : Nat → ClassId) (dI : Nat → Nat → Nat) (cy : Nat → ClassId) (L : Lay) (tr : Option Nat) (a : St) (κ : Kap) (τ : Tau) (ob : Nat) (tp : Nat) (M : Nat) (n : Int32) (sz : Nat) (hT : TL L tr τ) (hw : Wf M a) (hf : ¬ G_no a n) : Met l yX8_queue (tp_w yX8_queue cX8_queue 2 (some .int)) ({ frames := 2, cells := 0, slots := 0, locals := 43 }) (va_Pc [.ref ob, .int n] (mPre dC dI cy (fun q e => TW cy L tr a κ τ q e ∨ oW ob (L 0 0) tp q e) sz)) (va_Qi (fun (r u : Int32) => r = u) (fun (u : Int32) (t : State) => (u = L_q a n.toNatClampNeg (a 0 0 0)) ∧ mw (dC, dI) vwCl (mA (fun q e => TW cy L tr a κ τ q e ∨ oW ob (L 0 0) tp q e) sz) (fun q e => TW cy L tr a κ τ q e ∨ oW ob (L 0 0) tp q e) t.heap) (mA (fun q e => TW cy L tr a κ τ q e ∨ oW ob (L 0 0) tp q e) sz)) (0) (0) (mA (fun q e => TW cy L tr a κ τ q e ∨ oW ob (L 0 0) tp q e) sz) := by
  refine Met.ofW (cc := cX8_queue) (maxL := 2) (ret := (some .int)) (by decide) rfl ?_
  intro p e s m args below meth c s₁ B hml hv
  obtain ⟨rfl, hsz, hP, hK, hE⟩ := hv
  have hx := B.exec
  have hb := B.bytes
  have hr := B.returns
  have hts0 := atoms_spec (ws := tp_w yX8_queue cX8_queue 2 (some .int)) B.pre
  have hts : ∀ w ∈ tp_all, w.before _ s = true := fun w h => hts0 w (List.mem_cons_of_mem _ h)
  have hown : s.vm.findClass RX8 = some m.cls := findClass_of_methodNamed B.named
  have hlocks := B.notSynchronized
  subst hsz
  have hP := hP.self s.heap.size
  generalize hAe : mA (fun q e => TW cy L tr a κ τ q e ∨ oW ob (L 0 0) tp q e) s.heap.size = A at hP ⊢
  have hA : ∀ q : Nat, s.heap.size ≤ q → A q := fun q h => by rw [← hAe]; exact Or.inr h
  have hS : va_S A s.heap s.heap [] := va_S.rf
  have hl9 := lv_entry ([.ref ob, .int n]) (n := 2) (Nat.le_of_ble_eq_true rfl)
  rw [lg_entry_eq]
  generalize (lg_sl ([.ref ob, .int n]) ++ List.replicate (2 - (lg_sl ([.ref ob, .int n])).length) Slot.unset).toArray = ls at hl9 ⊢
  have hl : lv_has ls 2 [(0, .ref ob), (1, .int n)] := hl9
  refine lv_aload_n hx hb dX8_queue_0 rfl (lv_at hl 0 rfl) ?_
  refine lv_iload_n hx hb dX8_queue_1 rfl (lv_at hl 1 rfl) ?_
  have hFc := m_free (C := (fun q e => TW cy L tr a κ τ q e ∨ oW ob (L 0 0) tp q e)) hP hS hA (fun _ _ h => h)
  refine va_callr (va_runV (As := [.int n]) (rest := []) ⟨hx, hb, hml, hown, hts⟩ (c_linkNumbered l dC dI cy L tr a κ τ ob tp M n s.heap.size hT hw hf) (tp_cwV 1 hts tw_122 tw_124 tw_1 tw_20 tw_126 rfl rfl (by decide +kernel) ⟨Nat.le_of_ble_eq_true rfl, Nat.le_of_ble_eq_true rfl⟩) ⟨m_blind, va_recv hK (hP.one (e := .inr (8, [.ref (L 0 0), .ref tp])) (Or.inr oW_mem)) (ci := 8) (q0 := 0) rfl rfl, fun U hU hW => ⟨rfl, m_pay hK hP hE (fun _ _ h => h) U hU hW⟩⟩ rfl rfl hl.1 rfl (lv_room (Nat.le_of_ble_eq_true rfl)) dX8_queue_2 ⟨(Nat.le_of_ble_eq_true rfl), (Nat.le_of_ble_eq_true rfl)⟩) hS (fun q _ h => hFc q h) hFc (fun u r_1 t H1 locs ht hvm hpo hB hz1 hk1 hS => ?_)
  obtain ⟨f_1, hP1⟩ := hB
  subst f_1
  rw [ht] at hP1
  have hP : mw (dC, dI) vwCl A (fun q e => TW cy L tr a κ τ q e ∨ oW ob (L 0 0) tp q e) H1 := hP.join (fun _ _ h => h) hk1 hFc hP1 (fun _ _ h => Or.inl h)
  generalize H1 = H at hP hS ⊢
  clear hP1 hk1 hFc
  refine lv_aload_n hx hb dX8_queue_5 rfl (lv_at hl 0 rfl) ?_
  refine va_get (D := (dC, dI)) (ws := [(ob, .inr (8, [.ref (L 0 0), .ref tp]))]) (ci := 8) (v := .ref (L 0 0)) (C := RX8) (T := TX8) (N := 2) hx hb hts tl_X8 hown hK (hP.one (Or.inr oW_mem)) 0 rfl rfl 0 (by decide) (hts _ tw_922) (fun _ h9 => h9) rfl dX8_queue_6 ?_
  refine va_getN (D := (dC, dI)) (ws := [(L 0 0, .inr (5, [.ref (L 1 0), .ref (L 20 0), .ref (L 21 0), .ref (L 22 0), .ref (L 23 0), va_rf tr, .int ((a 0 0) 0), .int ((a 0 0) 1), .int ((a 0 0) 2), .int ((a 0 0) 3), .int ((a 0 0) 4), .int ((a 0 0) 5)]))]) (ci := 5) (v := .int ((a 0 0) 0)) (C := RX5) (T := TX5) (N := 12) hx hb hts tl_X5 hown hK (hP.one (Or.inl (tw_mem (f := 0) (i := 0) (by decide) rfl))) 0 rfl rfl 6 (by decide) (va_Nw.use rfl (te_f66 hE)) (fun _ h9 => h9) rfl dX8_queue_9 ?_
  have hFc := m_free (C := (TW cy L tr a κ τ)) hP hS hA (fun _ _ h => (Or.inl h))
  refine va_calli (va_runV (As := [.int ((a 0 0) 0)]) (rest := []) ⟨hx, hb, hml, hown, hts⟩ (c_Link_queueIn l dC dI cy L tr a κ τ n.toNatClampNeg ((a 0 0) 0) H.size hT (G_lt hw hf) (hw.2.1 _ (G_lt hw hf)).2.2.2.2.2.1 (hw.2.1 _ (G_lt hw hf)).2.2.2.2.2.2) (tp_cwV 1 hts tw_445 tw_183 tw_184 tw_23 tw_185 rfl rfl (by decide +kernel) ⟨Nat.le_of_ble_eq_true rfl, Nat.le_of_ble_eq_true rfl⟩) ⟨m_blind, va_recv hK (hP.one (e := .inr (1, [.int ((a 2 n.toNatClampNeg) 0), .int ((a 2 n.toNatClampNeg) 1), .int ((a 2 n.toNatClampNeg) 2), .int ((a 2 n.toNatClampNeg) 3), .int ((a 2 n.toNatClampNeg) 4), .int ((a 2 n.toNatClampNeg) 5), .int ((a 2 n.toNatClampNeg) 6), .int ((a 2 n.toNatClampNeg) 7), .int ((a 2 n.toNatClampNeg) 8), .ref (L 3 n.toNatClampNeg), .ref (L 5 n.toNatClampNeg), .int ((a 2 n.toNatClampNeg) 9), .int ((a 2 n.toNatClampNeg) 10), .int ((a 2 n.toNatClampNeg) 11), .int ((a 2 n.toNatClampNeg) 12), .ref (L 7 n.toNatClampNeg)])) (Or.inl (tw_mem (f := 2) (i := n.toNatClampNeg) (G_lt hw hf) rfl))) (ci := 1) (q0 := 0) rfl rfl, fun U hU hW => ⟨rfl, m_pay hK hP hE (fun _ _ h => (Or.inl h)) U hU hW⟩⟩ rfl rfl hl.1 rfl (lv_room (Nat.le_of_ble_eq_true rfl)) dX8_queue_12 ⟨(Nat.le_of_ble_eq_true rfl), (Nat.le_of_ble_eq_true rfl)⟩) hS (fun q _ h => hFc q h) hFc (fun r_2 u t H1 locs ht hvm hpo hB hz1 hk1 hS => ?_)
  obtain rfl := hpo
  obtain ⟨f_2, hP1⟩ := hB
  subst f_2
  rw [ht] at hP1
  have hP : mw (dC, dI) vwCl A (fun q e => TW cy L tr a κ τ q e ∨ oW ob (L 0 0) tp q e) H1 := hP.join (fun _ _ h => (Or.inl h)) hk1 hFc hP1 (fun q e h => (h.elim (fun h => Or.inl h) (fun h => Or.inr ⟨(Or.inr h), fun y hy => ow_dis hP (fun _ _ h => (Or.inl h)) (fun _ _ h => (Or.inr h)) h hy⟩)))
  generalize H1 = H at hP hS ⊢
  clear hP1 hk1 hFc
  refine W.widen (k := 0) (n := 0) (Nat.le_of_ble_eq_true rfl) (Nat.le_of_ble_eq_true rfl) ?_
  have g_1 : (L_q a n.toNatClampNeg ((a 0 0) 0)) = L_q a n.toNatClampNeg (a 0 0 0) := by
    first | rfl | assumption | (simp only [])
  exact W.iret (v := L_q a n.toNatClampNeg ((a 0 0) 0)) hx hb hr (fun t ht hW => ⟨⟨(L_q a n.toNatClampNeg ((a 0 0) 0)), (L_q a n.toNatClampNeg ((a 0 0) 0)), rfl, rfl, ⟨g_1, by show mw _ _ _ _ t.heap; rw [ht]; exact hP⟩⟩, hS.F ht⟩) hS.2.2 dX8_queue_15
set_option maxRecDepth 100000 in
set_option maxHeartbeats 4000000 in
/-- turned -/
theorem c_turned (l : Launch) (dC : Nat → ClassId) (dI : Nat → Nat → Nat) (cy : Nat → ClassId) (L : Lay) (tr : Option Nat) (a : St) (κ : Kap) (τ : Tau) (ob : Nat) (tp : Nat) (M : Nat) (n : Int32) (nx : Int32) (sz : Nat) (hT : TL L tr τ) (hw : Wf M a) (hf : ¬ G_no a n) (hg : ¬ G_no a nx) : Met l yX8_turned (tp_w yX8_turned cX8_turned 4 (some .int)) ({ frames := 2, cells := 0, slots := 0, locals := 43 }) (va_Pc [.ref ob, .int n, .int nx] (mPre dC dI cy (fun q e => TW cy L tr a κ τ q e ∨ oW ob (L 0 0) tp q e) sz)) (va_Qi (fun (r u : Int32) => r = u) (fun (u : Int32) (t : State) => (u = a 7 n.toNatClampNeg nx.toNatClampNeg) ∧ mw (dC, dI) vwCl (mA (fun q e => TW cy L tr a κ τ q e ∨ oW ob (L 0 0) tp q e) sz) (fun q e => TW cy L tr a κ τ q e ∨ oW ob (L 0 0) tp q e) t.heap) (mA (fun q e => TW cy L tr a κ τ q e ∨ oW ob (L 0 0) tp q e) sz)) (0) (0) (mA (fun q e => TW cy L tr a κ τ q e ∨ oW ob (L 0 0) tp q e) sz) := by
  refine Met.ofW (cc := cX8_turned) (maxL := 4) (ret := (some .int)) (by decide) rfl ?_
  intro p e s m args below meth c s₁ B hml hv
  obtain ⟨rfl, hsz, hP, hK, hE⟩ := hv
  have hx := B.exec
  have hb := B.bytes
  have hr := B.returns
  have hts0 := atoms_spec (ws := tp_w yX8_turned cX8_turned 4 (some .int)) B.pre
  have hts : ∀ w ∈ tp_all, w.before _ s = true := fun w h => hts0 w (List.mem_cons_of_mem _ h)
  have hown : s.vm.findClass RX8 = some m.cls := findClass_of_methodNamed B.named
  have hlocks := B.notSynchronized
  subst hsz
  have hP := hP.self s.heap.size
  generalize hAe : mA (fun q e => TW cy L tr a κ τ q e ∨ oW ob (L 0 0) tp q e) s.heap.size = A at hP ⊢
  have hA : ∀ q : Nat, s.heap.size ≤ q → A q := fun q h => by rw [← hAe]; exact Or.inr h
  have hS : va_S A s.heap s.heap [] := va_S.rf
  have hl9 := lv_entry ([.ref ob, .int n, .int nx]) (n := 4) (Nat.le_of_ble_eq_true rfl)
  rw [lg_entry_eq]
  generalize (lg_sl ([.ref ob, .int n, .int nx]) ++ List.replicate (4 - (lg_sl ([.ref ob, .int n, .int nx])).length) Slot.unset).toArray = ls at hl9 ⊢
  have hl : lv_has ls 4 [(0, .ref ob), (1, .int n), (2, .int nx)] := hl9
  refine lv_aload_n hx hb dX8_turned_0 rfl (lv_at hl 0 rfl) ?_
  refine lv_iload_n hx hb dX8_turned_1 rfl (lv_at hl 1 rfl) ?_
  have hFc := m_free (C := (fun q e => TW cy L tr a κ τ q e ∨ oW ob (L 0 0) tp q e)) hP hS hA (fun _ _ h => h)
  refine va_callr (va_runV (As := [.int n]) (rest := []) ⟨hx, hb, hml, hown, hts⟩ (c_linkNumbered l dC dI cy L tr a κ τ ob tp M n s.heap.size hT hw hf) (tp_cwV 1 hts tw_122 tw_124 tw_1 tw_20 tw_126 rfl rfl (by decide +kernel) ⟨Nat.le_of_ble_eq_true rfl, Nat.le_of_ble_eq_true rfl⟩) ⟨m_blind, va_recv hK (hP.one (e := .inr (8, [.ref (L 0 0), .ref tp])) (Or.inr oW_mem)) (ci := 8) (q0 := 0) rfl rfl, fun U hU hW => ⟨rfl, m_pay hK hP hE (fun _ _ h => h) U hU hW⟩⟩ rfl rfl hl.1 rfl (lv_room (Nat.le_of_ble_eq_true rfl)) dX8_turned_2 ⟨(Nat.le_of_ble_eq_true rfl), (Nat.le_of_ble_eq_true rfl)⟩) hS (fun q _ h => hFc q h) hFc (fun u r_1 t H1 locs ht hvm hpo hB hz1 hk1 hS => ?_)
  obtain ⟨f_1, hP1⟩ := hB
  subst f_1
  rw [ht] at hP1
  have hP : mw (dC, dI) vwCl A (fun q e => TW cy L tr a κ τ q e ∨ oW ob (L 0 0) tp q e) H1 := hP.join (fun _ _ h => h) hk1 hFc hP1 (fun _ _ h => Or.inl h)
  generalize H1 = H at hP hS ⊢
  clear hP1 hk1 hFc
  refine lv_astore_n (lv' := [(3, .ref (L 2 n.toNatClampNeg)), (0, .ref ob), (1, .int n), (2, .int nx)]) hx hb dX8_turned_5 rfl hl (by decide) rfl (fun ls hl => ?_)
  refine lv_aload_n hx hb dX8_turned_6 rfl (lv_at hl 1 rfl) ?_
  refine lv_iload_n hx hb dX8_turned_7 rfl (lv_at hl 3 rfl) ?_
  have hFc := m_free (C := (fun q e => TW cy L tr a κ τ q e ∨ oW ob (L 0 0) tp q e)) hP hS hA (fun _ _ h => h)
  refine va_callr (va_runV (As := [.int nx]) (rest := []) ⟨hx, hb, hml, hown, hts⟩ (c_linkNumbered l dC dI cy L tr a κ τ ob tp M nx H.size hT hw hg) (tp_cwV 1 hts tw_122 tw_124 tw_1 tw_20 tw_126 rfl rfl (by decide +kernel) ⟨Nat.le_of_ble_eq_true rfl, Nat.le_of_ble_eq_true rfl⟩) ⟨m_blind, va_recv hK (hP.one (e := .inr (8, [.ref (L 0 0), .ref tp])) (Or.inr oW_mem)) (ci := 8) (q0 := 0) rfl rfl, fun U hU hW => ⟨rfl, m_pay hK hP hE (fun _ _ h => h) U hU hW⟩⟩ rfl rfl hl.1 rfl (lv_room (Nat.le_of_ble_eq_true rfl)) dX8_turned_8 ⟨(Nat.le_of_ble_eq_true rfl), (Nat.le_of_ble_eq_true rfl)⟩) hS (fun q _ h => hFc q h) hFc (fun u r_2 t H1 locs ht hvm hpo hB hz1 hk1 hS => ?_)
  obtain ⟨f_2, hP1⟩ := hB
  subst f_2
  rw [ht] at hP1
  have hP : mw (dC, dI) vwCl A (fun q e => TW cy L tr a κ τ q e ∨ oW ob (L 0 0) tp q e) H1 := hP.join (fun _ _ h => h) hk1 hFc hP1 (fun _ _ h => Or.inl h)
  generalize H1 = H at hP hS ⊢
  clear hP1 hk1 hFc
  refine lv_pop hx hb dX8_turned_11 rfl ?_
  refine lv_aload_n hx hb dX8_turned_12 rfl (lv_at hl 0 rfl) ?_
  refine va_getN (D := (dC, dI)) (ws := [(L 2 n.toNatClampNeg, .inr (1, [.int ((a 2 n.toNatClampNeg) 0), .int ((a 2 n.toNatClampNeg) 1), .int ((a 2 n.toNatClampNeg) 2), .int ((a 2 n.toNatClampNeg) 3), .int ((a 2 n.toNatClampNeg) 4), .int ((a 2 n.toNatClampNeg) 5), .int ((a 2 n.toNatClampNeg) 6), .int ((a 2 n.toNatClampNeg) 7), .int ((a 2 n.toNatClampNeg) 8), .ref (L 3 n.toNatClampNeg), .ref (L 5 n.toNatClampNeg), .int ((a 2 n.toNatClampNeg) 9), .int ((a 2 n.toNatClampNeg) 10), .int ((a 2 n.toNatClampNeg) 11), .int ((a 2 n.toNatClampNeg) 12), .ref (L 7 n.toNatClampNeg)]))]) (ci := 1) (v := .ref (L 7 n.toNatClampNeg)) (C := RX1) (T := TX1) (N := 16) hx hb hts tl_X1 hown hK (hP.one (Or.inl (tw_mem (f := 2) (i := n.toNatClampNeg) (G_lt hw hf) rfl))) 0 rfl rfl 15 (by decide) (va_Nw.use rfl (te_f23 hE)) (fun _ h9 => h9) rfl dX8_turned_13 ?_
  refine lv_iload_n hx hb dX8_turned_16 rfl (lv_at hl 3 rfl) ?_
  have j_1 : (nx : Int32).toNatClampNeg = nx.toNatClampNeg := m_cl (m_nI (fun h => hg (Or.inl h))) (G_lt hw hg) (by decide)
  refine va_iald hx hb hK (ws := [(L 7 n.toNatClampNeg, .inl (cy 0, 24, .inl (a 7 n.toNatClampNeg)))]) (hP.one (Or.inl (tw_mem (f := 7) (i := n.toNatClampNeg) (G_lt hw hf) rfl))) 0 0 rfl rfl (m_in (m_nI (fun h => hg (Or.inl h))) (G_lt hw hg) (by decide)) dX8_turned_17 ?_
  refine W.eq (g2 := F0 m 18 ls [.int ((a 7 n.toNatClampNeg) nx.toNatClampNeg)]) (by first | (rw [j_1]; done) | (rw [j_1]; rfl)) ?_
  refine W.widen (k := 0) (n := 0) (Nat.le_of_ble_eq_true rfl) (Nat.le_of_ble_eq_true rfl) ?_
  have g_1 : ((a 7 n.toNatClampNeg) nx.toNatClampNeg) = a 7 n.toNatClampNeg nx.toNatClampNeg := by
    first | rfl | assumption | (simp only [])
  exact W.iret (v := (a 7 n.toNatClampNeg) nx.toNatClampNeg) hx hb hr (fun t ht hW => ⟨⟨((a 7 n.toNatClampNeg) nx.toNatClampNeg), ((a 7 n.toNatClampNeg) nx.toNatClampNeg), rfl, rfl, ⟨g_1, by show mw _ _ _ _ t.heap; rw [ht]; exact hP⟩⟩, hS.F ht⟩) hS.2.2 dX8_turned_18
set_option maxRecDepth 100000 in
set_option maxHeartbeats 4000000 in
/-- count -/
theorem c_count (l : Launch) (dC : Nat → ClassId) (dI : Nat → Nat → Nat) (cy : Nat → ClassId) (L : Lay) (tr : Option Nat) (a : St) (κ : Kap) (τ : Tau) (ob : Nat) (tp : Nat) (M : Nat) (n : Int32) (k : Nat) (sz : Nat) (hT : TL L tr τ) (hw : Wf M a) (hf : ¬ G_no a n) (hk : k < 4) : Met l yX8_count (tp_w yX8_count cX8_count 4 (some .int)) ({ frames := 2, cells := 0, slots := 0, locals := 43 }) (va_Pc [.ref ob, .int n, .int (nI k)] (mPre dC dI cy (fun q e => TW cy L tr a κ τ q e ∨ oW ob (L 0 0) tp q e) sz)) (va_Qi (fun (r u : Int32) => r = u) (fun (u : Int32) (t : State) => (u = a 2 n.toNatClampNeg (9 + k)) ∧ mw (dC, dI) vwCl (mA (fun q e => TW cy L tr a κ τ q e ∨ oW ob (L 0 0) tp q e) sz) (fun q e => TW cy L tr a κ τ q e ∨ oW ob (L 0 0) tp q e) t.heap) (mA (fun q e => TW cy L tr a κ τ q e ∨ oW ob (L 0 0) tp q e) sz)) (0) (0) (mA (fun q e => TW cy L tr a κ τ q e ∨ oW ob (L 0 0) tp q e) sz) := by
  refine Met.ofW (cc := cX8_count) (maxL := 4) (ret := (some .int)) (by decide) rfl ?_
  intro p e s m args below meth c s₁ B hml hv
  obtain ⟨rfl, hsz, hP, hK, hE⟩ := hv
  have hx := B.exec
  have hb := B.bytes
  have hr := B.returns
  have hts0 := atoms_spec (ws := tp_w yX8_count cX8_count 4 (some .int)) B.pre
  have hts : ∀ w ∈ tp_all, w.before _ s = true := fun w h => hts0 w (List.mem_cons_of_mem _ h)
  have hown : s.vm.findClass RX8 = some m.cls := findClass_of_methodNamed B.named
  have hlocks := B.notSynchronized
  subst hsz
  have hP := hP.self s.heap.size
  generalize hAe : mA (fun q e => TW cy L tr a κ τ q e ∨ oW ob (L 0 0) tp q e) s.heap.size = A at hP ⊢
  have hA : ∀ q : Nat, s.heap.size ≤ q → A q := fun q h => by rw [← hAe]; exact Or.inr h
  have hS : va_S A s.heap s.heap [] := va_S.rf
  have hl9 := lv_entry ([.ref ob, .int n, .int (nI k)]) (n := 4) (Nat.le_of_ble_eq_true rfl)
  rw [lg_entry_eq]
  generalize (lg_sl ([.ref ob, .int n, .int (nI k)]) ++ List.replicate (4 - (lg_sl ([.ref ob, .int n, .int (nI k)])).length) Slot.unset).toArray = ls at hl9 ⊢
  have hl : lv_has ls 4 [(0, .ref ob), (1, .int n), (2, .int (nI k))] := hl9
  refine lv_aload_n hx hb dX8_count_0 rfl (lv_at hl 0 rfl) ?_
  refine lv_iload_n hx hb dX8_count_1 rfl (lv_at hl 1 rfl) ?_
  have hFc := m_free (C := (fun q e => TW cy L tr a κ τ q e ∨ oW ob (L 0 0) tp q e)) hP hS hA (fun _ _ h => h)
  refine va_callr (va_runV (As := [.int n]) (rest := []) ⟨hx, hb, hml, hown, hts⟩ (c_linkNumbered l dC dI cy L tr a κ τ ob tp M n s.heap.size hT hw hf) (tp_cwV 1 hts tw_122 tw_124 tw_1 tw_20 tw_126 rfl rfl (by decide +kernel) ⟨Nat.le_of_ble_eq_true rfl, Nat.le_of_ble_eq_true rfl⟩) ⟨m_blind, va_recv hK (hP.one (e := .inr (8, [.ref (L 0 0), .ref tp])) (Or.inr oW_mem)) (ci := 8) (q0 := 0) rfl rfl, fun U hU hW => ⟨rfl, m_pay hK hP hE (fun _ _ h => h) U hU hW⟩⟩ rfl rfl hl.1 rfl (lv_room (Nat.le_of_ble_eq_true rfl)) dX8_count_2 ⟨(Nat.le_of_ble_eq_true rfl), (Nat.le_of_ble_eq_true rfl)⟩) hS (fun q _ h => hFc q h) hFc (fun u r_1 t H1 locs ht hvm hpo hB hz1 hk1 hS => ?_)
  obtain ⟨f_1, hP1⟩ := hB
  subst f_1
  rw [ht] at hP1
  have hP : mw (dC, dI) vwCl A (fun q e => TW cy L tr a κ τ q e ∨ oW ob (L 0 0) tp q e) H1 := hP.join (fun _ _ h => h) hk1 hFc hP1 (fun _ _ h => Or.inl h)
  generalize H1 = H at hP hS ⊢
  clear hP1 hk1 hFc
  refine lv_astore_n (lv' := [(3, .ref (L 2 n.toNatClampNeg)), (0, .ref ob), (1, .int n), (2, .int (nI k))]) hx hb dX8_count_5 rfl hl (by decide) rfl (fun ls hl => ?_)
  refine lv_iload_n hx hb dX8_count_6 rfl (lv_at hl 3 rfl) ?_
  obtain rfl | rfl | rfl | rfl : k = 0 ∨ k = 1 ∨ k = 2 ∨ k = 3 := by omega
  · refine lv_tableIn (off := 29) (tgt := 36) hx hb dX8_count_7 (by decide) (by decide) (by decide) (by decide) ?_
    refine lv_aload_n hx hb dX8_count_36 rfl (lv_at hl 0 rfl) ?_
    refine va_getN (D := (dC, dI)) (ws := [(L 2 n.toNatClampNeg, .inr (1, [.int ((a 2 n.toNatClampNeg) 0), .int ((a 2 n.toNatClampNeg) 1), .int ((a 2 n.toNatClampNeg) 2), .int ((a 2 n.toNatClampNeg) 3), .int ((a 2 n.toNatClampNeg) 4), .int ((a 2 n.toNatClampNeg) 5), .int ((a 2 n.toNatClampNeg) 6), .int ((a 2 n.toNatClampNeg) 7), .int ((a 2 n.toNatClampNeg) 8), .ref (L 3 n.toNatClampNeg), .ref (L 5 n.toNatClampNeg), .int ((a 2 n.toNatClampNeg) 9), .int ((a 2 n.toNatClampNeg) 10), .int ((a 2 n.toNatClampNeg) 11), .int ((a 2 n.toNatClampNeg) 12), .ref (L 7 n.toNatClampNeg)]))]) (ci := 1) (v := .int ((a 2 n.toNatClampNeg) 9)) (C := RX1) (T := TX1) (N := 16) hx hb hts tl_X1 hown hK (hP.one (Or.inl (tw_mem (f := 2) (i := n.toNatClampNeg) (G_lt hw hf) rfl))) 0 rfl rfl 11 (by decide) (va_Nw.use rfl (te_f19 hE)) (fun _ h9 => h9) rfl dX8_count_37 ?_
    refine W.widen (k := 0) (n := 0) (Nat.le_of_ble_eq_true rfl) (Nat.le_of_ble_eq_true rfl) ?_
    have g_1 : ((a 2 n.toNatClampNeg) 9) = a 2 n.toNatClampNeg (9 + 0) := by
      first | rfl | assumption | (simp only [])
    exact W.iret (v := (a 2 n.toNatClampNeg) 9) hx hb hr (fun t ht hW => ⟨⟨((a 2 n.toNatClampNeg) 9), ((a 2 n.toNatClampNeg) 9), rfl, rfl, ⟨g_1, by show mw _ _ _ _ t.heap; rw [ht]; exact hP⟩⟩, hS.F ht⟩) hS.2.2 dX8_count_40
  · refine lv_tableIn (off := 34) (tgt := 41) hx hb dX8_count_7 (by decide) (by decide) (by decide) (by decide) ?_
    refine lv_aload_n hx hb dX8_count_41 rfl (lv_at hl 0 rfl) ?_
    refine va_getN (D := (dC, dI)) (ws := [(L 2 n.toNatClampNeg, .inr (1, [.int ((a 2 n.toNatClampNeg) 0), .int ((a 2 n.toNatClampNeg) 1), .int ((a 2 n.toNatClampNeg) 2), .int ((a 2 n.toNatClampNeg) 3), .int ((a 2 n.toNatClampNeg) 4), .int ((a 2 n.toNatClampNeg) 5), .int ((a 2 n.toNatClampNeg) 6), .int ((a 2 n.toNatClampNeg) 7), .int ((a 2 n.toNatClampNeg) 8), .ref (L 3 n.toNatClampNeg), .ref (L 5 n.toNatClampNeg), .int ((a 2 n.toNatClampNeg) 9), .int ((a 2 n.toNatClampNeg) 10), .int ((a 2 n.toNatClampNeg) 11), .int ((a 2 n.toNatClampNeg) 12), .ref (L 7 n.toNatClampNeg)]))]) (ci := 1) (v := .int ((a 2 n.toNatClampNeg) 10)) (C := RX1) (T := TX1) (N := 16) hx hb hts tl_X1 hown hK (hP.one (Or.inl (tw_mem (f := 2) (i := n.toNatClampNeg) (G_lt hw hf) rfl))) 0 rfl rfl 12 (by decide) (va_Nw.use rfl (te_f20 hE)) (fun _ h9 => h9) rfl dX8_count_42 ?_
    refine W.widen (k := 0) (n := 0) (Nat.le_of_ble_eq_true rfl) (Nat.le_of_ble_eq_true rfl) ?_
    have g_2 : ((a 2 n.toNatClampNeg) 10) = a 2 n.toNatClampNeg (9 + 1) := by
      first | rfl | assumption | (simp only [])
    exact W.iret (v := (a 2 n.toNatClampNeg) 10) hx hb hr (fun t ht hW => ⟨⟨((a 2 n.toNatClampNeg) 10), ((a 2 n.toNatClampNeg) 10), rfl, rfl, ⟨g_2, by show mw _ _ _ _ t.heap; rw [ht]; exact hP⟩⟩, hS.F ht⟩) hS.2.2 dX8_count_45
  · refine lv_tableIn (off := 39) (tgt := 46) hx hb dX8_count_7 (by decide) (by decide) (by decide) (by decide) ?_
    refine lv_aload_n hx hb dX8_count_46 rfl (lv_at hl 0 rfl) ?_
    refine va_getN (D := (dC, dI)) (ws := [(L 2 n.toNatClampNeg, .inr (1, [.int ((a 2 n.toNatClampNeg) 0), .int ((a 2 n.toNatClampNeg) 1), .int ((a 2 n.toNatClampNeg) 2), .int ((a 2 n.toNatClampNeg) 3), .int ((a 2 n.toNatClampNeg) 4), .int ((a 2 n.toNatClampNeg) 5), .int ((a 2 n.toNatClampNeg) 6), .int ((a 2 n.toNatClampNeg) 7), .int ((a 2 n.toNatClampNeg) 8), .ref (L 3 n.toNatClampNeg), .ref (L 5 n.toNatClampNeg), .int ((a 2 n.toNatClampNeg) 9), .int ((a 2 n.toNatClampNeg) 10), .int ((a 2 n.toNatClampNeg) 11), .int ((a 2 n.toNatClampNeg) 12), .ref (L 7 n.toNatClampNeg)]))]) (ci := 1) (v := .int ((a 2 n.toNatClampNeg) 11)) (C := RX1) (T := TX1) (N := 16) hx hb hts tl_X1 hown hK (hP.one (Or.inl (tw_mem (f := 2) (i := n.toNatClampNeg) (G_lt hw hf) rfl))) 0 rfl rfl 13 (by decide) (va_Nw.use rfl (te_f21 hE)) (fun _ h9 => h9) rfl dX8_count_47 ?_
    refine W.widen (k := 0) (n := 0) (Nat.le_of_ble_eq_true rfl) (Nat.le_of_ble_eq_true rfl) ?_
    have g_3 : ((a 2 n.toNatClampNeg) 11) = a 2 n.toNatClampNeg (9 + 2) := by
      first | rfl | assumption | (simp only [])
    exact W.iret (v := (a 2 n.toNatClampNeg) 11) hx hb hr (fun t ht hW => ⟨⟨((a 2 n.toNatClampNeg) 11), ((a 2 n.toNatClampNeg) 11), rfl, rfl, ⟨g_3, by show mw _ _ _ _ t.heap; rw [ht]; exact hP⟩⟩, hS.F ht⟩) hS.2.2 dX8_count_50
  · refine lv_tableIn (off := 44) (tgt := 51) hx hb dX8_count_7 (by decide) (by decide) (by decide) (by decide) ?_
    refine lv_aload_n hx hb dX8_count_51 rfl (lv_at hl 0 rfl) ?_
    refine va_getN (D := (dC, dI)) (ws := [(L 2 n.toNatClampNeg, .inr (1, [.int ((a 2 n.toNatClampNeg) 0), .int ((a 2 n.toNatClampNeg) 1), .int ((a 2 n.toNatClampNeg) 2), .int ((a 2 n.toNatClampNeg) 3), .int ((a 2 n.toNatClampNeg) 4), .int ((a 2 n.toNatClampNeg) 5), .int ((a 2 n.toNatClampNeg) 6), .int ((a 2 n.toNatClampNeg) 7), .int ((a 2 n.toNatClampNeg) 8), .ref (L 3 n.toNatClampNeg), .ref (L 5 n.toNatClampNeg), .int ((a 2 n.toNatClampNeg) 9), .int ((a 2 n.toNatClampNeg) 10), .int ((a 2 n.toNatClampNeg) 11), .int ((a 2 n.toNatClampNeg) 12), .ref (L 7 n.toNatClampNeg)]))]) (ci := 1) (v := .int ((a 2 n.toNatClampNeg) 12)) (C := RX1) (T := TX1) (N := 16) hx hb hts tl_X1 hown hK (hP.one (Or.inl (tw_mem (f := 2) (i := n.toNatClampNeg) (G_lt hw hf) rfl))) 0 rfl rfl 14 (by decide) (va_Nw.use rfl (te_f22 hE)) (fun _ h9 => h9) rfl dX8_count_52 ?_
    refine W.widen (k := 0) (n := 0) (Nat.le_of_ble_eq_true rfl) (Nat.le_of_ble_eq_true rfl) ?_
    have g_4 : ((a 2 n.toNatClampNeg) 12) = a 2 n.toNatClampNeg (9 + 3) := by
      first | rfl | assumption | (simp only [])
    exact W.iret (v := (a 2 n.toNatClampNeg) 12) hx hb hr (fun t ht hW => ⟨⟨((a 2 n.toNatClampNeg) 12), ((a 2 n.toNatClampNeg) 12), rfl, rfl, ⟨g_4, by show mw _ _ _ _ t.heap; rw [ht]; exact hP⟩⟩, hS.F ht⟩) hS.2.2 dX8_count_55
set_option maxRecDepth 100000 in
set_option maxHeartbeats 4000000 in
/-- ofFlow -/
theorem c_ofFlow (l : Launch) (dC : Nat → ClassId) (dI : Nat → Nat → Nat) (cy : Nat → ClassId) (L : Lay) (tr : Option Nat) (a : St) (κ : Kap) (τ : Tau) (ob : Nat) (tp : Nat) (M : Nat) (n : Int32) (k : Nat) (sz : Nat) (hT : TL L tr τ) (hw : Wf M a) (hf : ¬ F_no a n) (hk : k < 6) : Met l yX8_ofFlow (tp_w yX8_ofFlow cX8_ofFlow 4 (some .int)) ({ frames := 0, cells := 0, slots := 0, locals := 0 }) (va_Pc [.ref ob, .int n, .int (nI k)] (mPre dC dI cy (fun q e => TW cy L tr a κ τ q e ∨ oW ob (L 0 0) tp q e) sz)) (va_Qi (fun (r u : Int32) => r = u) (fun (u : Int32) (t : State) => (u = a 14 n.toNatClampNeg (6 + k)) ∧ mw (dC, dI) vwCl (mA (fun q e => TW cy L tr a κ τ q e ∨ oW ob (L 0 0) tp q e) sz) (fun q e => TW cy L tr a κ τ q e ∨ oW ob (L 0 0) tp q e) t.heap) (mA (fun q e => TW cy L tr a κ τ q e ∨ oW ob (L 0 0) tp q e) sz)) (0) (0) (mA (fun q e => TW cy L tr a κ τ q e ∨ oW ob (L 0 0) tp q e) sz) := by
  refine Met.ofW (cc := cX8_ofFlow) (maxL := 4) (ret := (some .int)) (by decide) rfl ?_
  intro p e s m args below meth c s₁ B hml hv
  obtain ⟨rfl, hsz, hP, hK, hE⟩ := hv
  have hx := B.exec
  have hb := B.bytes
  have hr := B.returns
  have hts0 := atoms_spec (ws := tp_w yX8_ofFlow cX8_ofFlow 4 (some .int)) B.pre
  have hts : ∀ w ∈ tp_all, w.before _ s = true := fun w h => hts0 w (List.mem_cons_of_mem _ h)
  have hown : s.vm.findClass RX8 = some m.cls := findClass_of_methodNamed B.named
  have hlocks := B.notSynchronized
  subst hsz
  have hP := hP.self s.heap.size
  generalize hAe : mA (fun q e => TW cy L tr a κ τ q e ∨ oW ob (L 0 0) tp q e) s.heap.size = A at hP ⊢
  have hA : ∀ q : Nat, s.heap.size ≤ q → A q := fun q h => by rw [← hAe]; exact Or.inr h
  have hS : va_S A s.heap s.heap [] := va_S.rf
  have hl9 := lv_entry ([.ref ob, .int n, .int (nI k)]) (n := 4) (Nat.le_of_ble_eq_true rfl)
  rw [lg_entry_eq]
  generalize (lg_sl ([.ref ob, .int n, .int (nI k)]) ++ List.replicate (4 - (lg_sl ([.ref ob, .int n, .int (nI k)])).length) Slot.unset).toArray = ls at hl9 ⊢
  have hl : lv_has ls 4 [(0, .ref ob), (1, .int n), (2, .int (nI k))] := hl9
  refine lv_iload_n hx hb dX8_ofFlow_0 rfl (lv_at hl 1 rfl) ?_
  refine lv_if_lt (tgt := 15) hx hb dX8_ofFlow_1 (by decide) (fun c_1 => absurd c_1 (fun h => hf (Or.inl h))) (fun _ => ?_)
  refine lv_iload_n hx hb dX8_ofFlow_4 rfl (lv_at hl 1 rfl) ?_
  refine lv_aload_n hx hb dX8_ofFlow_5 rfl (lv_at hl 0 rfl) ?_
  refine va_get (D := (dC, dI)) (ws := [(ob, .inr (8, [.ref (L 0 0), .ref tp]))]) (ci := 8) (v := .ref (L 0 0)) (C := RX8) (T := TX8) (N := 2) hx hb hts tl_X8 hown hK (hP.one (Or.inr oW_mem)) 0 rfl rfl 0 (by decide) (hts _ tw_922) (fun _ h9 => h9) rfl dX8_ofFlow_6 ?_
  refine va_getN (D := (dC, dI)) (ws := [(L 0 0, .inr (5, [.ref (L 1 0), .ref (L 20 0), .ref (L 21 0), .ref (L 22 0), .ref (L 23 0), va_rf tr, .int ((a 0 0) 0), .int ((a 0 0) 1), .int ((a 0 0) 2), .int ((a 0 0) 3), .int ((a 0 0) 4), .int ((a 0 0) 5)]))]) (ci := 5) (v := .int ((a 0 0) 3)) (C := RX5) (T := TX5) (N := 12) hx hb hts tl_X5 hown hK (hP.one (Or.inl (tw_mem (f := 0) (i := 0) (by decide) rfl))) 0 rfl rfl 9 (by decide) (va_Nw.use rfl (te_f69 hE)) (fun _ h9 => h9) rfl dX8_ofFlow_9 ?_
  refine lv_icmp_lt (tgt := 25) hx hb dX8_ofFlow_12 (by decide) (fun _ => ?_) (fun c_2 => absurd (m_nle (fun h => hf (Or.inr h))) c_2)
  refine lv_aload_n hx hb dX8_ofFlow_25 rfl (lv_at hl 0 rfl) ?_
  refine va_get (D := (dC, dI)) (ws := [(ob, .inr (8, [.ref (L 0 0), .ref tp]))]) (ci := 8) (v := .ref (L 0 0)) (C := RX8) (T := TX8) (N := 2) hx hb hts tl_X8 hown hK (hP.one (Or.inr oW_mem)) 0 rfl rfl 0 (by decide) (hts _ tw_922) (fun _ h9 => h9) rfl dX8_ofFlow_26 ?_
  refine va_getN (D := (dC, dI)) (ws := [(L 0 0, .inr (5, [.ref (L 1 0), .ref (L 20 0), .ref (L 21 0), .ref (L 22 0), .ref (L 23 0), va_rf tr, .int ((a 0 0) 0), .int ((a 0 0) 1), .int ((a 0 0) 2), .int ((a 0 0) 3), .int ((a 0 0) 4), .int ((a 0 0) 5)]))]) (ci := 5) (v := .ref (L 22 0)) (C := RX5) (T := TX5) (N := 12) hx hb hts tl_X5 hown hK (hP.one (Or.inl (tw_mem (f := 0) (i := 0) (by decide) rfl))) 0 rfl rfl 3 (by decide) (va_Nw.use rfl (te_f63 hE)) (fun _ h9 => h9) rfl dX8_ofFlow_29 ?_
  refine lv_iload_n hx hb dX8_ofFlow_32 rfl (lv_at hl 1 rfl) ?_
  have j_1 : (n : Int32).toNatClampNeg = n.toNatClampNeg := m_cl (m_nI (fun h => hf (Or.inl h))) (F_lt hw hf) (by decide)
  refine va_aldq hx hb hK (ws := [(L 22 0, .inl (cy 6, 10, .inr (.inr (.inr (.inr (fun j => some (L 14 j)))))))]) (hP.one (Or.inl (tw_mem (f := 22) (i := 0) (by decide) rfl))) 0 6 rfl rfl (m_in (m_nI (fun h => hf (Or.inl h))) (F_lt hw hf) (by decide)) dX8_ofFlow_33 ?_
  refine W.eq (g2 := F0 m 34 ls [.ref (L 14 n.toNatClampNeg)]) (by first | (rw [j_1]; done) | (rw [j_1]; rfl)) ?_
  refine lv_astore_n (lv' := [(3, .ref (L 14 n.toNatClampNeg)), (0, .ref ob), (1, .int n), (2, .int (nI k))]) hx hb dX8_ofFlow_34 rfl hl (by decide) rfl (fun ls hl => ?_)
  refine lv_iload_n hx hb dX8_ofFlow_35 rfl (lv_at hl 3 rfl) ?_
  obtain rfl | rfl | rfl | rfl | rfl | rfl : k = 0 ∨ k = 1 ∨ k = 2 ∨ k = 3 ∨ k = 4 ∨ k = 5 := by omega
  · refine lv_tableIn (off := 40) (tgt := 76) hx hb dX8_ofFlow_36 (by decide) (by decide) (by decide) (by decide) ?_
    refine lv_aload_n hx hb dX8_ofFlow_76 rfl (lv_at hl 0 rfl) ?_
    refine va_getN (D := (dC, dI)) (ws := [(L 14 n.toNatClampNeg, .inr (0, [.int ((a 14 n.toNatClampNeg) 0), .int ((a 14 n.toNatClampNeg) 1), .int ((a 14 n.toNatClampNeg) 2), .int ((a 14 n.toNatClampNeg) 3), .int ((a 14 n.toNatClampNeg) 4), .int ((a 14 n.toNatClampNeg) 5), .int ((a 14 n.toNatClampNeg) 6), .int ((a 14 n.toNatClampNeg) 7), .int ((a 14 n.toNatClampNeg) 8), .int ((a 14 n.toNatClampNeg) 9), .int ((a 14 n.toNatClampNeg) 10), .int ((a 14 n.toNatClampNeg) 11)]))]) (ci := 0) (v := .int ((a 14 n.toNatClampNeg) 6)) (C := RX0) (T := TX0) (N := 12) hx hb hts tl_X0 hown hK (hP.one (Or.inl (tw_mem (f := 14) (i := n.toNatClampNeg) (F_lt hw hf) rfl))) 0 rfl rfl 6 (by decide) (va_Nw.use rfl (te_f38 hE)) (fun _ h9 => h9) rfl dX8_ofFlow_77 ?_
    refine W.widen (k := 0) (n := 0) (Nat.le_of_ble_eq_true rfl) (Nat.le_of_ble_eq_true rfl) ?_
    have g_1 : ((a 14 n.toNatClampNeg) 6) = a 14 n.toNatClampNeg (6 + 0) := by
      first | rfl | assumption | (simp only [])
    exact W.iret (v := (a 14 n.toNatClampNeg) 6) hx hb hr (fun t ht hW => ⟨⟨((a 14 n.toNatClampNeg) 6), ((a 14 n.toNatClampNeg) 6), rfl, rfl, ⟨g_1, by show mw _ _ _ _ t.heap; rw [ht]; exact hP⟩⟩, hS.F ht⟩) hS.2.2 dX8_ofFlow_80
  · refine lv_tableIn (off := 45) (tgt := 81) hx hb dX8_ofFlow_36 (by decide) (by decide) (by decide) (by decide) ?_
    refine lv_aload_n hx hb dX8_ofFlow_81 rfl (lv_at hl 0 rfl) ?_
    refine va_getN (D := (dC, dI)) (ws := [(L 14 n.toNatClampNeg, .inr (0, [.int ((a 14 n.toNatClampNeg) 0), .int ((a 14 n.toNatClampNeg) 1), .int ((a 14 n.toNatClampNeg) 2), .int ((a 14 n.toNatClampNeg) 3), .int ((a 14 n.toNatClampNeg) 4), .int ((a 14 n.toNatClampNeg) 5), .int ((a 14 n.toNatClampNeg) 6), .int ((a 14 n.toNatClampNeg) 7), .int ((a 14 n.toNatClampNeg) 8), .int ((a 14 n.toNatClampNeg) 9), .int ((a 14 n.toNatClampNeg) 10), .int ((a 14 n.toNatClampNeg) 11)]))]) (ci := 0) (v := .int ((a 14 n.toNatClampNeg) 7)) (C := RX0) (T := TX0) (N := 12) hx hb hts tl_X0 hown hK (hP.one (Or.inl (tw_mem (f := 14) (i := n.toNatClampNeg) (F_lt hw hf) rfl))) 0 rfl rfl 7 (by decide) (va_Nw.use rfl (te_f39 hE)) (fun _ h9 => h9) rfl dX8_ofFlow_82 ?_
    refine W.widen (k := 0) (n := 0) (Nat.le_of_ble_eq_true rfl) (Nat.le_of_ble_eq_true rfl) ?_
    have g_2 : ((a 14 n.toNatClampNeg) 7) = a 14 n.toNatClampNeg (6 + 1) := by
      first | rfl | assumption | (simp only [])
    exact W.iret (v := (a 14 n.toNatClampNeg) 7) hx hb hr (fun t ht hW => ⟨⟨((a 14 n.toNatClampNeg) 7), ((a 14 n.toNatClampNeg) 7), rfl, rfl, ⟨g_2, by show mw _ _ _ _ t.heap; rw [ht]; exact hP⟩⟩, hS.F ht⟩) hS.2.2 dX8_ofFlow_85
  · refine lv_tableIn (off := 50) (tgt := 86) hx hb dX8_ofFlow_36 (by decide) (by decide) (by decide) (by decide) ?_
    refine lv_aload_n hx hb dX8_ofFlow_86 rfl (lv_at hl 0 rfl) ?_
    refine va_getN (D := (dC, dI)) (ws := [(L 14 n.toNatClampNeg, .inr (0, [.int ((a 14 n.toNatClampNeg) 0), .int ((a 14 n.toNatClampNeg) 1), .int ((a 14 n.toNatClampNeg) 2), .int ((a 14 n.toNatClampNeg) 3), .int ((a 14 n.toNatClampNeg) 4), .int ((a 14 n.toNatClampNeg) 5), .int ((a 14 n.toNatClampNeg) 6), .int ((a 14 n.toNatClampNeg) 7), .int ((a 14 n.toNatClampNeg) 8), .int ((a 14 n.toNatClampNeg) 9), .int ((a 14 n.toNatClampNeg) 10), .int ((a 14 n.toNatClampNeg) 11)]))]) (ci := 0) (v := .int ((a 14 n.toNatClampNeg) 8)) (C := RX0) (T := TX0) (N := 12) hx hb hts tl_X0 hown hK (hP.one (Or.inl (tw_mem (f := 14) (i := n.toNatClampNeg) (F_lt hw hf) rfl))) 0 rfl rfl 8 (by decide) (va_Nw.use rfl (te_f41 hE)) (fun _ h9 => h9) rfl dX8_ofFlow_87 ?_
    refine W.widen (k := 0) (n := 0) (Nat.le_of_ble_eq_true rfl) (Nat.le_of_ble_eq_true rfl) ?_
    have g_3 : ((a 14 n.toNatClampNeg) 8) = a 14 n.toNatClampNeg (6 + 2) := by
      first | rfl | assumption | (simp only [])
    exact W.iret (v := (a 14 n.toNatClampNeg) 8) hx hb hr (fun t ht hW => ⟨⟨((a 14 n.toNatClampNeg) 8), ((a 14 n.toNatClampNeg) 8), rfl, rfl, ⟨g_3, by show mw _ _ _ _ t.heap; rw [ht]; exact hP⟩⟩, hS.F ht⟩) hS.2.2 dX8_ofFlow_90
  · refine lv_tableIn (off := 55) (tgt := 91) hx hb dX8_ofFlow_36 (by decide) (by decide) (by decide) (by decide) ?_
    refine lv_aload_n hx hb dX8_ofFlow_91 rfl (lv_at hl 0 rfl) ?_
    refine va_getN (D := (dC, dI)) (ws := [(L 14 n.toNatClampNeg, .inr (0, [.int ((a 14 n.toNatClampNeg) 0), .int ((a 14 n.toNatClampNeg) 1), .int ((a 14 n.toNatClampNeg) 2), .int ((a 14 n.toNatClampNeg) 3), .int ((a 14 n.toNatClampNeg) 4), .int ((a 14 n.toNatClampNeg) 5), .int ((a 14 n.toNatClampNeg) 6), .int ((a 14 n.toNatClampNeg) 7), .int ((a 14 n.toNatClampNeg) 8), .int ((a 14 n.toNatClampNeg) 9), .int ((a 14 n.toNatClampNeg) 10), .int ((a 14 n.toNatClampNeg) 11)]))]) (ci := 0) (v := .int ((a 14 n.toNatClampNeg) 9)) (C := RX0) (T := TX0) (N := 12) hx hb hts tl_X0 hown hK (hP.one (Or.inl (tw_mem (f := 14) (i := n.toNatClampNeg) (F_lt hw hf) rfl))) 0 rfl rfl 9 (by decide) (va_Nw.use rfl (te_f42 hE)) (fun _ h9 => h9) rfl dX8_ofFlow_92 ?_
    refine W.widen (k := 0) (n := 0) (Nat.le_of_ble_eq_true rfl) (Nat.le_of_ble_eq_true rfl) ?_
    have g_4 : ((a 14 n.toNatClampNeg) 9) = a 14 n.toNatClampNeg (6 + 3) := by
      first | rfl | assumption | (simp only [])
    exact W.iret (v := (a 14 n.toNatClampNeg) 9) hx hb hr (fun t ht hW => ⟨⟨((a 14 n.toNatClampNeg) 9), ((a 14 n.toNatClampNeg) 9), rfl, rfl, ⟨g_4, by show mw _ _ _ _ t.heap; rw [ht]; exact hP⟩⟩, hS.F ht⟩) hS.2.2 dX8_ofFlow_95
  · refine lv_tableIn (off := 60) (tgt := 96) hx hb dX8_ofFlow_36 (by decide) (by decide) (by decide) (by decide) ?_
    refine lv_aload_n hx hb dX8_ofFlow_96 rfl (lv_at hl 0 rfl) ?_
    refine va_getN (D := (dC, dI)) (ws := [(L 14 n.toNatClampNeg, .inr (0, [.int ((a 14 n.toNatClampNeg) 0), .int ((a 14 n.toNatClampNeg) 1), .int ((a 14 n.toNatClampNeg) 2), .int ((a 14 n.toNatClampNeg) 3), .int ((a 14 n.toNatClampNeg) 4), .int ((a 14 n.toNatClampNeg) 5), .int ((a 14 n.toNatClampNeg) 6), .int ((a 14 n.toNatClampNeg) 7), .int ((a 14 n.toNatClampNeg) 8), .int ((a 14 n.toNatClampNeg) 9), .int ((a 14 n.toNatClampNeg) 10), .int ((a 14 n.toNatClampNeg) 11)]))]) (ci := 0) (v := .int ((a 14 n.toNatClampNeg) 10)) (C := RX0) (T := TX0) (N := 12) hx hb hts tl_X0 hown hK (hP.one (Or.inl (tw_mem (f := 14) (i := n.toNatClampNeg) (F_lt hw hf) rfl))) 0 rfl rfl 10 (by decide) (va_Nw.use rfl (te_f43 hE)) (fun _ h9 => h9) rfl dX8_ofFlow_97 ?_
    refine W.widen (k := 0) (n := 0) (Nat.le_of_ble_eq_true rfl) (Nat.le_of_ble_eq_true rfl) ?_
    have g_5 : ((a 14 n.toNatClampNeg) 10) = a 14 n.toNatClampNeg (6 + 4) := by
      first | rfl | assumption | (simp only [])
    exact W.iret (v := (a 14 n.toNatClampNeg) 10) hx hb hr (fun t ht hW => ⟨⟨((a 14 n.toNatClampNeg) 10), ((a 14 n.toNatClampNeg) 10), rfl, rfl, ⟨g_5, by show mw _ _ _ _ t.heap; rw [ht]; exact hP⟩⟩, hS.F ht⟩) hS.2.2 dX8_ofFlow_100
  · refine lv_tableIn (off := 65) (tgt := 101) hx hb dX8_ofFlow_36 (by decide) (by decide) (by decide) (by decide) ?_
    refine lv_aload_n hx hb dX8_ofFlow_101 rfl (lv_at hl 0 rfl) ?_
    refine va_getN (D := (dC, dI)) (ws := [(L 14 n.toNatClampNeg, .inr (0, [.int ((a 14 n.toNatClampNeg) 0), .int ((a 14 n.toNatClampNeg) 1), .int ((a 14 n.toNatClampNeg) 2), .int ((a 14 n.toNatClampNeg) 3), .int ((a 14 n.toNatClampNeg) 4), .int ((a 14 n.toNatClampNeg) 5), .int ((a 14 n.toNatClampNeg) 6), .int ((a 14 n.toNatClampNeg) 7), .int ((a 14 n.toNatClampNeg) 8), .int ((a 14 n.toNatClampNeg) 9), .int ((a 14 n.toNatClampNeg) 10), .int ((a 14 n.toNatClampNeg) 11)]))]) (ci := 0) (v := .int ((a 14 n.toNatClampNeg) 11)) (C := RX0) (T := TX0) (N := 12) hx hb hts tl_X0 hown hK (hP.one (Or.inl (tw_mem (f := 14) (i := n.toNatClampNeg) (F_lt hw hf) rfl))) 0 rfl rfl 11 (by decide) (va_Nw.use rfl (te_f44 hE)) (fun _ h9 => h9) rfl dX8_ofFlow_102 ?_
    refine W.widen (k := 0) (n := 0) (Nat.le_of_ble_eq_true rfl) (Nat.le_of_ble_eq_true rfl) ?_
    have g_6 : ((a 14 n.toNatClampNeg) 11) = a 14 n.toNatClampNeg (6 + 5) := by
      first | rfl | assumption | (simp only [])
    exact W.iret (v := (a 14 n.toNatClampNeg) 11) hx hb hr (fun t ht hW => ⟨⟨((a 14 n.toNatClampNeg) 11), ((a 14 n.toNatClampNeg) 11), rfl, rfl, ⟨g_6, by show mw _ _ _ _ t.heap; rw [ht]; exact hP⟩⟩, hS.F ht⟩) hS.2.2 dX8_ofFlow_105

theorem tw_680 : Cond.code yX8_addNode cX8_addNode 1 (some .int) ∈ tp_all := tp_mem 680 (by decide +kernel) rfl
theorem tw_677 : Cond.methodLink RL 7 yX8_addNode ∈ tp_all := tp_mem 677 (by decide +kernel) rfl
theorem tw_678 : Cond.instanceMethod yX8_addNode ∈ tp_all := tp_mem 678 (by decide +kernel) rfl
theorem tw_679 : Cond.selects RX8 yX8_addNode yX8_addNode ∈ tp_all := tp_mem 679 (by decide +kernel) rfl
theorem tw_705 : Cond.code yX8_addLink cX8_addLink 6 (some .int) ∈ tp_all := tp_mem 705 (by decide +kernel) rfl
theorem tw_702 : Cond.methodLink RL 15 yX8_addLink ∈ tp_all := tp_mem 702 (by decide +kernel) rfl
theorem tw_703 : Cond.instanceMethod yX8_addLink ∈ tp_all := tp_mem 703 (by decide +kernel) rfl
theorem tw_704 : Cond.selects RX8 yX8_addLink yX8_addLink ∈ tp_all := tp_mem 704 (by decide +kernel) rfl
theorem tw_700 : Cond.classLink RL 19 "java/lang/IndexOutOfBoundsException" ∈ tp_all := tp_mem 700 (by decide +kernel) rfl
theorem tw_728 : Cond.code yX8_addPhase cX8_addPhase 6 (some .int) ∈ tp_all := tp_mem 728 (by decide +kernel) rfl
theorem tw_725 : Cond.methodLink RL 23 yX8_addPhase ∈ tp_all := tp_mem 725 (by decide +kernel) rfl
theorem tw_726 : Cond.instanceMethod yX8_addPhase ∈ tp_all := tp_mem 726 (by decide +kernel) rfl
theorem tw_727 : Cond.selects RX8 yX8_addPhase yX8_addPhase ∈ tp_all := tp_mem 727 (by decide +kernel) rfl
theorem tw_744 : Cond.code yX8_dropSignal cX8_dropSignal 4 (some .int) ∈ tp_all := tp_mem 744 (by decide +kernel) rfl
theorem tw_741 : Cond.methodLink RL 27 yX8_dropSignal ∈ tp_all := tp_mem 741 (by decide +kernel) rfl
theorem tw_742 : Cond.instanceMethod yX8_dropSignal ∈ tp_all := tp_mem 742 (by decide +kernel) rfl
theorem tw_743 : Cond.selects RX8 yX8_dropSignal yX8_dropSignal ∈ tp_all := tp_mem 743 (by decide +kernel) rfl
theorem tw_762 : Cond.code yX8_shut cX8_shut 5 (some .boolean) ∈ tp_all := tp_mem 762 (by decide +kernel) rfl
theorem tw_759 : Cond.methodLink RL 34 yX8_shut ∈ tp_all := tp_mem 759 (by decide +kernel) rfl
theorem tw_760 : Cond.instanceMethod yX8_shut ∈ tp_all := tp_mem 760 (by decide +kernel) rfl
theorem tw_761 : Cond.selects RX8 yX8_shut yX8_shut ∈ tp_all := tp_mem 761 (by decide +kernel) rfl
theorem tw_770 : Cond.code yX8_slow cX8_slow 6 (some .int) ∈ tp_all := tp_mem 770 (by decide +kernel) rfl
theorem tw_767 : Cond.methodLink RL 38 yX8_slow ∈ tp_all := tp_mem 767 (by decide +kernel) rfl
theorem tw_768 : Cond.instanceMethod yX8_slow ∈ tp_all := tp_mem 768 (by decide +kernel) rfl
theorem tw_769 : Cond.selects RX8 yX8_slow yX8_slow ∈ tp_all := tp_mem 769 (by decide +kernel) rfl
theorem tw_777 : Cond.code yX8_addFlow cX8_addFlow 7 (some .int) ∈ tp_all := tp_mem 777 (by decide +kernel) rfl
theorem tw_774 : Cond.methodLink RL 42 yX8_addFlow ∈ tp_all := tp_mem 774 (by decide +kernel) rfl
theorem tw_775 : Cond.instanceMethod yX8_addFlow ∈ tp_all := tp_mem 775 (by decide +kernel) rfl
theorem tw_776 : Cond.selects RX8 yX8_addFlow yX8_addFlow ∈ tp_all := tp_mem 776 (by decide +kernel) rfl
theorem tw_563 : Cond.code yX8_isShut cX8_isShut 2 (some .boolean) ∈ tp_all := tp_mem 563 (by decide +kernel) rfl
theorem tw_979 : Cond.methodLink RL 49 yX8_isShut ∈ tp_all := tp_mem 979 (by decide +kernel) rfl
theorem tw_561 : Cond.instanceMethod yX8_isShut ∈ tp_all := tp_mem 561 (by decide +kernel) rfl
theorem tw_562 : Cond.selects RX8 yX8_isShut yX8_isShut ∈ tp_all := tp_mem 562 (by decide +kernel) rfl
theorem tw_576 : Cond.code yX8_rateOf cX8_rateOf 2 (some .int) ∈ tp_all := tp_mem 576 (by decide +kernel) rfl
theorem tw_983 : Cond.methodLink RL 53 yX8_rateOf ∈ tp_all := tp_mem 983 (by decide +kernel) rfl
theorem tw_574 : Cond.instanceMethod yX8_rateOf ∈ tp_all := tp_mem 574 (by decide +kernel) rfl
theorem tw_575 : Cond.selects RX8 yX8_rateOf yX8_rateOf ∈ tp_all := tp_mem 575 (by decide +kernel) rfl
theorem tw_580 : Cond.code yX8_costOf cX8_costOf 2 (some .int) ∈ tp_all := tp_mem 580 (by decide +kernel) rfl
theorem tw_987 : Cond.methodLink RL 56 yX8_costOf ∈ tp_all := tp_mem 987 (by decide +kernel) rfl
theorem tw_578 : Cond.instanceMethod yX8_costOf ∈ tp_all := tp_mem 578 (by decide +kernel) rfl
theorem tw_579 : Cond.selects RX8 yX8_costOf yX8_costOf ∈ tp_all := tp_mem 579 (by decide +kernel) rfl
theorem tw_455 : Cond.code yX8_phaseOf cX8_phaseOf 2 (some .int) ∈ tp_all := tp_mem 455 (by decide +kernel) rfl
theorem tw_991 : Cond.methodLink RL 59 yX8_phaseOf ∈ tp_all := tp_mem 991 (by decide +kernel) rfl
theorem tw_453 : Cond.instanceMethod yX8_phaseOf ∈ tp_all := tp_mem 453 (by decide +kernel) rfl
theorem tw_454 : Cond.selects RX8 yX8_phaseOf yX8_phaseOf ∈ tp_all := tp_mem 454 (by decide +kernel) rfl
theorem tw_531 : Cond.code yX8_phaseTicks cX8_phaseTicks 2 (some .int) ∈ tp_all := tp_mem 531 (by decide +kernel) rfl
theorem tw_995 : Cond.methodLink RL 62 yX8_phaseTicks ∈ tp_all := tp_mem 995 (by decide +kernel) rfl
theorem tw_529 : Cond.instanceMethod yX8_phaseTicks ∈ tp_all := tp_mem 529 (by decide +kernel) rfl
theorem tw_530 : Cond.selects RX8 yX8_phaseTicks yX8_phaseTicks ∈ tp_all := tp_mem 530 (by decide +kernel) rfl
theorem tw_539 : Cond.code yX8_distance cX8_distance 3 (some .int) ∈ tp_all := tp_mem 539 (by decide +kernel) rfl
theorem tw_999 : Cond.methodLink RL 65 yX8_distance ∈ tp_all := tp_mem 999 (by decide +kernel) rfl
theorem tw_537 : Cond.instanceMethod yX8_distance ∈ tp_all := tp_mem 537 (by decide +kernel) rfl
theorem tw_538 : Cond.selects RX8 yX8_distance yX8_distance ∈ tp_all := tp_mem 538 (by decide +kernel) rfl
theorem tw_550 : Cond.code yX8_nextLink cX8_nextLink 3 (some .int) ∈ tp_all := tp_mem 550 (by decide +kernel) rfl
theorem tw_1003 : Cond.methodLink RL 69 yX8_nextLink ∈ tp_all := tp_mem 1003 (by decide +kernel) rfl
theorem tw_548 : Cond.instanceMethod yX8_nextLink ∈ tp_all := tp_mem 548 (by decide +kernel) rfl
theorem tw_549 : Cond.selects RX8 yX8_nextLink yX8_nextLink ∈ tp_all := tp_mem 549 (by decide +kernel) rfl
theorem tw_643 : Cond.code yX8_stateOf cX8_stateOf 2 (some .int) ∈ tp_all := tp_mem 643 (by decide +kernel) rfl
theorem tw_1007 : Cond.methodLink RL 72 yX8_stateOf ∈ tp_all := tp_mem 1007 (by decide +kernel) rfl
theorem tw_641 : Cond.instanceMethod yX8_stateOf ∈ tp_all := tp_mem 641 (by decide +kernel) rfl
theorem tw_642 : Cond.selects RX8 yX8_stateOf yX8_stateOf ∈ tp_all := tp_mem 642 (by decide +kernel) rfl
theorem tw_656 : Cond.code yX8_linkOf cX8_linkOf 2 (some .int) ∈ tp_all := tp_mem 656 (by decide +kernel) rfl
theorem tw_1011 : Cond.methodLink RL 75 yX8_linkOf ∈ tp_all := tp_mem 1011 (by decide +kernel) rfl
theorem tw_654 : Cond.instanceMethod yX8_linkOf ∈ tp_all := tp_mem 654 (by decide +kernel) rfl
theorem tw_655 : Cond.selects RX8 yX8_linkOf yX8_linkOf ∈ tp_all := tp_mem 655 (by decide +kernel) rfl
theorem tw_660 : Cond.code yX8_endOf cX8_endOf 2 (some .int) ∈ tp_all := tp_mem 660 (by decide +kernel) rfl
theorem tw_1015 : Cond.methodLink RL 78 yX8_endOf ∈ tp_all := tp_mem 1015 (by decide +kernel) rfl
theorem tw_658 : Cond.instanceMethod yX8_endOf ∈ tp_all := tp_mem 658 (by decide +kernel) rfl
theorem tw_659 : Cond.selects RX8 yX8_endOf yX8_endOf ∈ tp_all := tp_mem 659 (by decide +kernel) rfl
theorem tw_664 : Cond.code yX8_linksOf cX8_linksOf 2 (some .int) ∈ tp_all := tp_mem 664 (by decide +kernel) rfl
theorem tw_1019 : Cond.methodLink RL 81 yX8_linksOf ∈ tp_all := tp_mem 1019 (by decide +kernel) rfl
theorem tw_662 : Cond.instanceMethod yX8_linksOf ∈ tp_all := tp_mem 662 (by decide +kernel) rfl
theorem tw_663 : Cond.selects RX8 yX8_linksOf yX8_linksOf ∈ tp_all := tp_mem 663 (by decide +kernel) rfl
theorem tw_1026 : Cond.code yX8_linkAt cX8_linkAt 4 (some .int) ∈ tp_all := tp_mem 1026 (by decide +kernel) rfl
theorem tw_1023 : Cond.methodLink RL 84 yX8_linkAt ∈ tp_all := tp_mem 1023 (by decide +kernel) rfl
theorem tw_1024 : Cond.instanceMethod yX8_linkAt ∈ tp_all := tp_mem 1024 (by decide +kernel) rfl
theorem tw_1025 : Cond.selects RX8 yX8_linkAt yX8_linkAt ∈ tp_all := tp_mem 1025 (by decide +kernel) rfl
theorem tw_668 : Cond.code yX8_tripOf cX8_tripOf 2 (some .int) ∈ tp_all := tp_mem 668 (by decide +kernel) rfl
theorem tw_1035 : Cond.methodLink RL 87 yX8_tripOf ∈ tp_all := tp_mem 1035 (by decide +kernel) rfl
theorem tw_666 : Cond.instanceMethod yX8_tripOf ∈ tp_all := tp_mem 666 (by decide +kernel) rfl
theorem tw_667 : Cond.selects RX8 yX8_tripOf yX8_tripOf ∈ tp_all := tp_mem 667 (by decide +kernel) rfl
theorem tw_672 : Cond.code yX8_delayOf cX8_delayOf 2 (some .int) ∈ tp_all := tp_mem 672 (by decide +kernel) rfl
theorem tw_1039 : Cond.methodLink RL 90 yX8_delayOf ∈ tp_all := tp_mem 1039 (by decide +kernel) rfl
theorem tw_670 : Cond.instanceMethod yX8_delayOf ∈ tp_all := tp_mem 670 (by decide +kernel) rfl
theorem tw_671 : Cond.selects RX8 yX8_delayOf yX8_delayOf ∈ tp_all := tp_mem 671 (by decide +kernel) rfl
theorem tw_535 : Cond.code yX8_waiting cX8_waiting 2 (some .int) ∈ tp_all := tp_mem 535 (by decide +kernel) rfl
theorem tw_1043 : Cond.methodLink RL 93 yX8_waiting ∈ tp_all := tp_mem 1043 (by decide +kernel) rfl
theorem tw_533 : Cond.instanceMethod yX8_waiting ∈ tp_all := tp_mem 533 (by decide +kernel) rfl
theorem tw_534 : Cond.selects RX8 yX8_waiting yX8_waiting ∈ tp_all := tp_mem 534 (by decide +kernel) rfl
theorem tw_584 : Cond.code yX8_onLink cX8_onLink 2 (some .int) ∈ tp_all := tp_mem 584 (by decide +kernel) rfl
theorem tw_1047 : Cond.methodLink RL 96 yX8_onLink ∈ tp_all := tp_mem 1047 (by decide +kernel) rfl
theorem tw_582 : Cond.instanceMethod yX8_onLink ∈ tp_all := tp_mem 582 (by decide +kernel) rfl
theorem tw_583 : Cond.selects RX8 yX8_onLink yX8_onLink ∈ tp_all := tp_mem 583 (by decide +kernel) rfl
theorem tw_588 : Cond.code yX8_vehicleAt cX8_vehicleAt 4 (some .int) ∈ tp_all := tp_mem 588 (by decide +kernel) rfl
theorem tw_1051 : Cond.methodLink RL 99 yX8_vehicleAt ∈ tp_all := tp_mem 1051 (by decide +kernel) rfl
theorem tw_586 : Cond.instanceMethod yX8_vehicleAt ∈ tp_all := tp_mem 586 (by decide +kernel) rfl
theorem tw_587 : Cond.selects RX8 yX8_vehicleAt yX8_vehicleAt ∈ tp_all := tp_mem 587 (by decide +kernel) rfl
theorem tw_597 : Cond.code yX8_queue cX8_queue 2 (some .int) ∈ tp_all := tp_mem 597 (by decide +kernel) rfl
theorem tw_1055 : Cond.methodLink RL 102 yX8_queue ∈ tp_all := tp_mem 1055 (by decide +kernel) rfl
theorem tw_595 : Cond.instanceMethod yX8_queue ∈ tp_all := tp_mem 595 (by decide +kernel) rfl
theorem tw_596 : Cond.selects RX8 yX8_queue yX8_queue ∈ tp_all := tp_mem 596 (by decide +kernel) rfl
theorem tw_606 : Cond.code yX8_count cX8_count 4 (some .int) ∈ tp_all := tp_mem 606 (by decide +kernel) rfl
theorem tw_1059 : Cond.methodLink RL 105 yX8_count ∈ tp_all := tp_mem 1059 (by decide +kernel) rfl
theorem tw_604 : Cond.instanceMethod yX8_count ∈ tp_all := tp_mem 604 (by decide +kernel) rfl
theorem tw_605 : Cond.selects RX8 yX8_count yX8_count ∈ tp_all := tp_mem 605 (by decide +kernel) rfl
theorem tw_626 : Cond.code yX8_turned cX8_turned 4 (some .int) ∈ tp_all := tp_mem 626 (by decide +kernel) rfl
theorem tw_1063 : Cond.methodLink RL 108 yX8_turned ∈ tp_all := tp_mem 1063 (by decide +kernel) rfl
theorem tw_624 : Cond.instanceMethod yX8_turned ∈ tp_all := tp_mem 624 (by decide +kernel) rfl
theorem tw_625 : Cond.selects RX8 yX8_turned yX8_turned ∈ tp_all := tp_mem 625 (by decide +kernel) rfl
theorem tw_634 : Cond.code yX8_ofFlow cX8_ofFlow 4 (some .int) ∈ tp_all := tp_mem 634 (by decide +kernel) rfl
theorem tw_1067 : Cond.methodLink RL 111 yX8_ofFlow ∈ tp_all := tp_mem 1067 (by decide +kernel) rfl
theorem tw_632 : Cond.instanceMethod yX8_ofFlow ∈ tp_all := tp_mem 632 (by decide +kernel) rfl
theorem tw_633 : Cond.selects RX8 yX8_ofFlow yX8_ofFlow ∈ tp_all := tp_mem 633 (by decide +kernel) rfl
theorem tw_1074 : Cond.code yX8_arrivesIn cX8_arrivesIn 5 (some .int) ∈ tp_all := tp_mem 1074 (by decide +kernel) rfl
theorem tw_1071 : Cond.methodLink RL 114 yX8_arrivesIn ∈ tp_all := tp_mem 1071 (by decide +kernel) rfl
theorem tw_1072 : Cond.instanceMethod yX8_arrivesIn ∈ tp_all := tp_mem 1072 (by decide +kernel) rfl
theorem tw_1073 : Cond.selects RX8 yX8_arrivesIn yX8_arrivesIn ∈ tp_all := tp_mem 1073 (by decide +kernel) rfl
theorem tw_1118 : Cond.code yX8_distanceWithout cX8_distanceWithout 5 (some .int) ∈ tp_all := tp_mem 1118 (by decide +kernel) rfl
theorem tw_1115 : Cond.methodLink RL 120 yX8_distanceWithout ∈ tp_all := tp_mem 1115 (by decide +kernel) rfl
theorem tw_1116 : Cond.instanceMethod yX8_distanceWithout ∈ tp_all := tp_mem 1116 (by decide +kernel) rfl
theorem tw_1117 : Cond.selects RX8 yX8_distanceWithout yX8_distanceWithout ∈ tp_all := tp_mem 1117 (by decide +kernel) rfl
theorem tw_755 : Cond.code yX8_setRefresh cX8_setRefresh 3 (some .int) ∈ tp_all := tp_mem 755 (by decide +kernel) rfl
theorem tw_752 : Cond.methodLink RL 31 yX8_setRefresh ∈ tp_all := tp_mem 752 (by decide +kernel) rfl
theorem tw_753 : Cond.instanceMethod yX8_setRefresh ∈ tp_all := tp_mem 753 (by decide +kernel) rfl
theorem tw_754 : Cond.selects RX8 yX8_setRefresh yX8_setRefresh ∈ tp_all := tp_mem 754 (by decide +kernel) rfl
theorem tw_701 : Cond.classLink RL 21 "java/lang/IllegalArgumentException" ∈ tp_all := tp_mem 701 (by decide +kernel) rfl
theorem tw_789 : Cond.code yX8_step cX8_step 3 (some .int) ∈ tp_all := tp_mem 789 (by decide +kernel) rfl
theorem tw_786 : Cond.methodLink RL 46 yX8_step ∈ tp_all := tp_mem 786 (by decide +kernel) rfl
theorem tw_787 : Cond.instanceMethod yX8_step ∈ tp_all := tp_mem 787 (by decide +kernel) rfl
theorem tw_788 : Cond.selects RX8 yX8_step yX8_step ∈ tp_all := tp_mem 788 (by decide +kernel) rfl
theorem tw_1111 : Cond.code yX8_emptyIn cX8_emptyIn 3 (some .int) ∈ tp_all := tp_mem 1111 (by decide +kernel) rfl
theorem tw_1108 : Cond.methodLink RL 117 yX8_emptyIn ∈ tp_all := tp_mem 1108 (by decide +kernel) rfl
theorem tw_1109 : Cond.instanceMethod yX8_emptyIn ∈ tp_all := tp_mem 1109 (by decide +kernel) rfl
theorem tw_1110 : Cond.selects RX8 yX8_emptyIn yX8_emptyIn ∈ tp_all := tp_mem 1110 (by decide +kernel) rfl
theorem dL_addNode_0 : decode cL_addNode 0 = .ok (.aload_n 1, 1) := by decide +kernel
theorem dL_addNode_1 : decode cL_addNode 1 = .ok (.iconst 0, 1) := by decide +kernel
theorem dL_addNode_2 : decode cL_addNode 2 = .ok (.aload_n 0, 1) := by decide +kernel
theorem dL_addNode_3 : decode cL_addNode 3 = .ok (.invokevirtual 7, 3) := by decide +kernel
theorem dL_addNode_6 : decode cL_addNode 6 = .ok (.i2l, 1) := by decide +kernel
theorem dL_addNode_7 : decode cL_addNode 7 = .ok (.lastore, 1) := by decide +kernel
theorem dL_addNode_8 : decode cL_addNode 8 = .ok (.goto 6, 3) := by decide +kernel
theorem dL_addNode_14 : decode cL_addNode 14 = .ok (.iconst 0, 1) := by decide +kernel
theorem dL_addNode_15 : decode cL_addNode 15 = .ok (.ireturn, 1) := by decide +kernel
theorem dL_addLink_0 : decode cL_addLink 0 = .ok (.aload 6, 2) := by decide +kernel
theorem dL_addLink_2 : decode cL_addLink 2 = .ok (.iconst 0, 1) := by decide +kernel
theorem dL_addLink_3 : decode cL_addLink 3 = .ok (.aload_n 0, 1) := by decide +kernel
theorem dL_addLink_4 : decode cL_addLink 4 = .ok (.iload_n 1, 1) := by decide +kernel
theorem dL_addLink_5 : decode cL_addLink 5 = .ok (.iload_n 2, 1) := by decide +kernel
theorem dL_addLink_6 : decode cL_addLink 6 = .ok (.iload_n 3, 1) := by decide +kernel
theorem dL_addLink_7 : decode cL_addLink 7 = .ok (.iload 4, 2) := by decide +kernel
theorem dL_addLink_9 : decode cL_addLink 9 = .ok (.iload 5, 2) := by decide +kernel
theorem dL_addLink_11 : decode cL_addLink 11 = .ok (.invokevirtual 15, 3) := by decide +kernel
theorem dL_addLink_19 : decode cL_addLink 19 = .ok (.astore 7, 2) := by decide +kernel
theorem dL_addLink_21 : decode cL_addLink 21 = .ok (.iconst 1, 1) := by decide +kernel
theorem dL_addLink_22 : decode cL_addLink 22 = .ok (.ireturn, 1) := by decide +kernel
theorem dL_addPhase_0 : decode cL_addPhase 0 = .ok (.aload 5, 2) := by decide +kernel
theorem dL_addPhase_2 : decode cL_addPhase 2 = .ok (.iconst 0, 1) := by decide +kernel
theorem dL_addPhase_3 : decode cL_addPhase 3 = .ok (.aload_n 0, 1) := by decide +kernel
theorem dL_addPhase_4 : decode cL_addPhase 4 = .ok (.iload_n 1, 1) := by decide +kernel
theorem dL_addPhase_5 : decode cL_addPhase 5 = .ok (.iload_n 2, 1) := by decide +kernel
theorem dL_addPhase_6 : decode cL_addPhase 6 = .ok (.iload_n 3, 1) := by decide +kernel
theorem dL_addPhase_7 : decode cL_addPhase 7 = .ok (.iload 4, 2) := by decide +kernel
theorem dL_addPhase_9 : decode cL_addPhase 9 = .ok (.invokevirtual 23, 3) := by decide +kernel
theorem dL_addPhase_17 : decode cL_addPhase 17 = .ok (.astore 6, 2) := by decide +kernel
theorem dL_addPhase_19 : decode cL_addPhase 19 = .ok (.iconst 1, 1) := by decide +kernel
theorem dL_addPhase_20 : decode cL_addPhase 20 = .ok (.ireturn, 1) := by decide +kernel
theorem dL_dropSignal_0 : decode cL_dropSignal 0 = .ok (.aload_n 2, 1) := by decide +kernel
theorem dL_dropSignal_1 : decode cL_dropSignal 1 = .ok (.iconst 0, 1) := by decide +kernel
theorem dL_dropSignal_2 : decode cL_dropSignal 2 = .ok (.aload_n 0, 1) := by decide +kernel
theorem dL_dropSignal_3 : decode cL_dropSignal 3 = .ok (.iload_n 1, 1) := by decide +kernel
theorem dL_dropSignal_4 : decode cL_dropSignal 4 = .ok (.invokevirtual 27, 3) := by decide +kernel
theorem dL_dropSignal_12 : decode cL_dropSignal 12 = .ok (.astore_n 3, 1) := by decide +kernel
theorem dL_dropSignal_13 : decode cL_dropSignal 13 = .ok (.iconst 1, 1) := by decide +kernel
theorem dL_dropSignal_14 : decode cL_dropSignal 14 = .ok (.ireturn, 1) := by decide +kernel
theorem dL_shut_0 : decode cL_shut 0 = .ok (.aload_n 3, 1) := by decide +kernel
theorem dL_shut_1 : decode cL_shut 1 = .ok (.iconst 0, 1) := by decide +kernel
theorem dL_shut_2 : decode cL_shut 2 = .ok (.aload_n 0, 1) := by decide +kernel
theorem dL_shut_3 : decode cL_shut 3 = .ok (.iload_n 1, 1) := by decide +kernel
theorem dL_shut_4 : decode cL_shut 4 = .ok (.iload_n 2, 1) := by decide +kernel
theorem dL_shut_5 : decode cL_shut 5 = .ok (.invokevirtual 34, 3) := by decide +kernel
theorem dL_shut_20 : decode cL_shut 20 = .ok (.astore 4, 2) := by decide +kernel
theorem dL_shut_22 : decode cL_shut 22 = .ok (.iconst 1, 1) := by decide +kernel
theorem dL_shut_23 : decode cL_shut 23 = .ok (.ireturn, 1) := by decide +kernel
theorem dL_slow_0 : decode cL_slow 0 = .ok (.aload 4, 2) := by decide +kernel
theorem dL_slow_2 : decode cL_slow 2 = .ok (.iconst 0, 1) := by decide +kernel
theorem dL_slow_3 : decode cL_slow 3 = .ok (.aload_n 0, 1) := by decide +kernel
theorem dL_slow_4 : decode cL_slow 4 = .ok (.iload_n 1, 1) := by decide +kernel
theorem dL_slow_5 : decode cL_slow 5 = .ok (.iload_n 2, 1) := by decide +kernel
theorem dL_slow_6 : decode cL_slow 6 = .ok (.iload_n 3, 1) := by decide +kernel
theorem dL_slow_7 : decode cL_slow 7 = .ok (.invokevirtual 38, 3) := by decide +kernel
theorem dL_slow_15 : decode cL_slow 15 = .ok (.astore 5, 2) := by decide +kernel
theorem dL_slow_17 : decode cL_slow 17 = .ok (.iconst 1, 1) := by decide +kernel
theorem dL_slow_18 : decode cL_slow 18 = .ok (.ireturn, 1) := by decide +kernel
theorem dL_addFlow_0 : decode cL_addFlow 0 = .ok (.aload 7, 2) := by decide +kernel
theorem dL_addFlow_2 : decode cL_addFlow 2 = .ok (.iconst 0, 1) := by decide +kernel
theorem dL_addFlow_3 : decode cL_addFlow 3 = .ok (.aload_n 0, 1) := by decide +kernel
theorem dL_addFlow_4 : decode cL_addFlow 4 = .ok (.iload_n 1, 1) := by decide +kernel
theorem dL_addFlow_5 : decode cL_addFlow 5 = .ok (.iload_n 2, 1) := by decide +kernel
theorem dL_addFlow_6 : decode cL_addFlow 6 = .ok (.iload_n 3, 1) := by decide +kernel
theorem dL_addFlow_7 : decode cL_addFlow 7 = .ok (.iload 4, 2) := by decide +kernel
theorem dL_addFlow_9 : decode cL_addFlow 9 = .ok (.iload 5, 2) := by decide +kernel
theorem dL_addFlow_11 : decode cL_addFlow 11 = .ok (.iload 6, 2) := by decide +kernel
theorem dL_addFlow_13 : decode cL_addFlow 13 = .ok (.invokevirtual 42, 3) := by decide +kernel
theorem dL_addFlow_21 : decode cL_addFlow 21 = .ok (.astore 8, 2) := by decide +kernel
theorem dL_addFlow_23 : decode cL_addFlow 23 = .ok (.iconst 1, 1) := by decide +kernel
theorem dL_addFlow_24 : decode cL_addFlow 24 = .ok (.ireturn, 1) := by decide +kernel
theorem dL_isShut_0 : decode cL_isShut 0 = .ok (.aload_n 2, 1) := by decide +kernel
theorem dL_isShut_1 : decode cL_isShut 1 = .ok (.iconst 0, 1) := by decide +kernel
theorem dL_isShut_2 : decode cL_isShut 2 = .ok (.aload_n 0, 1) := by decide +kernel
theorem dL_isShut_3 : decode cL_isShut 3 = .ok (.iload_n 1, 1) := by decide +kernel
theorem dL_isShut_4 : decode cL_isShut 4 = .ok (.invokevirtual 49, 3) := by decide +kernel
theorem dL_isShut_19 : decode cL_isShut 19 = .ok (.astore_n 3, 1) := by decide +kernel
theorem dL_isShut_20 : decode cL_isShut 20 = .ok (.iconst 1, 1) := by decide +kernel
theorem dL_isShut_21 : decode cL_isShut 21 = .ok (.ireturn, 1) := by decide +kernel
theorem dL_rateOf_0 : decode cL_rateOf 0 = .ok (.aload_n 2, 1) := by decide +kernel
theorem dL_rateOf_1 : decode cL_rateOf 1 = .ok (.iconst 0, 1) := by decide +kernel
theorem dL_rateOf_2 : decode cL_rateOf 2 = .ok (.aload_n 0, 1) := by decide +kernel
theorem dL_rateOf_3 : decode cL_rateOf 3 = .ok (.iload_n 1, 1) := by decide +kernel
theorem dL_rateOf_4 : decode cL_rateOf 4 = .ok (.invokevirtual 53, 3) := by decide +kernel
theorem dL_rateOf_12 : decode cL_rateOf 12 = .ok (.astore_n 3, 1) := by decide +kernel
theorem dL_rateOf_13 : decode cL_rateOf 13 = .ok (.iconst 1, 1) := by decide +kernel
theorem dL_rateOf_14 : decode cL_rateOf 14 = .ok (.ireturn, 1) := by decide +kernel
theorem dL_costOf_0 : decode cL_costOf 0 = .ok (.aload_n 2, 1) := by decide +kernel
theorem dL_costOf_1 : decode cL_costOf 1 = .ok (.iconst 0, 1) := by decide +kernel
theorem dL_costOf_2 : decode cL_costOf 2 = .ok (.aload_n 0, 1) := by decide +kernel
theorem dL_costOf_3 : decode cL_costOf 3 = .ok (.iload_n 1, 1) := by decide +kernel
theorem dL_costOf_4 : decode cL_costOf 4 = .ok (.invokevirtual 56, 3) := by decide +kernel
theorem dL_costOf_12 : decode cL_costOf 12 = .ok (.astore_n 3, 1) := by decide +kernel
theorem dL_costOf_13 : decode cL_costOf 13 = .ok (.iconst 1, 1) := by decide +kernel
theorem dL_costOf_14 : decode cL_costOf 14 = .ok (.ireturn, 1) := by decide +kernel
theorem dL_phaseOf_0 : decode cL_phaseOf 0 = .ok (.aload_n 2, 1) := by decide +kernel
theorem dL_phaseOf_1 : decode cL_phaseOf 1 = .ok (.iconst 0, 1) := by decide +kernel
theorem dL_phaseOf_2 : decode cL_phaseOf 2 = .ok (.aload_n 0, 1) := by decide +kernel
theorem dL_phaseOf_3 : decode cL_phaseOf 3 = .ok (.iload_n 1, 1) := by decide +kernel
theorem dL_phaseOf_4 : decode cL_phaseOf 4 = .ok (.invokevirtual 59, 3) := by decide +kernel
theorem dL_phaseOf_12 : decode cL_phaseOf 12 = .ok (.astore_n 3, 1) := by decide +kernel
theorem dL_phaseOf_13 : decode cL_phaseOf 13 = .ok (.iconst 1, 1) := by decide +kernel
theorem dL_phaseOf_14 : decode cL_phaseOf 14 = .ok (.ireturn, 1) := by decide +kernel
theorem dL_phaseTicks_0 : decode cL_phaseTicks 0 = .ok (.aload_n 2, 1) := by decide +kernel
theorem dL_phaseTicks_1 : decode cL_phaseTicks 1 = .ok (.iconst 0, 1) := by decide +kernel
theorem dL_phaseTicks_2 : decode cL_phaseTicks 2 = .ok (.aload_n 0, 1) := by decide +kernel
theorem dL_phaseTicks_3 : decode cL_phaseTicks 3 = .ok (.iload_n 1, 1) := by decide +kernel
theorem dL_phaseTicks_4 : decode cL_phaseTicks 4 = .ok (.invokevirtual 62, 3) := by decide +kernel
theorem dL_phaseTicks_12 : decode cL_phaseTicks 12 = .ok (.astore_n 3, 1) := by decide +kernel
theorem dL_phaseTicks_13 : decode cL_phaseTicks 13 = .ok (.iconst 1, 1) := by decide +kernel
theorem dL_phaseTicks_14 : decode cL_phaseTicks 14 = .ok (.ireturn, 1) := by decide +kernel
theorem dL_distance_0 : decode cL_distance 0 = .ok (.aload_n 3, 1) := by decide +kernel
theorem dL_distance_1 : decode cL_distance 1 = .ok (.iconst 0, 1) := by decide +kernel
theorem dL_distance_2 : decode cL_distance 2 = .ok (.aload_n 0, 1) := by decide +kernel
theorem dL_distance_3 : decode cL_distance 3 = .ok (.iload_n 1, 1) := by decide +kernel
theorem dL_distance_4 : decode cL_distance 4 = .ok (.iload_n 2, 1) := by decide +kernel
theorem dL_distance_5 : decode cL_distance 5 = .ok (.invokevirtual 65, 3) := by decide +kernel
theorem dL_distance_13 : decode cL_distance 13 = .ok (.astore 4, 2) := by decide +kernel
theorem dL_distance_15 : decode cL_distance 15 = .ok (.iconst 1, 1) := by decide +kernel
theorem dL_distance_16 : decode cL_distance 16 = .ok (.ireturn, 1) := by decide +kernel
theorem dL_nextLink_0 : decode cL_nextLink 0 = .ok (.aload_n 3, 1) := by decide +kernel
theorem dL_nextLink_1 : decode cL_nextLink 1 = .ok (.iconst 0, 1) := by decide +kernel
theorem dL_nextLink_2 : decode cL_nextLink 2 = .ok (.aload_n 0, 1) := by decide +kernel
theorem dL_nextLink_3 : decode cL_nextLink 3 = .ok (.iload_n 1, 1) := by decide +kernel
theorem dL_nextLink_4 : decode cL_nextLink 4 = .ok (.iload_n 2, 1) := by decide +kernel
theorem dL_nextLink_5 : decode cL_nextLink 5 = .ok (.invokevirtual 69, 3) := by decide +kernel
theorem dL_nextLink_13 : decode cL_nextLink 13 = .ok (.astore 4, 2) := by decide +kernel
theorem dL_nextLink_15 : decode cL_nextLink 15 = .ok (.iconst 1, 1) := by decide +kernel
theorem dL_nextLink_16 : decode cL_nextLink 16 = .ok (.ireturn, 1) := by decide +kernel
theorem dL_stateOf_0 : decode cL_stateOf 0 = .ok (.aload_n 2, 1) := by decide +kernel
theorem dL_stateOf_1 : decode cL_stateOf 1 = .ok (.iconst 0, 1) := by decide +kernel
theorem dL_stateOf_2 : decode cL_stateOf 2 = .ok (.aload_n 0, 1) := by decide +kernel
theorem dL_stateOf_3 : decode cL_stateOf 3 = .ok (.iload_n 1, 1) := by decide +kernel
theorem dL_stateOf_4 : decode cL_stateOf 4 = .ok (.invokevirtual 72, 3) := by decide +kernel
theorem dL_stateOf_12 : decode cL_stateOf 12 = .ok (.astore_n 3, 1) := by decide +kernel
theorem dL_stateOf_13 : decode cL_stateOf 13 = .ok (.iconst 1, 1) := by decide +kernel
theorem dL_stateOf_14 : decode cL_stateOf 14 = .ok (.ireturn, 1) := by decide +kernel
theorem dL_linkOf_0 : decode cL_linkOf 0 = .ok (.aload_n 2, 1) := by decide +kernel
theorem dL_linkOf_1 : decode cL_linkOf 1 = .ok (.iconst 0, 1) := by decide +kernel
theorem dL_linkOf_2 : decode cL_linkOf 2 = .ok (.aload_n 0, 1) := by decide +kernel
theorem dL_linkOf_3 : decode cL_linkOf 3 = .ok (.iload_n 1, 1) := by decide +kernel
theorem dL_linkOf_4 : decode cL_linkOf 4 = .ok (.invokevirtual 75, 3) := by decide +kernel
theorem dL_linkOf_12 : decode cL_linkOf 12 = .ok (.astore_n 3, 1) := by decide +kernel
theorem dL_linkOf_13 : decode cL_linkOf 13 = .ok (.iconst 1, 1) := by decide +kernel
theorem dL_linkOf_14 : decode cL_linkOf 14 = .ok (.ireturn, 1) := by decide +kernel
theorem dL_endOf_0 : decode cL_endOf 0 = .ok (.aload_n 2, 1) := by decide +kernel
theorem dL_endOf_1 : decode cL_endOf 1 = .ok (.iconst 0, 1) := by decide +kernel
theorem dL_endOf_2 : decode cL_endOf 2 = .ok (.aload_n 0, 1) := by decide +kernel
theorem dL_endOf_3 : decode cL_endOf 3 = .ok (.iload_n 1, 1) := by decide +kernel
theorem dL_endOf_4 : decode cL_endOf 4 = .ok (.invokevirtual 78, 3) := by decide +kernel
theorem dL_endOf_12 : decode cL_endOf 12 = .ok (.astore_n 3, 1) := by decide +kernel
theorem dL_endOf_13 : decode cL_endOf 13 = .ok (.iconst 1, 1) := by decide +kernel
theorem dL_endOf_14 : decode cL_endOf 14 = .ok (.ireturn, 1) := by decide +kernel
theorem dL_linksOf_0 : decode cL_linksOf 0 = .ok (.aload_n 2, 1) := by decide +kernel
theorem dL_linksOf_1 : decode cL_linksOf 1 = .ok (.iconst 0, 1) := by decide +kernel
theorem dL_linksOf_2 : decode cL_linksOf 2 = .ok (.aload_n 0, 1) := by decide +kernel
theorem dL_linksOf_3 : decode cL_linksOf 3 = .ok (.iload_n 1, 1) := by decide +kernel
theorem dL_linksOf_4 : decode cL_linksOf 4 = .ok (.invokevirtual 81, 3) := by decide +kernel
theorem dL_linksOf_12 : decode cL_linksOf 12 = .ok (.astore_n 3, 1) := by decide +kernel
theorem dL_linksOf_13 : decode cL_linksOf 13 = .ok (.iconst 1, 1) := by decide +kernel
theorem dL_linksOf_14 : decode cL_linksOf 14 = .ok (.ireturn, 1) := by decide +kernel
theorem dL_linkAt_0 : decode cL_linkAt 0 = .ok (.aload_n 3, 1) := by decide +kernel
theorem dL_linkAt_1 : decode cL_linkAt 1 = .ok (.iconst 0, 1) := by decide +kernel
theorem dL_linkAt_2 : decode cL_linkAt 2 = .ok (.aload_n 0, 1) := by decide +kernel
theorem dL_linkAt_3 : decode cL_linkAt 3 = .ok (.iload_n 1, 1) := by decide +kernel
theorem dL_linkAt_4 : decode cL_linkAt 4 = .ok (.iload_n 2, 1) := by decide +kernel
theorem dL_linkAt_5 : decode cL_linkAt 5 = .ok (.invokevirtual 84, 3) := by decide +kernel
theorem dL_linkAt_13 : decode cL_linkAt 13 = .ok (.astore 4, 2) := by decide +kernel
theorem dL_linkAt_15 : decode cL_linkAt 15 = .ok (.iconst 1, 1) := by decide +kernel
theorem dL_linkAt_16 : decode cL_linkAt 16 = .ok (.ireturn, 1) := by decide +kernel
theorem dL_tripOf_0 : decode cL_tripOf 0 = .ok (.aload_n 2, 1) := by decide +kernel
theorem dL_tripOf_1 : decode cL_tripOf 1 = .ok (.iconst 0, 1) := by decide +kernel
theorem dL_tripOf_2 : decode cL_tripOf 2 = .ok (.aload_n 0, 1) := by decide +kernel
theorem dL_tripOf_3 : decode cL_tripOf 3 = .ok (.iload_n 1, 1) := by decide +kernel
theorem dL_tripOf_4 : decode cL_tripOf 4 = .ok (.invokevirtual 87, 3) := by decide +kernel
theorem dL_tripOf_12 : decode cL_tripOf 12 = .ok (.astore_n 3, 1) := by decide +kernel
theorem dL_tripOf_13 : decode cL_tripOf 13 = .ok (.iconst 1, 1) := by decide +kernel
theorem dL_tripOf_14 : decode cL_tripOf 14 = .ok (.ireturn, 1) := by decide +kernel
theorem dL_delayOf_0 : decode cL_delayOf 0 = .ok (.aload_n 2, 1) := by decide +kernel
theorem dL_delayOf_1 : decode cL_delayOf 1 = .ok (.iconst 0, 1) := by decide +kernel
theorem dL_delayOf_2 : decode cL_delayOf 2 = .ok (.aload_n 0, 1) := by decide +kernel
theorem dL_delayOf_3 : decode cL_delayOf 3 = .ok (.iload_n 1, 1) := by decide +kernel
theorem dL_delayOf_4 : decode cL_delayOf 4 = .ok (.invokevirtual 90, 3) := by decide +kernel
theorem dL_delayOf_12 : decode cL_delayOf 12 = .ok (.astore_n 3, 1) := by decide +kernel
theorem dL_delayOf_13 : decode cL_delayOf 13 = .ok (.iconst 1, 1) := by decide +kernel
theorem dL_delayOf_14 : decode cL_delayOf 14 = .ok (.ireturn, 1) := by decide +kernel
theorem dL_waiting_0 : decode cL_waiting 0 = .ok (.aload_n 2, 1) := by decide +kernel
theorem dL_waiting_1 : decode cL_waiting 1 = .ok (.iconst 0, 1) := by decide +kernel
theorem dL_waiting_2 : decode cL_waiting 2 = .ok (.aload_n 0, 1) := by decide +kernel
theorem dL_waiting_3 : decode cL_waiting 3 = .ok (.iload_n 1, 1) := by decide +kernel
theorem dL_waiting_4 : decode cL_waiting 4 = .ok (.invokevirtual 93, 3) := by decide +kernel
theorem dL_waiting_12 : decode cL_waiting 12 = .ok (.astore_n 3, 1) := by decide +kernel
theorem dL_waiting_13 : decode cL_waiting 13 = .ok (.iconst 1, 1) := by decide +kernel
theorem dL_waiting_14 : decode cL_waiting 14 = .ok (.ireturn, 1) := by decide +kernel
theorem dL_onLink_0 : decode cL_onLink 0 = .ok (.aload_n 2, 1) := by decide +kernel
theorem dL_onLink_1 : decode cL_onLink 1 = .ok (.iconst 0, 1) := by decide +kernel
theorem dL_onLink_2 : decode cL_onLink 2 = .ok (.aload_n 0, 1) := by decide +kernel
theorem dL_onLink_3 : decode cL_onLink 3 = .ok (.iload_n 1, 1) := by decide +kernel
theorem dL_onLink_4 : decode cL_onLink 4 = .ok (.invokevirtual 96, 3) := by decide +kernel
theorem dL_onLink_12 : decode cL_onLink 12 = .ok (.astore_n 3, 1) := by decide +kernel
theorem dL_onLink_13 : decode cL_onLink 13 = .ok (.iconst 1, 1) := by decide +kernel
theorem dL_onLink_14 : decode cL_onLink 14 = .ok (.ireturn, 1) := by decide +kernel
theorem dL_vehicleAt_0 : decode cL_vehicleAt 0 = .ok (.aload_n 3, 1) := by decide +kernel
theorem dL_vehicleAt_1 : decode cL_vehicleAt 1 = .ok (.iconst 0, 1) := by decide +kernel
theorem dL_vehicleAt_2 : decode cL_vehicleAt 2 = .ok (.aload_n 0, 1) := by decide +kernel
theorem dL_vehicleAt_3 : decode cL_vehicleAt 3 = .ok (.iload_n 1, 1) := by decide +kernel
theorem dL_vehicleAt_4 : decode cL_vehicleAt 4 = .ok (.iload_n 2, 1) := by decide +kernel
theorem dL_vehicleAt_5 : decode cL_vehicleAt 5 = .ok (.invokevirtual 99, 3) := by decide +kernel
theorem dL_vehicleAt_13 : decode cL_vehicleAt 13 = .ok (.astore 4, 2) := by decide +kernel
theorem dL_vehicleAt_15 : decode cL_vehicleAt 15 = .ok (.iconst 1, 1) := by decide +kernel
theorem dL_vehicleAt_16 : decode cL_vehicleAt 16 = .ok (.ireturn, 1) := by decide +kernel
theorem dL_queue_0 : decode cL_queue 0 = .ok (.aload_n 2, 1) := by decide +kernel
theorem dL_queue_1 : decode cL_queue 1 = .ok (.iconst 0, 1) := by decide +kernel
theorem dL_queue_2 : decode cL_queue 2 = .ok (.aload_n 0, 1) := by decide +kernel
theorem dL_queue_3 : decode cL_queue 3 = .ok (.iload_n 1, 1) := by decide +kernel
theorem dL_queue_4 : decode cL_queue 4 = .ok (.invokevirtual 102, 3) := by decide +kernel
theorem dL_queue_12 : decode cL_queue 12 = .ok (.astore_n 3, 1) := by decide +kernel
theorem dL_queue_13 : decode cL_queue 13 = .ok (.iconst 1, 1) := by decide +kernel
theorem dL_queue_14 : decode cL_queue 14 = .ok (.ireturn, 1) := by decide +kernel
theorem dL_count_0 : decode cL_count 0 = .ok (.aload_n 3, 1) := by decide +kernel
theorem dL_count_1 : decode cL_count 1 = .ok (.iconst 0, 1) := by decide +kernel
theorem dL_count_2 : decode cL_count 2 = .ok (.aload_n 0, 1) := by decide +kernel
theorem dL_count_3 : decode cL_count 3 = .ok (.iload_n 1, 1) := by decide +kernel
theorem dL_count_4 : decode cL_count 4 = .ok (.iload_n 2, 1) := by decide +kernel
theorem dL_count_5 : decode cL_count 5 = .ok (.invokevirtual 105, 3) := by decide +kernel
theorem dL_count_13 : decode cL_count 13 = .ok (.astore 4, 2) := by decide +kernel
theorem dL_count_15 : decode cL_count 15 = .ok (.iconst 1, 1) := by decide +kernel
theorem dL_count_16 : decode cL_count 16 = .ok (.ireturn, 1) := by decide +kernel
theorem dL_turned_0 : decode cL_turned 0 = .ok (.aload_n 3, 1) := by decide +kernel
theorem dL_turned_1 : decode cL_turned 1 = .ok (.iconst 0, 1) := by decide +kernel
theorem dL_turned_2 : decode cL_turned 2 = .ok (.aload_n 0, 1) := by decide +kernel
theorem dL_turned_3 : decode cL_turned 3 = .ok (.iload_n 1, 1) := by decide +kernel
theorem dL_turned_4 : decode cL_turned 4 = .ok (.iload_n 2, 1) := by decide +kernel
theorem dL_turned_5 : decode cL_turned 5 = .ok (.invokevirtual 108, 3) := by decide +kernel
theorem dL_turned_13 : decode cL_turned 13 = .ok (.astore 4, 2) := by decide +kernel
theorem dL_turned_15 : decode cL_turned 15 = .ok (.iconst 1, 1) := by decide +kernel
theorem dL_turned_16 : decode cL_turned 16 = .ok (.ireturn, 1) := by decide +kernel
theorem dL_ofFlow_0 : decode cL_ofFlow 0 = .ok (.aload_n 3, 1) := by decide +kernel
theorem dL_ofFlow_1 : decode cL_ofFlow 1 = .ok (.iconst 0, 1) := by decide +kernel
theorem dL_ofFlow_2 : decode cL_ofFlow 2 = .ok (.aload_n 0, 1) := by decide +kernel
theorem dL_ofFlow_3 : decode cL_ofFlow 3 = .ok (.iload_n 1, 1) := by decide +kernel
theorem dL_ofFlow_4 : decode cL_ofFlow 4 = .ok (.iload_n 2, 1) := by decide +kernel
theorem dL_ofFlow_5 : decode cL_ofFlow 5 = .ok (.invokevirtual 111, 3) := by decide +kernel
theorem dL_ofFlow_13 : decode cL_ofFlow 13 = .ok (.astore 4, 2) := by decide +kernel
theorem dL_ofFlow_15 : decode cL_ofFlow 15 = .ok (.iconst 1, 1) := by decide +kernel
theorem dL_ofFlow_16 : decode cL_ofFlow 16 = .ok (.ireturn, 1) := by decide +kernel
theorem dL_arrivesIn_0 : decode cL_arrivesIn 0 = .ok (.aload_n 3, 1) := by decide +kernel
theorem dL_arrivesIn_1 : decode cL_arrivesIn 1 = .ok (.iconst 0, 1) := by decide +kernel
theorem dL_arrivesIn_2 : decode cL_arrivesIn 2 = .ok (.aload_n 0, 1) := by decide +kernel
theorem dL_arrivesIn_3 : decode cL_arrivesIn 3 = .ok (.iload_n 1, 1) := by decide +kernel
theorem dL_arrivesIn_4 : decode cL_arrivesIn 4 = .ok (.iload_n 2, 1) := by decide +kernel
theorem dL_arrivesIn_5 : decode cL_arrivesIn 5 = .ok (.invokevirtual 114, 3) := by decide +kernel
theorem dL_arrivesIn_13 : decode cL_arrivesIn 13 = .ok (.astore 4, 2) := by decide +kernel
theorem dL_arrivesIn_15 : decode cL_arrivesIn 15 = .ok (.iconst 1, 1) := by decide +kernel
theorem dL_arrivesIn_16 : decode cL_arrivesIn 16 = .ok (.ireturn, 1) := by decide +kernel
theorem dL_distanceWithout_0 : decode cL_distanceWithout 0 = .ok (.aload 4, 2) := by decide +kernel
theorem dL_distanceWithout_2 : decode cL_distanceWithout 2 = .ok (.iconst 0, 1) := by decide +kernel
theorem dL_distanceWithout_3 : decode cL_distanceWithout 3 = .ok (.aload_n 0, 1) := by decide +kernel
theorem dL_distanceWithout_4 : decode cL_distanceWithout 4 = .ok (.iload_n 1, 1) := by decide +kernel
theorem dL_distanceWithout_5 : decode cL_distanceWithout 5 = .ok (.iload_n 2, 1) := by decide +kernel
theorem dL_distanceWithout_6 : decode cL_distanceWithout 6 = .ok (.iload_n 3, 1) := by decide +kernel
theorem dL_distanceWithout_7 : decode cL_distanceWithout 7 = .ok (.invokevirtual 120, 3) := by decide +kernel
theorem dL_distanceWithout_15 : decode cL_distanceWithout 15 = .ok (.astore 5, 2) := by decide +kernel
theorem dL_distanceWithout_17 : decode cL_distanceWithout 17 = .ok (.iconst 1, 1) := by decide +kernel
theorem dL_distanceWithout_18 : decode cL_distanceWithout 18 = .ok (.ireturn, 1) := by decide +kernel
theorem dL_setRefresh_0 : decode cL_setRefresh 0 = .ok (.aload_n 2, 1) := by decide +kernel
theorem dL_setRefresh_1 : decode cL_setRefresh 1 = .ok (.iconst 0, 1) := by decide +kernel
theorem dL_setRefresh_2 : decode cL_setRefresh 2 = .ok (.aload_n 0, 1) := by decide +kernel
theorem dL_setRefresh_3 : decode cL_setRefresh 3 = .ok (.iload_n 1, 1) := by decide +kernel
theorem dL_setRefresh_4 : decode cL_setRefresh 4 = .ok (.invokevirtual 31, 3) := by decide +kernel
theorem dL_setRefresh_7 : decode cL_setRefresh 7 = .ok (.i2l, 1) := by decide +kernel
theorem dL_setRefresh_8 : decode cL_setRefresh 8 = .ok (.lastore, 1) := by decide +kernel
theorem dL_setRefresh_9 : decode cL_setRefresh 9 = .ok (.goto 6, 3) := by decide +kernel
theorem dL_setRefresh_15 : decode cL_setRefresh 15 = .ok (.iconst 0, 1) := by decide +kernel
theorem dL_setRefresh_16 : decode cL_setRefresh 16 = .ok (.ireturn, 1) := by decide +kernel
theorem dL_setRefresh_12 : decode cL_setRefresh 12 = .ok (.astore_n 3, 1) := by decide +kernel
theorem dL_setRefresh_13 : decode cL_setRefresh 13 = .ok (.iconst 1, 1) := by decide +kernel
theorem dL_setRefresh_14 : decode cL_setRefresh 14 = .ok (.ireturn, 1) := by decide +kernel
theorem dL_step_0 : decode cL_step 0 = .ok (.aload_n 2, 1) := by decide +kernel
theorem dL_step_1 : decode cL_step 1 = .ok (.iconst 0, 1) := by decide +kernel
theorem dL_step_2 : decode cL_step 2 = .ok (.aload_n 0, 1) := by decide +kernel
theorem dL_step_3 : decode cL_step 3 = .ok (.iload_n 1, 1) := by decide +kernel
theorem dL_step_4 : decode cL_step 4 = .ok (.invokevirtual 46, 3) := by decide +kernel
theorem dL_step_7 : decode cL_step 7 = .ok (.i2l, 1) := by decide +kernel
theorem dL_step_8 : decode cL_step 8 = .ok (.lastore, 1) := by decide +kernel
theorem dL_step_9 : decode cL_step 9 = .ok (.goto 6, 3) := by decide +kernel
theorem dL_step_15 : decode cL_step 15 = .ok (.iconst 0, 1) := by decide +kernel
theorem dL_step_16 : decode cL_step 16 = .ok (.ireturn, 1) := by decide +kernel
theorem dL_step_12 : decode cL_step 12 = .ok (.astore_n 3, 1) := by decide +kernel
theorem dL_step_13 : decode cL_step 13 = .ok (.iconst 1, 1) := by decide +kernel
theorem dL_step_14 : decode cL_step 14 = .ok (.ireturn, 1) := by decide +kernel
theorem dL_emptyIn_0 : decode cL_emptyIn 0 = .ok (.aload_n 2, 1) := by decide +kernel
theorem dL_emptyIn_1 : decode cL_emptyIn 1 = .ok (.iconst 0, 1) := by decide +kernel
theorem dL_emptyIn_2 : decode cL_emptyIn 2 = .ok (.aload_n 0, 1) := by decide +kernel
theorem dL_emptyIn_3 : decode cL_emptyIn 3 = .ok (.iload_n 1, 1) := by decide +kernel
theorem dL_emptyIn_4 : decode cL_emptyIn 4 = .ok (.invokevirtual 117, 3) := by decide +kernel
theorem dL_emptyIn_7 : decode cL_emptyIn 7 = .ok (.i2l, 1) := by decide +kernel
theorem dL_emptyIn_8 : decode cL_emptyIn 8 = .ok (.lastore, 1) := by decide +kernel
theorem dL_emptyIn_9 : decode cL_emptyIn 9 = .ok (.goto 6, 3) := by decide +kernel
theorem dL_emptyIn_15 : decode cL_emptyIn 15 = .ok (.iconst 0, 1) := by decide +kernel
theorem dL_emptyIn_16 : decode cL_emptyIn 16 = .ok (.ireturn, 1) := by decide +kernel
theorem dL_emptyIn_12 : decode cL_emptyIn 12 = .ok (.astore_n 3, 1) := by decide +kernel
theorem dL_emptyIn_13 : decode cL_emptyIn 13 = .ok (.iconst 1, 1) := by decide +kernel
theorem dL_emptyIn_14 : decode cL_emptyIn 14 = .ok (.ireturn, 1) := by decide +kernel
set_option maxRecDepth 100000 in
set_option maxHeartbeats 4000000 in
/-- addNode -/
theorem tm_L_addNode (l : Launch) (hst : l.stackTraces = false) (dC : Nat → ClassId) (dI : Nat → Nat → Nat) (cy : Nat → ClassId) (a0 : Nat) (a1 : Nat) (a2 : Nat) (aT : Nat) (b1 : Nat) (b2 : Nat) (b3 : Nat) (b4 : Nat) (b5 : Nat) (b6 : Nat) (b7 : Nat) (o0 : Nat) (sz : Nat) : vx_Met l yL_addNode (tp_wW yL_addNode cL_addNode 3 (some .int) [(0, 8, 11, 13)]) ({ frames := 1, cells := 0, slots := 0, locals := 20 }) (va_Pc [.ref a0, .ref o0] (tp_Pre dC dI cy [(a0, .inr (8, [.ref a1, .ref aT])), (a1, .inr (5, [.ref a2, .ref b1, .ref b2, .ref b3, .ref b4, .ref b5, .int 0, .int 1, .int 0, .int 0, .int 0, .int 0])), (a2, .inr (2, [.ref b6, .int 0, .ref b7, .int 0])), (o0, .inl (cy 1, 1, .inr (.inl ((fun _ => 0)))))] sz)) (va_Qi (fun (r u : Int32) => r = u) (fun (u : Int32) (t : State) => ∃ (g : Nat → Int64), (u = 0) ∧ (g (0 : Int32).toNatClampNeg = 0) ∧ tp_Post dC dI (va_A [(a0, .inr (8, [.ref a1, .ref aT])), (a1, .inr (5, [.ref a2, .ref b1, .ref b2, .ref b3, .ref b4, .ref b5, .int 0, .int 1, .int 0, .int 0, .int 0, .int 0])), (a2, .inr (2, [.ref b6, .int 0, .ref b7, .int 0])), (o0, .inl (cy 1, 1, .inr (.inl ((fun _ => 0)))))] sz) [(o0, .inl (cy 1, 1, .inr (.inl g)))] t) (va_A [(a0, .inr (8, [.ref a1, .ref aT])), (a1, .inr (5, [.ref a2, .ref b1, .ref b2, .ref b3, .ref b4, .ref b5, .int 0, .int 1, .int 0, .int 0, .int 0, .int 0])), (a2, .inr (2, [.ref b6, .int 0, .ref b7, .int 0])), (o0, .inl (cy 1, 1, .inr (.inl ((fun _ => 0)))))] sz)) (vx_X (fun _ : Unit => True) (fun (E : String) (_ : Unit) (t : State) => (False) ∧ tp_Post dC dI (va_A [(a0, .inr (8, [.ref a1, .ref aT])), (a1, .inr (5, [.ref a2, .ref b1, .ref b2, .ref b3, .ref b4, .ref b5, .int 0, .int 1, .int 0, .int 0, .int 0, .int 0])), (a2, .inr (2, [.ref b6, .int 0, .ref b7, .int 0])), (o0, .inl (cy 1, 1, .inr (.inl ((fun _ => 0)))))] sz) [] t) (va_A [(a0, .inr (8, [.ref a1, .ref aT])), (a1, .inr (5, [.ref a2, .ref b1, .ref b2, .ref b3, .ref b4, .ref b5, .int 0, .int 1, .int 0, .int 0, .int 0, .int 0])), (a2, .inr (2, [.ref b6, .int 0, .ref b7, .int 0])), (o0, .inl (cy 1, 1, .inr (.inl ((fun _ => 0)))))] sz)) 0 0 (va_A [(a0, .inr (8, [.ref a1, .ref aT])), (a1, .inr (5, [.ref a2, .ref b1, .ref b2, .ref b3, .ref b4, .ref b5, .int 0, .int 1, .int 0, .int 0, .int 0, .int 0])), (a2, .inr (2, [.ref b6, .int 0, .ref b7, .int 0])), (o0, .inl (cy 1, 1, .inr (.inl ((fun _ => 0)))))] sz) := by
  refine vx_ofWH (cc := cL_addNode) (maxL := 3) (ret := (some .int)) (hh := [(0, 8, 11, 13)]) (by decide) rfl ?_
  intro p e s m args below meth c s₁ B hml hv
  obtain ⟨rfl, hsz, hP, hK, hD0, hE, hZ⟩ := hv
  have hx := B.exec
  have hb := B.bytes
  have hr := B.returns
  have hts0 := atoms_spec (ws := tp_wW yL_addNode cL_addNode 3 (some .int) [(0, 8, 11, 13)]) B.pre
  have hts : ∀ w ∈ tp_all, w.before _ s = true := fun w h => hts0 w (List.mem_cons_of_mem _ h)
  have htb : c.exceptionTable.toList = tableOf [(0, 8, 11, 13)] := vx_table (x := yL_addNode) B (hts0 _ List.mem_cons_self)
  have hown : s.vm.findClass RL = some m.cls := findClass_of_methodNamed B.named
  have hlocks := B.notSynchronized
  subst hsz
  have hD := hD0.self (sz := s.heap.size)
  generalize hAe : va_A [(a0, .inr (8, [.ref a1, .ref aT])), (a1, .inr (5, [.ref a2, .ref b1, .ref b2, .ref b3, .ref b4, .ref b5, .int 0, .int 1, .int 0, .int 0, .int 0, .int 0])), (a2, .inr (2, [.ref b6, .int 0, .ref b7, .int 0])), (o0, .inl (cy 1, 1, .inr (.inl ((fun _ => 0)))))] s.heap.size = A at hD hZ ⊢
  have hA : ∀ q : Nat, s.heap.size ≤ q → A q := fun q h => by rw [← hAe]; exact Or.inr h
  have hS : va_S A s.heap s.heap [] := va_S.rf
  have hl9 := lv_entry ([.ref a0, .ref o0]) (n := 3) (Nat.le_of_ble_eq_true rfl)
  rw [lg_entry_eq]
  generalize (lg_sl ([.ref a0, .ref o0]) ++ List.replicate (3 - (lg_sl ([.ref a0, .ref o0])).length) Slot.unset).toArray = ls at hl9 ⊢
  have hl : lv_has ls 3 [(0, .ref a0), (1, .ref o0)] := hl9
  refine lv_aload_n hx hb dL_addNode_0 rfl (lv_at hl 1 rfl) ?_
  refine lv_iconst (v := 0) hx hb dL_addNode_1 (by decide) ?_
  refine lv_aload_n hx hb dL_addNode_2 rfl (lv_at hl 0 rfl) ?_
  have hFc := va_free (wc := [(a0, .inr (8, [.ref a1, .ref aT])), (a1, .inr (5, [.ref a2, .ref b1, .ref b2, .ref b3, .ref b4, .ref b5, .int 0, .int 1, .int 0, .int 0, .int 0, .int 0])), (a2, .inr (2, [.ref b6, .int 0, .ref b7, .int 0]))]) hD hS hA [0, 1, 2] rfl
  refine va_calli (va_runV (As := []) (rest := [.int 0, .ref o0]) ⟨hx, hb, hml, hown, hts⟩ (tm_addNode l hst dC dI cy a0 a1 a2 aT b1 b2 b3 b4 b5 b6 b7 s.heap.size) (tp_cwV 0 hts tw_677 tw_678 tw_679 tw_38 tw_680 rfl rfl (by decide +kernel) ⟨Nat.le_of_ble_eq_true rfl, Nat.le_of_ble_eq_true rfl⟩) ⟨tp_blind, va_recv hK hP (ci := 8) (q0 := 0) rfl rfl, fun U hU hW => ⟨rfl, tp_pay hK hP hD hE hZ hS [0, 1, 2] (by decide) rfl hFc U hU hW⟩⟩ rfl rfl hl.1 rfl (lv_room (Nat.le_of_ble_eq_true rfl)) dL_addNode_3 ⟨(Nat.le_of_ble_eq_true rfl), (Nat.le_of_ble_eq_true rfl)⟩) hS (fun q _ h => hFc q h) hFc (fun r_1 u t H1 locs ht hvm hw hB hz1 hk1 hS => ?_)
  obtain rfl := hw
  obtain ⟨f_2, hP1, hD1⟩ := hB
  subst f_2
  rw [ht] at hP1
  obtain ⟨hP, hD⟩ := va_join (wr := [(o0, .inl (cy 1, 1, .inr (.inl ((fun _ => 0)))))]) (w1 := []) hP hD [0, 1, 2] [3] rfl rfl (by decide) (by decide) hk1 hFc hP1 hD1
  generalize H1 = H at hP hS ⊢
  have hP : va_P (dC, dI) vwCl [(o0, .inl (cy 1, 1, .inr (.inl ((fun _ => 0)))))] _ := hP
  have hD : va_D A [(o0, .inl (cy 1, 1, .inr (.inl ((fun _ => 0)))))] := hD
  refine lv_i2l (v := 0) hx hb dL_addNode_6 (by decide) ?_
  refine va_last hx hb hK hP hD hS 0 1 rfl rfl (by unfold vp_in; decide) dL_addNode_7 (fun H locs hP hD hS => ?_)
  have hP : va_P (dC, dI) vwCl [(o0, .inl (cy 1, 1, .inr (.inl (vp_updL ((fun _ => 0)) (0 : Int32).toNatClampNeg 0))))] _ := hP
  have hD : va_D A [(o0, .inl (cy 1, 1, .inr (.inl (vp_updL ((fun _ => 0)) (0 : Int32).toNatClampNeg 0))))] := hD
  refine lv_goto (tgt := 14) hx hb dL_addNode_8 (by decide) ?_
  refine lv_iconst (v := 0) hx hb dL_addNode_14 (by decide) ?_
  refine W.widen (k := 0) (n := 0) (Nat.le_of_ble_eq_true rfl) (Nat.le_of_ble_eq_true rfl) ?_
  refine vx_ret ?_
  have hP9 := hP.sub (ws' := [(o0, .inl (cy 1, 1, .inr (.inl (vp_updL ((fun _ => 0)) (0 : Int32).toNatClampNeg 0))))]) [0] rfl
  have hD9 := hD.sub (ws' := [(o0, .inl (cy 1, 1, .inr (.inl (vp_updL ((fun _ => 0)) (0 : Int32).toNatClampNeg 0))))]) [0] (by decide) rfl
  exact W.iret (v := 0) hx hb hr (fun t ht hW => ⟨⟨0, 0, rfl, rfl, ⟨(vp_updL ((fun _ => 0)) (0 : Int32).toNatClampNeg 0), (by first | exact pk_uLs | rfl | assumption), (by first | exact pk_uLs | rfl | assumption), by rw [ht]; exact hP9, hD9⟩⟩, hS.F ht⟩) hS.2.2 dL_addNode_15
set_option maxRecDepth 100000 in
set_option maxHeartbeats 4000000 in
/-- addLink -/
theorem tm_L_addLink (l : Launch) (hst : l.stackTraces = false) (dC : Nat → ClassId) (dI : Nat → Nat → Nat) (cy : Nat → ClassId) (a0 : Nat) (a1 : Nat) (a2 : Nat) (aT : Nat) (b1 : Nat) (b2 : Nat) (b3 : Nat) (b4 : Nat) (b5 : Nat) (b6 : Nat) (b7 : Nat) (o0 : Nat) (p1 : Int32) (p2 : Int32) (p3 : Int32) (p4 : Int32) (p5 : Int32) (sz : Nat) : vx_Met l yL_addLink (tp_wW yL_addLink cL_addLink 8 (some .int) [(0, 16, 19, 19), (0, 16, 23, 21), (0, 16, 27, 13)]) ({ frames := 8, cells := 1, slots := 6, locals := 128 }) (va_Pc [.ref a0, .int p1, .int p2, .int p3, .int p4, .int p5, .ref o0] (tp_Pre dC dI cy [(a0, .inr (8, [.ref a1, .ref aT])), (a1, .inr (5, [.ref a2, .ref b1, .ref b2, .ref b3, .ref b4, .ref b5, .int 0, .int 1, .int 0, .int 0, .int 0, .int 0])), (a2, .inr (2, [.ref b6, .int 0, .ref b7, .int 0])), (o0, .inl (cy 1, 1, .inr (.inl ((fun _ => 0)))))] sz)) (va_Qi (fun (r u : Int32) => r = u) (fun (u : Int32) (t : State) => (u = 1) ∧ tp_Post dC dI (va_A [(a0, .inr (8, [.ref a1, .ref aT])), (a1, .inr (5, [.ref a2, .ref b1, .ref b2, .ref b3, .ref b4, .ref b5, .int 0, .int 1, .int 0, .int 0, .int 0, .int 0])), (a2, .inr (2, [.ref b6, .int 0, .ref b7, .int 0])), (o0, .inl (cy 1, 1, .inr (.inl ((fun _ => 0)))))] sz) [(o0, .inl (cy 1, 1, .inr (.inl ((fun _ => 0)))))] t) (va_A [(a0, .inr (8, [.ref a1, .ref aT])), (a1, .inr (5, [.ref a2, .ref b1, .ref b2, .ref b3, .ref b4, .ref b5, .int 0, .int 1, .int 0, .int 0, .int 0, .int 0])), (a2, .inr (2, [.ref b6, .int 0, .ref b7, .int 0])), (o0, .inl (cy 1, 1, .inr (.inl ((fun _ => 0)))))] sz)) (vx_X (fun _ : Unit => True) (fun (E : String) (_ : Unit) (t : State) => (False) ∧ tp_Post dC dI (va_A [(a0, .inr (8, [.ref a1, .ref aT])), (a1, .inr (5, [.ref a2, .ref b1, .ref b2, .ref b3, .ref b4, .ref b5, .int 0, .int 1, .int 0, .int 0, .int 0, .int 0])), (a2, .inr (2, [.ref b6, .int 0, .ref b7, .int 0])), (o0, .inl (cy 1, 1, .inr (.inl ((fun _ => 0)))))] sz) [] t) (va_A [(a0, .inr (8, [.ref a1, .ref aT])), (a1, .inr (5, [.ref a2, .ref b1, .ref b2, .ref b3, .ref b4, .ref b5, .int 0, .int 1, .int 0, .int 0, .int 0, .int 0])), (a2, .inr (2, [.ref b6, .int 0, .ref b7, .int 0])), (o0, .inl (cy 1, 1, .inr (.inl ((fun _ => 0)))))] sz)) 1 6 (va_A [(a0, .inr (8, [.ref a1, .ref aT])), (a1, .inr (5, [.ref a2, .ref b1, .ref b2, .ref b3, .ref b4, .ref b5, .int 0, .int 1, .int 0, .int 0, .int 0, .int 0])), (a2, .inr (2, [.ref b6, .int 0, .ref b7, .int 0])), (o0, .inl (cy 1, 1, .inr (.inl ((fun _ => 0)))))] sz) := by
  refine vx_ofWH (cc := cL_addLink) (maxL := 8) (ret := (some .int)) (hh := [(0, 16, 19, 19), (0, 16, 23, 21), (0, 16, 27, 13)]) (by decide) rfl ?_
  intro p e s m args below meth c s₁ B hml hv
  obtain ⟨rfl, hsz, hP, hK, hD0, hE, hZ⟩ := hv
  have hx := B.exec
  have hb := B.bytes
  have hr := B.returns
  have hts0 := atoms_spec (ws := tp_wW yL_addLink cL_addLink 8 (some .int) [(0, 16, 19, 19), (0, 16, 23, 21), (0, 16, 27, 13)]) B.pre
  have hts : ∀ w ∈ tp_all, w.before _ s = true := fun w h => hts0 w (List.mem_cons_of_mem _ h)
  have htb : c.exceptionTable.toList = tableOf [(0, 16, 19, 19), (0, 16, 23, 21), (0, 16, 27, 13)] := vx_table (x := yL_addLink) B (hts0 _ List.mem_cons_self)
  have hown : s.vm.findClass RL = some m.cls := findClass_of_methodNamed B.named
  have hlocks := B.notSynchronized
  subst hsz
  have hD := hD0.self (sz := s.heap.size)
  generalize hAe : va_A [(a0, .inr (8, [.ref a1, .ref aT])), (a1, .inr (5, [.ref a2, .ref b1, .ref b2, .ref b3, .ref b4, .ref b5, .int 0, .int 1, .int 0, .int 0, .int 0, .int 0])), (a2, .inr (2, [.ref b6, .int 0, .ref b7, .int 0])), (o0, .inl (cy 1, 1, .inr (.inl ((fun _ => 0)))))] s.heap.size = A at hD hZ ⊢
  have hA : ∀ q : Nat, s.heap.size ≤ q → A q := fun q h => by rw [← hAe]; exact Or.inr h
  have hS : va_S A s.heap s.heap [] := va_S.rf
  have hl9 := lv_entry ([.ref a0, .int p1, .int p2, .int p3, .int p4, .int p5, .ref o0]) (n := 8) (Nat.le_of_ble_eq_true rfl)
  rw [lg_entry_eq]
  generalize (lg_sl ([.ref a0, .int p1, .int p2, .int p3, .int p4, .int p5, .ref o0]) ++ List.replicate (8 - (lg_sl ([.ref a0, .int p1, .int p2, .int p3, .int p4, .int p5, .ref o0])).length) Slot.unset).toArray = ls at hl9 ⊢
  have hl : lv_has ls 8 [(0, .ref a0), (1, .int p1), (2, .int p2), (3, .int p3), (4, .int p4), (5, .int p5), (6, .ref o0)] := hl9
  refine lv_aload hx hb dL_addLink_0 (lv_at hl 6 rfl) ?_
  refine lv_iconst (v := 0) hx hb dL_addLink_2 (by decide) ?_
  refine lv_aload_n hx hb dL_addLink_3 rfl (lv_at hl 0 rfl) ?_
  refine lv_iload_n hx hb dL_addLink_4 rfl (lv_at hl 1 rfl) ?_
  refine lv_iload_n hx hb dL_addLink_5 rfl (lv_at hl 2 rfl) ?_
  refine lv_iload_n hx hb dL_addLink_6 rfl (lv_at hl 3 rfl) ?_
  refine lv_iload hx hb dL_addLink_7 (lv_at hl 4 rfl) ?_
  refine lv_iload hx hb dL_addLink_9 (lv_at hl 5 rfl) ?_
  have hFc := va_free (wc := [(a0, .inr (8, [.ref a1, .ref aT])), (a1, .inr (5, [.ref a2, .ref b1, .ref b2, .ref b3, .ref b4, .ref b5, .int 0, .int 1, .int 0, .int 0, .int 0, .int 0])), (a2, .inr (2, [.ref b6, .int 0, .ref b7, .int 0]))]) hD hS hA [0, 1, 2] rfl
  refine vx_callv (vx_runV (As := [.int p1, .int p2, .int p3, .int p4, .int p5]) (rest := [.int 0, .ref o0]) ⟨hx, hb, hml, hown, hts⟩ (tm_addLink l hst dC dI cy a0 a1 a2 aT b1 b2 b3 b4 b5 b6 b7 p1 p2 p3 p4 p5 s.heap.size) (tp_cwV 5 hts tw_702 tw_703 tw_704 tw_38 tw_705 rfl rfl (by decide +kernel) ⟨Nat.le_of_ble_eq_true rfl, Nat.le_of_ble_eq_true rfl⟩) ⟨tp_blind, va_recv hK hP (ci := 8) (q0 := 0) rfl rfl, fun U hU hW => ⟨rfl, tp_pay hK hP hD hE hZ hS [0, 1, 2] (by decide) rfl hFc U hU hW⟩⟩ rfl rfl hl.1 rfl (lv_room (Nat.le_of_ble_eq_true rfl)) dL_addLink_11 ⟨(Nat.le_of_ble_eq_true rfl), (Nat.le_of_ble_eq_true rfl)⟩) hS (fun q _ h => hFc q h) hFc (fun q _ h => hFc q h) (fun E9 ce q9 u t H1 locs ht hvm hw hB hz1 hk1 hS hce hcv hcl => ?_) (fun u t H1 locs ht hvm hw hB hz1 hk1 hS => ?_)
  · obtain ⟨rfl, hP1, hD1⟩ := hB
    rw [ht] at hP1
    obtain ⟨hP, hD⟩ := va_join (wr := [(o0, .inl (cy 1, 1, .inr (.inl ((fun _ => 0)))))]) (w1 := []) hP hD [0, 1, 2] [3] rfl rfl (by decide) (by decide) hk1 hFc hP1 hD1
    generalize H1 = H at hP hS hce ⊢
    have hP : va_P (dC, dI) vwCl [(o0, .inl (cy 1, 1, .inr (.inl ((fun _ => 0)))))] _ := hP
    have hD : va_D A [(o0, .inl (cy 1, 1, .inr (.inl ((fun _ => 0)))))] := hD
    refine vx_catch (own := RL) (name := "java/lang/IndexOutOfBoundsException") hown [] { startPc := 0, endPc := 16, handlerPc := 19, catchType := 19 } [{ startPc := 0, endPc := 16, handlerPc := 23, catchType := 21 }, { startPc := 0, endPc := 16, handlerPc := 27, catchType := 13 }] htb (fun z hz => by cases hz) (by decide) (by decide) (hts _ tw_700) (va_Nw.use rfl (hE.2.2.2.2.2.1 _ (List.mem_of_getElem? (i := 0) rfl))) hce hcv hcl ?_
    refine lv_astore (lv' := [(7, .ref q9), (0, .ref a0), (1, .int p1), (2, .int p2), (3, .int p3), (4, .int p4), (5, .int p5), (6, .ref o0)]) hx hb dL_addLink_19 hl (by decide) rfl (fun ls hl => ?_)
    refine lv_iconst (v := 1) hx hb dL_addLink_21 (by decide) ?_
    refine W.widen (k := 1) (n := 6) (Nat.le_of_ble_eq_true rfl) (Nat.le_of_ble_eq_true rfl) ?_
    refine vx_ret ?_
    have hP9 := hP.sub (ws' := [(o0, .inl (cy 1, 1, .inr (.inl ((fun _ => 0)))))]) [0] rfl
    have hD9 := hD.sub (ws' := [(o0, .inl (cy 1, 1, .inr (.inl ((fun _ => 0)))))]) [0] (by decide) rfl
    exact W.iret (v := 1) hx hb hr (fun t ht hW => ⟨⟨1, 1, rfl, rfl, ⟨(by first | exact pk_uLs | rfl | assumption), by rw [ht]; exact hP9, hD9⟩⟩, hS.F ht⟩) hS.2.2 dL_addLink_22
  · exact hw.elim
set_option maxRecDepth 100000 in
set_option maxHeartbeats 4000000 in
/-- addPhase -/
theorem tm_L_addPhase (l : Launch) (hst : l.stackTraces = false) (dC : Nat → ClassId) (dI : Nat → Nat → Nat) (cy : Nat → ClassId) (a0 : Nat) (a1 : Nat) (a2 : Nat) (aT : Nat) (b1 : Nat) (b2 : Nat) (b3 : Nat) (b4 : Nat) (b5 : Nat) (b6 : Nat) (b7 : Nat) (o0 : Nat) (p1 : Int32) (p2 : Int32) (p3 : Int32) (p4 : Int32) (sz : Nat) : vx_Met l yL_addPhase (tp_wW yL_addPhase cL_addPhase 7 (some .int) [(0, 14, 17, 19), (0, 14, 21, 21), (0, 14, 25, 13)]) ({ frames := 8, cells := 1, slots := 6, locals := 128 }) (va_Pc [.ref a0, .int p1, .int p2, .int p3, .int p4, .ref o0] (tp_Pre dC dI cy [(a0, .inr (8, [.ref a1, .ref aT])), (a1, .inr (5, [.ref a2, .ref b1, .ref b2, .ref b3, .ref b4, .ref b5, .int 0, .int 1, .int 0, .int 0, .int 0, .int 0])), (a2, .inr (2, [.ref b6, .int 0, .ref b7, .int 0])), (o0, .inl (cy 1, 1, .inr (.inl ((fun _ => 0)))))] sz)) (va_Qi (fun (r u : Int32) => r = u) (fun (u : Int32) (t : State) => (u = 1) ∧ tp_Post dC dI (va_A [(a0, .inr (8, [.ref a1, .ref aT])), (a1, .inr (5, [.ref a2, .ref b1, .ref b2, .ref b3, .ref b4, .ref b5, .int 0, .int 1, .int 0, .int 0, .int 0, .int 0])), (a2, .inr (2, [.ref b6, .int 0, .ref b7, .int 0])), (o0, .inl (cy 1, 1, .inr (.inl ((fun _ => 0)))))] sz) [(o0, .inl (cy 1, 1, .inr (.inl ((fun _ => 0)))))] t) (va_A [(a0, .inr (8, [.ref a1, .ref aT])), (a1, .inr (5, [.ref a2, .ref b1, .ref b2, .ref b3, .ref b4, .ref b5, .int 0, .int 1, .int 0, .int 0, .int 0, .int 0])), (a2, .inr (2, [.ref b6, .int 0, .ref b7, .int 0])), (o0, .inl (cy 1, 1, .inr (.inl ((fun _ => 0)))))] sz)) (vx_X (fun _ : Unit => True) (fun (E : String) (_ : Unit) (t : State) => (False) ∧ tp_Post dC dI (va_A [(a0, .inr (8, [.ref a1, .ref aT])), (a1, .inr (5, [.ref a2, .ref b1, .ref b2, .ref b3, .ref b4, .ref b5, .int 0, .int 1, .int 0, .int 0, .int 0, .int 0])), (a2, .inr (2, [.ref b6, .int 0, .ref b7, .int 0])), (o0, .inl (cy 1, 1, .inr (.inl ((fun _ => 0)))))] sz) [] t) (va_A [(a0, .inr (8, [.ref a1, .ref aT])), (a1, .inr (5, [.ref a2, .ref b1, .ref b2, .ref b3, .ref b4, .ref b5, .int 0, .int 1, .int 0, .int 0, .int 0, .int 0])), (a2, .inr (2, [.ref b6, .int 0, .ref b7, .int 0])), (o0, .inl (cy 1, 1, .inr (.inl ((fun _ => 0)))))] sz)) 1 6 (va_A [(a0, .inr (8, [.ref a1, .ref aT])), (a1, .inr (5, [.ref a2, .ref b1, .ref b2, .ref b3, .ref b4, .ref b5, .int 0, .int 1, .int 0, .int 0, .int 0, .int 0])), (a2, .inr (2, [.ref b6, .int 0, .ref b7, .int 0])), (o0, .inl (cy 1, 1, .inr (.inl ((fun _ => 0)))))] sz) := by
  refine vx_ofWH (cc := cL_addPhase) (maxL := 7) (ret := (some .int)) (hh := [(0, 14, 17, 19), (0, 14, 21, 21), (0, 14, 25, 13)]) (by decide) rfl ?_
  intro p e s m args below meth c s₁ B hml hv
  obtain ⟨rfl, hsz, hP, hK, hD0, hE, hZ⟩ := hv
  have hx := B.exec
  have hb := B.bytes
  have hr := B.returns
  have hts0 := atoms_spec (ws := tp_wW yL_addPhase cL_addPhase 7 (some .int) [(0, 14, 17, 19), (0, 14, 21, 21), (0, 14, 25, 13)]) B.pre
  have hts : ∀ w ∈ tp_all, w.before _ s = true := fun w h => hts0 w (List.mem_cons_of_mem _ h)
  have htb : c.exceptionTable.toList = tableOf [(0, 14, 17, 19), (0, 14, 21, 21), (0, 14, 25, 13)] := vx_table (x := yL_addPhase) B (hts0 _ List.mem_cons_self)
  have hown : s.vm.findClass RL = some m.cls := findClass_of_methodNamed B.named
  have hlocks := B.notSynchronized
  subst hsz
  have hD := hD0.self (sz := s.heap.size)
  generalize hAe : va_A [(a0, .inr (8, [.ref a1, .ref aT])), (a1, .inr (5, [.ref a2, .ref b1, .ref b2, .ref b3, .ref b4, .ref b5, .int 0, .int 1, .int 0, .int 0, .int 0, .int 0])), (a2, .inr (2, [.ref b6, .int 0, .ref b7, .int 0])), (o0, .inl (cy 1, 1, .inr (.inl ((fun _ => 0)))))] s.heap.size = A at hD hZ ⊢
  have hA : ∀ q : Nat, s.heap.size ≤ q → A q := fun q h => by rw [← hAe]; exact Or.inr h
  have hS : va_S A s.heap s.heap [] := va_S.rf
  have hl9 := lv_entry ([.ref a0, .int p1, .int p2, .int p3, .int p4, .ref o0]) (n := 7) (Nat.le_of_ble_eq_true rfl)
  rw [lg_entry_eq]
  generalize (lg_sl ([.ref a0, .int p1, .int p2, .int p3, .int p4, .ref o0]) ++ List.replicate (7 - (lg_sl ([.ref a0, .int p1, .int p2, .int p3, .int p4, .ref o0])).length) Slot.unset).toArray = ls at hl9 ⊢
  have hl : lv_has ls 7 [(0, .ref a0), (1, .int p1), (2, .int p2), (3, .int p3), (4, .int p4), (5, .ref o0)] := hl9
  refine lv_aload hx hb dL_addPhase_0 (lv_at hl 5 rfl) ?_
  refine lv_iconst (v := 0) hx hb dL_addPhase_2 (by decide) ?_
  refine lv_aload_n hx hb dL_addPhase_3 rfl (lv_at hl 0 rfl) ?_
  refine lv_iload_n hx hb dL_addPhase_4 rfl (lv_at hl 1 rfl) ?_
  refine lv_iload_n hx hb dL_addPhase_5 rfl (lv_at hl 2 rfl) ?_
  refine lv_iload_n hx hb dL_addPhase_6 rfl (lv_at hl 3 rfl) ?_
  refine lv_iload hx hb dL_addPhase_7 (lv_at hl 4 rfl) ?_
  have hFc := va_free (wc := [(a0, .inr (8, [.ref a1, .ref aT])), (a1, .inr (5, [.ref a2, .ref b1, .ref b2, .ref b3, .ref b4, .ref b5, .int 0, .int 1, .int 0, .int 0, .int 0, .int 0])), (a2, .inr (2, [.ref b6, .int 0, .ref b7, .int 0]))]) hD hS hA [0, 1, 2] rfl
  refine vx_callv (vx_runV (As := [.int p1, .int p2, .int p3, .int p4]) (rest := [.int 0, .ref o0]) ⟨hx, hb, hml, hown, hts⟩ (tm_addPhase l hst dC dI cy a0 a1 a2 aT b1 b2 b3 b4 b5 b6 b7 p1 p2 p3 p4 s.heap.size) (tp_cwV 4 hts tw_725 tw_726 tw_727 tw_38 tw_728 rfl rfl (by decide +kernel) ⟨Nat.le_of_ble_eq_true rfl, Nat.le_of_ble_eq_true rfl⟩) ⟨tp_blind, va_recv hK hP (ci := 8) (q0 := 0) rfl rfl, fun U hU hW => ⟨rfl, tp_pay hK hP hD hE hZ hS [0, 1, 2] (by decide) rfl hFc U hU hW⟩⟩ rfl rfl hl.1 rfl (lv_room (Nat.le_of_ble_eq_true rfl)) dL_addPhase_9 ⟨(Nat.le_of_ble_eq_true rfl), (Nat.le_of_ble_eq_true rfl)⟩) hS (fun q _ h => hFc q h) hFc (fun q _ h => hFc q h) (fun E9 ce q9 u t H1 locs ht hvm hw hB hz1 hk1 hS hce hcv hcl => ?_) (fun u t H1 locs ht hvm hw hB hz1 hk1 hS => ?_)
  · obtain ⟨rfl, hP1, hD1⟩ := hB
    rw [ht] at hP1
    obtain ⟨hP, hD⟩ := va_join (wr := [(o0, .inl (cy 1, 1, .inr (.inl ((fun _ => 0)))))]) (w1 := []) hP hD [0, 1, 2] [3] rfl rfl (by decide) (by decide) hk1 hFc hP1 hD1
    generalize H1 = H at hP hS hce ⊢
    have hP : va_P (dC, dI) vwCl [(o0, .inl (cy 1, 1, .inr (.inl ((fun _ => 0)))))] _ := hP
    have hD : va_D A [(o0, .inl (cy 1, 1, .inr (.inl ((fun _ => 0)))))] := hD
    refine vx_catch (own := RL) (name := "java/lang/IndexOutOfBoundsException") hown [] { startPc := 0, endPc := 14, handlerPc := 17, catchType := 19 } [{ startPc := 0, endPc := 14, handlerPc := 21, catchType := 21 }, { startPc := 0, endPc := 14, handlerPc := 25, catchType := 13 }] htb (fun z hz => by cases hz) (by decide) (by decide) (hts _ tw_700) (va_Nw.use rfl (hE.2.2.2.2.2.1 _ (List.mem_of_getElem? (i := 0) rfl))) hce hcv hcl ?_
    refine lv_astore (lv' := [(6, .ref q9), (0, .ref a0), (1, .int p1), (2, .int p2), (3, .int p3), (4, .int p4), (5, .ref o0)]) hx hb dL_addPhase_17 hl (by decide) rfl (fun ls hl => ?_)
    refine lv_iconst (v := 1) hx hb dL_addPhase_19 (by decide) ?_
    refine W.widen (k := 1) (n := 6) (Nat.le_of_ble_eq_true rfl) (Nat.le_of_ble_eq_true rfl) ?_
    refine vx_ret ?_
    have hP9 := hP.sub (ws' := [(o0, .inl (cy 1, 1, .inr (.inl ((fun _ => 0)))))]) [0] rfl
    have hD9 := hD.sub (ws' := [(o0, .inl (cy 1, 1, .inr (.inl ((fun _ => 0)))))]) [0] (by decide) rfl
    exact W.iret (v := 1) hx hb hr (fun t ht hW => ⟨⟨1, 1, rfl, rfl, ⟨(by first | exact pk_uLs | rfl | assumption), by rw [ht]; exact hP9, hD9⟩⟩, hS.F ht⟩) hS.2.2 dL_addPhase_20
  · exact hw.elim
set_option maxRecDepth 100000 in
set_option maxHeartbeats 4000000 in
/-- dropSignal -/
theorem tm_L_dropSignal (l : Launch) (hst : l.stackTraces = false) (dC : Nat → ClassId) (dI : Nat → Nat → Nat) (cy : Nat → ClassId) (a0 : Nat) (a1 : Nat) (a2 : Nat) (aT : Nat) (b1 : Nat) (b2 : Nat) (b3 : Nat) (b4 : Nat) (b5 : Nat) (b6 : Nat) (b7 : Nat) (o0 : Nat) (p1 : Int32) (sz : Nat) : vx_Met l yL_dropSignal (tp_wW yL_dropSignal cL_dropSignal 4 (some .int) [(0, 9, 12, 19)]) ({ frames := 8, cells := 1, slots := 6, locals := 126 }) (va_Pc [.ref a0, .int p1, .ref o0] (tp_Pre dC dI cy [(a0, .inr (8, [.ref a1, .ref aT])), (a1, .inr (5, [.ref a2, .ref b1, .ref b2, .ref b3, .ref b4, .ref b5, .int 0, .int 1, .int 0, .int 0, .int 0, .int 0])), (a2, .inr (2, [.ref b6, .int 0, .ref b7, .int 0])), (o0, .inl (cy 1, 1, .inr (.inl ((fun _ => 0)))))] sz)) (va_Qi (fun (r u : Int32) => r = u) (fun (u : Int32) (t : State) => (u = 1) ∧ tp_Post dC dI (va_A [(a0, .inr (8, [.ref a1, .ref aT])), (a1, .inr (5, [.ref a2, .ref b1, .ref b2, .ref b3, .ref b4, .ref b5, .int 0, .int 1, .int 0, .int 0, .int 0, .int 0])), (a2, .inr (2, [.ref b6, .int 0, .ref b7, .int 0])), (o0, .inl (cy 1, 1, .inr (.inl ((fun _ => 0)))))] sz) [(o0, .inl (cy 1, 1, .inr (.inl ((fun _ => 0)))))] t) (va_A [(a0, .inr (8, [.ref a1, .ref aT])), (a1, .inr (5, [.ref a2, .ref b1, .ref b2, .ref b3, .ref b4, .ref b5, .int 0, .int 1, .int 0, .int 0, .int 0, .int 0])), (a2, .inr (2, [.ref b6, .int 0, .ref b7, .int 0])), (o0, .inl (cy 1, 1, .inr (.inl ((fun _ => 0)))))] sz)) (vx_X (fun _ : Unit => True) (fun (E : String) (_ : Unit) (t : State) => (False) ∧ tp_Post dC dI (va_A [(a0, .inr (8, [.ref a1, .ref aT])), (a1, .inr (5, [.ref a2, .ref b1, .ref b2, .ref b3, .ref b4, .ref b5, .int 0, .int 1, .int 0, .int 0, .int 0, .int 0])), (a2, .inr (2, [.ref b6, .int 0, .ref b7, .int 0])), (o0, .inl (cy 1, 1, .inr (.inl ((fun _ => 0)))))] sz) [] t) (va_A [(a0, .inr (8, [.ref a1, .ref aT])), (a1, .inr (5, [.ref a2, .ref b1, .ref b2, .ref b3, .ref b4, .ref b5, .int 0, .int 1, .int 0, .int 0, .int 0, .int 0])), (a2, .inr (2, [.ref b6, .int 0, .ref b7, .int 0])), (o0, .inl (cy 1, 1, .inr (.inl ((fun _ => 0)))))] sz)) 1 6 (va_A [(a0, .inr (8, [.ref a1, .ref aT])), (a1, .inr (5, [.ref a2, .ref b1, .ref b2, .ref b3, .ref b4, .ref b5, .int 0, .int 1, .int 0, .int 0, .int 0, .int 0])), (a2, .inr (2, [.ref b6, .int 0, .ref b7, .int 0])), (o0, .inl (cy 1, 1, .inr (.inl ((fun _ => 0)))))] sz) := by
  refine vx_ofWH (cc := cL_dropSignal) (maxL := 4) (ret := (some .int)) (hh := [(0, 9, 12, 19)]) (by decide) rfl ?_
  intro p e s m args below meth c s₁ B hml hv
  obtain ⟨rfl, hsz, hP, hK, hD0, hE, hZ⟩ := hv
  have hx := B.exec
  have hb := B.bytes
  have hr := B.returns
  have hts0 := atoms_spec (ws := tp_wW yL_dropSignal cL_dropSignal 4 (some .int) [(0, 9, 12, 19)]) B.pre
  have hts : ∀ w ∈ tp_all, w.before _ s = true := fun w h => hts0 w (List.mem_cons_of_mem _ h)
  have htb : c.exceptionTable.toList = tableOf [(0, 9, 12, 19)] := vx_table (x := yL_dropSignal) B (hts0 _ List.mem_cons_self)
  have hown : s.vm.findClass RL = some m.cls := findClass_of_methodNamed B.named
  have hlocks := B.notSynchronized
  subst hsz
  have hD := hD0.self (sz := s.heap.size)
  generalize hAe : va_A [(a0, .inr (8, [.ref a1, .ref aT])), (a1, .inr (5, [.ref a2, .ref b1, .ref b2, .ref b3, .ref b4, .ref b5, .int 0, .int 1, .int 0, .int 0, .int 0, .int 0])), (a2, .inr (2, [.ref b6, .int 0, .ref b7, .int 0])), (o0, .inl (cy 1, 1, .inr (.inl ((fun _ => 0)))))] s.heap.size = A at hD hZ ⊢
  have hA : ∀ q : Nat, s.heap.size ≤ q → A q := fun q h => by rw [← hAe]; exact Or.inr h
  have hS : va_S A s.heap s.heap [] := va_S.rf
  have hl9 := lv_entry ([.ref a0, .int p1, .ref o0]) (n := 4) (Nat.le_of_ble_eq_true rfl)
  rw [lg_entry_eq]
  generalize (lg_sl ([.ref a0, .int p1, .ref o0]) ++ List.replicate (4 - (lg_sl ([.ref a0, .int p1, .ref o0])).length) Slot.unset).toArray = ls at hl9 ⊢
  have hl : lv_has ls 4 [(0, .ref a0), (1, .int p1), (2, .ref o0)] := hl9
  refine lv_aload_n hx hb dL_dropSignal_0 rfl (lv_at hl 2 rfl) ?_
  refine lv_iconst (v := 0) hx hb dL_dropSignal_1 (by decide) ?_
  refine lv_aload_n hx hb dL_dropSignal_2 rfl (lv_at hl 0 rfl) ?_
  refine lv_iload_n hx hb dL_dropSignal_3 rfl (lv_at hl 1 rfl) ?_
  have hFc := va_free (wc := [(a0, .inr (8, [.ref a1, .ref aT])), (a1, .inr (5, [.ref a2, .ref b1, .ref b2, .ref b3, .ref b4, .ref b5, .int 0, .int 1, .int 0, .int 0, .int 0, .int 0])), (a2, .inr (2, [.ref b6, .int 0, .ref b7, .int 0]))]) hD hS hA [0, 1, 2] rfl
  refine vx_callv (vx_runV (As := [.int p1]) (rest := [.int 0, .ref o0]) ⟨hx, hb, hml, hown, hts⟩ (tm_dropSignal l hst dC dI cy a0 a1 a2 aT b1 b2 b3 b4 b5 b6 b7 p1 s.heap.size) (tp_cwV 1 hts tw_741 tw_742 tw_743 tw_38 tw_744 rfl rfl (by decide +kernel) ⟨Nat.le_of_ble_eq_true rfl, Nat.le_of_ble_eq_true rfl⟩) ⟨tp_blind, va_recv hK hP (ci := 8) (q0 := 0) rfl rfl, fun U hU hW => ⟨rfl, tp_pay hK hP hD hE hZ hS [0, 1, 2] (by decide) rfl hFc U hU hW⟩⟩ rfl rfl hl.1 rfl (lv_room (Nat.le_of_ble_eq_true rfl)) dL_dropSignal_4 ⟨(Nat.le_of_ble_eq_true rfl), (Nat.le_of_ble_eq_true rfl)⟩) hS (fun q _ h => hFc q h) hFc (fun q _ h => hFc q h) (fun E9 ce q9 u t H1 locs ht hvm hw hB hz1 hk1 hS hce hcv hcl => ?_) (fun u t H1 locs ht hvm hw hB hz1 hk1 hS => ?_)
  · obtain ⟨rfl, hP1, hD1⟩ := hB
    rw [ht] at hP1
    obtain ⟨hP, hD⟩ := va_join (wr := [(o0, .inl (cy 1, 1, .inr (.inl ((fun _ => 0)))))]) (w1 := []) hP hD [0, 1, 2] [3] rfl rfl (by decide) (by decide) hk1 hFc hP1 hD1
    generalize H1 = H at hP hS hce ⊢
    have hP : va_P (dC, dI) vwCl [(o0, .inl (cy 1, 1, .inr (.inl ((fun _ => 0)))))] _ := hP
    have hD : va_D A [(o0, .inl (cy 1, 1, .inr (.inl ((fun _ => 0)))))] := hD
    refine vx_catch (own := RL) (name := "java/lang/IndexOutOfBoundsException") hown [] { startPc := 0, endPc := 9, handlerPc := 12, catchType := 19 } [] htb (fun z hz => by cases hz) (by decide) (by decide) (hts _ tw_700) (va_Nw.use rfl (hE.2.2.2.2.2.1 _ (List.mem_of_getElem? (i := 0) rfl))) hce hcv hcl ?_
    refine lv_astore_n (lv' := [(3, .ref q9), (0, .ref a0), (1, .int p1), (2, .ref o0)]) hx hb dL_dropSignal_12 rfl hl (by decide) rfl (fun ls hl => ?_)
    refine lv_iconst (v := 1) hx hb dL_dropSignal_13 (by decide) ?_
    refine W.widen (k := 1) (n := 6) (Nat.le_of_ble_eq_true rfl) (Nat.le_of_ble_eq_true rfl) ?_
    refine vx_ret ?_
    have hP9 := hP.sub (ws' := [(o0, .inl (cy 1, 1, .inr (.inl ((fun _ => 0)))))]) [0] rfl
    have hD9 := hD.sub (ws' := [(o0, .inl (cy 1, 1, .inr (.inl ((fun _ => 0)))))]) [0] (by decide) rfl
    exact W.iret (v := 1) hx hb hr (fun t ht hW => ⟨⟨1, 1, rfl, rfl, ⟨(by first | exact pk_uLs | rfl | assumption), by rw [ht]; exact hP9, hD9⟩⟩, hS.F ht⟩) hS.2.2 dL_dropSignal_14
  · exact hw.elim
set_option maxRecDepth 100000 in
set_option maxHeartbeats 4000000 in
/-- shut -/
theorem tm_L_shut (l : Launch) (hst : l.stackTraces = false) (dC : Nat → ClassId) (dI : Nat → Nat → Nat) (cy : Nat → ClassId) (a0 : Nat) (a1 : Nat) (a2 : Nat) (aT : Nat) (b1 : Nat) (b2 : Nat) (b3 : Nat) (b4 : Nat) (b5 : Nat) (b6 : Nat) (b7 : Nat) (o0 : Nat) (p1 : Int32) (p2 : Int32) (sz : Nat) : vx_Met l yL_shut (tp_wW yL_shut cL_shut 5 (some .int) [(0, 17, 20, 19)]) ({ frames := 8, cells := 1, slots := 6, locals := 128 }) (va_Pc [.ref a0, .int p1, .int p2, .ref o0] (tp_Pre dC dI cy [(a0, .inr (8, [.ref a1, .ref aT])), (a1, .inr (5, [.ref a2, .ref b1, .ref b2, .ref b3, .ref b4, .ref b5, .int 0, .int 1, .int 0, .int 0, .int 0, .int 0])), (a2, .inr (2, [.ref b6, .int 0, .ref b7, .int 0])), (o0, .inl (cy 1, 1, .inr (.inl ((fun _ => 0)))))] sz)) (va_Qi (fun (r u : Int32) => r = u) (fun (u : Int32) (t : State) => (u = 1) ∧ tp_Post dC dI (va_A [(a0, .inr (8, [.ref a1, .ref aT])), (a1, .inr (5, [.ref a2, .ref b1, .ref b2, .ref b3, .ref b4, .ref b5, .int 0, .int 1, .int 0, .int 0, .int 0, .int 0])), (a2, .inr (2, [.ref b6, .int 0, .ref b7, .int 0])), (o0, .inl (cy 1, 1, .inr (.inl ((fun _ => 0)))))] sz) [(o0, .inl (cy 1, 1, .inr (.inl ((fun _ => 0)))))] t) (va_A [(a0, .inr (8, [.ref a1, .ref aT])), (a1, .inr (5, [.ref a2, .ref b1, .ref b2, .ref b3, .ref b4, .ref b5, .int 0, .int 1, .int 0, .int 0, .int 0, .int 0])), (a2, .inr (2, [.ref b6, .int 0, .ref b7, .int 0])), (o0, .inl (cy 1, 1, .inr (.inl ((fun _ => 0)))))] sz)) (vx_X (fun _ : Unit => True) (fun (E : String) (_ : Unit) (t : State) => (False) ∧ tp_Post dC dI (va_A [(a0, .inr (8, [.ref a1, .ref aT])), (a1, .inr (5, [.ref a2, .ref b1, .ref b2, .ref b3, .ref b4, .ref b5, .int 0, .int 1, .int 0, .int 0, .int 0, .int 0])), (a2, .inr (2, [.ref b6, .int 0, .ref b7, .int 0])), (o0, .inl (cy 1, 1, .inr (.inl ((fun _ => 0)))))] sz) [] t) (va_A [(a0, .inr (8, [.ref a1, .ref aT])), (a1, .inr (5, [.ref a2, .ref b1, .ref b2, .ref b3, .ref b4, .ref b5, .int 0, .int 1, .int 0, .int 0, .int 0, .int 0])), (a2, .inr (2, [.ref b6, .int 0, .ref b7, .int 0])), (o0, .inl (cy 1, 1, .inr (.inl ((fun _ => 0)))))] sz)) 1 6 (va_A [(a0, .inr (8, [.ref a1, .ref aT])), (a1, .inr (5, [.ref a2, .ref b1, .ref b2, .ref b3, .ref b4, .ref b5, .int 0, .int 1, .int 0, .int 0, .int 0, .int 0])), (a2, .inr (2, [.ref b6, .int 0, .ref b7, .int 0])), (o0, .inl (cy 1, 1, .inr (.inl ((fun _ => 0)))))] sz) := by
  refine vx_ofWH (cc := cL_shut) (maxL := 5) (ret := (some .int)) (hh := [(0, 17, 20, 19)]) (by decide) rfl ?_
  intro p e s m args below meth c s₁ B hml hv
  obtain ⟨rfl, hsz, hP, hK, hD0, hE, hZ⟩ := hv
  have hx := B.exec
  have hb := B.bytes
  have hr := B.returns
  have hts0 := atoms_spec (ws := tp_wW yL_shut cL_shut 5 (some .int) [(0, 17, 20, 19)]) B.pre
  have hts : ∀ w ∈ tp_all, w.before _ s = true := fun w h => hts0 w (List.mem_cons_of_mem _ h)
  have htb : c.exceptionTable.toList = tableOf [(0, 17, 20, 19)] := vx_table (x := yL_shut) B (hts0 _ List.mem_cons_self)
  have hown : s.vm.findClass RL = some m.cls := findClass_of_methodNamed B.named
  have hlocks := B.notSynchronized
  subst hsz
  have hD := hD0.self (sz := s.heap.size)
  generalize hAe : va_A [(a0, .inr (8, [.ref a1, .ref aT])), (a1, .inr (5, [.ref a2, .ref b1, .ref b2, .ref b3, .ref b4, .ref b5, .int 0, .int 1, .int 0, .int 0, .int 0, .int 0])), (a2, .inr (2, [.ref b6, .int 0, .ref b7, .int 0])), (o0, .inl (cy 1, 1, .inr (.inl ((fun _ => 0)))))] s.heap.size = A at hD hZ ⊢
  have hA : ∀ q : Nat, s.heap.size ≤ q → A q := fun q h => by rw [← hAe]; exact Or.inr h
  have hS : va_S A s.heap s.heap [] := va_S.rf
  have hl9 := lv_entry ([.ref a0, .int p1, .int p2, .ref o0]) (n := 5) (Nat.le_of_ble_eq_true rfl)
  rw [lg_entry_eq]
  generalize (lg_sl ([.ref a0, .int p1, .int p2, .ref o0]) ++ List.replicate (5 - (lg_sl ([.ref a0, .int p1, .int p2, .ref o0])).length) Slot.unset).toArray = ls at hl9 ⊢
  have hl : lv_has ls 5 [(0, .ref a0), (1, .int p1), (2, .int p2), (3, .ref o0)] := hl9
  refine lv_aload_n hx hb dL_shut_0 rfl (lv_at hl 3 rfl) ?_
  refine lv_iconst (v := 0) hx hb dL_shut_1 (by decide) ?_
  refine lv_aload_n hx hb dL_shut_2 rfl (lv_at hl 0 rfl) ?_
  refine lv_iload_n hx hb dL_shut_3 rfl (lv_at hl 1 rfl) ?_
  refine lv_iload_n hx hb dL_shut_4 rfl (lv_at hl 2 rfl) ?_
  have hFc := va_free (wc := [(a0, .inr (8, [.ref a1, .ref aT])), (a1, .inr (5, [.ref a2, .ref b1, .ref b2, .ref b3, .ref b4, .ref b5, .int 0, .int 1, .int 0, .int 0, .int 0, .int 0])), (a2, .inr (2, [.ref b6, .int 0, .ref b7, .int 0]))]) hD hS hA [0, 1, 2] rfl
  refine vx_callv (vx_runV (As := [.int p1, .int p2]) (rest := [.int 0, .ref o0]) ⟨hx, hb, hml, hown, hts⟩ (tm_shut l hst dC dI cy a0 a1 a2 aT b1 b2 b3 b4 b5 b6 b7 p1 p2 s.heap.size) (tp_cwV 2 hts tw_759 tw_760 tw_761 tw_38 tw_762 rfl rfl (by decide +kernel) ⟨Nat.le_of_ble_eq_true rfl, Nat.le_of_ble_eq_true rfl⟩) ⟨tp_blind, va_recv hK hP (ci := 8) (q0 := 0) rfl rfl, fun U hU hW => ⟨rfl, tp_pay hK hP hD hE hZ hS [0, 1, 2] (by decide) rfl hFc U hU hW⟩⟩ rfl rfl hl.1 rfl (lv_room (Nat.le_of_ble_eq_true rfl)) dL_shut_5 ⟨(Nat.le_of_ble_eq_true rfl), (Nat.le_of_ble_eq_true rfl)⟩) hS (fun q _ h => hFc q h) hFc (fun q _ h => hFc q h) (fun E9 ce q9 u t H1 locs ht hvm hw hB hz1 hk1 hS hce hcv hcl => ?_) (fun u t H1 locs ht hvm hw hB hz1 hk1 hS => ?_)
  · obtain ⟨rfl, hP1, hD1⟩ := hB
    rw [ht] at hP1
    obtain ⟨hP, hD⟩ := va_join (wr := [(o0, .inl (cy 1, 1, .inr (.inl ((fun _ => 0)))))]) (w1 := []) hP hD [0, 1, 2] [3] rfl rfl (by decide) (by decide) hk1 hFc hP1 hD1
    generalize H1 = H at hP hS hce ⊢
    have hP : va_P (dC, dI) vwCl [(o0, .inl (cy 1, 1, .inr (.inl ((fun _ => 0)))))] _ := hP
    have hD : va_D A [(o0, .inl (cy 1, 1, .inr (.inl ((fun _ => 0)))))] := hD
    refine vx_catch (own := RL) (name := "java/lang/IndexOutOfBoundsException") hown [] { startPc := 0, endPc := 17, handlerPc := 20, catchType := 19 } [] htb (fun z hz => by cases hz) (by decide) (by decide) (hts _ tw_700) (va_Nw.use rfl (hE.2.2.2.2.2.1 _ (List.mem_of_getElem? (i := 0) rfl))) hce hcv hcl ?_
    refine lv_astore (lv' := [(4, .ref q9), (0, .ref a0), (1, .int p1), (2, .int p2), (3, .ref o0)]) hx hb dL_shut_20 hl (by decide) rfl (fun ls hl => ?_)
    refine lv_iconst (v := 1) hx hb dL_shut_22 (by decide) ?_
    refine W.widen (k := 1) (n := 6) (Nat.le_of_ble_eq_true rfl) (Nat.le_of_ble_eq_true rfl) ?_
    refine vx_ret ?_
    have hP9 := hP.sub (ws' := [(o0, .inl (cy 1, 1, .inr (.inl ((fun _ => 0)))))]) [0] rfl
    have hD9 := hD.sub (ws' := [(o0, .inl (cy 1, 1, .inr (.inl ((fun _ => 0)))))]) [0] (by decide) rfl
    exact W.iret (v := 1) hx hb hr (fun t ht hW => ⟨⟨1, 1, rfl, rfl, ⟨(by first | exact pk_uLs | rfl | assumption), by rw [ht]; exact hP9, hD9⟩⟩, hS.F ht⟩) hS.2.2 dL_shut_23
  · exact hw.elim
set_option maxRecDepth 100000 in
set_option maxHeartbeats 4000000 in
/-- slow -/
theorem tm_L_slow (l : Launch) (hst : l.stackTraces = false) (dC : Nat → ClassId) (dI : Nat → Nat → Nat) (cy : Nat → ClassId) (a0 : Nat) (a1 : Nat) (a2 : Nat) (aT : Nat) (b1 : Nat) (b2 : Nat) (b3 : Nat) (b4 : Nat) (b5 : Nat) (b6 : Nat) (b7 : Nat) (o0 : Nat) (p1 : Int32) (p2 : Int32) (p3 : Int32) (sz : Nat) : vx_Met l yL_slow (tp_wW yL_slow cL_slow 6 (some .int) [(0, 12, 15, 19), (0, 12, 19, 21)]) ({ frames := 8, cells := 1, slots := 6, locals := 129 }) (va_Pc [.ref a0, .int p1, .int p2, .int p3, .ref o0] (tp_Pre dC dI cy [(a0, .inr (8, [.ref a1, .ref aT])), (a1, .inr (5, [.ref a2, .ref b1, .ref b2, .ref b3, .ref b4, .ref b5, .int 0, .int 1, .int 0, .int 0, .int 0, .int 0])), (a2, .inr (2, [.ref b6, .int 0, .ref b7, .int 0])), (o0, .inl (cy 1, 1, .inr (.inl ((fun _ => 0)))))] sz)) (va_Qi (fun (r u : Int32) => r = u) (fun (u : Int32) (t : State) => (u = 1) ∧ tp_Post dC dI (va_A [(a0, .inr (8, [.ref a1, .ref aT])), (a1, .inr (5, [.ref a2, .ref b1, .ref b2, .ref b3, .ref b4, .ref b5, .int 0, .int 1, .int 0, .int 0, .int 0, .int 0])), (a2, .inr (2, [.ref b6, .int 0, .ref b7, .int 0])), (o0, .inl (cy 1, 1, .inr (.inl ((fun _ => 0)))))] sz) [(o0, .inl (cy 1, 1, .inr (.inl ((fun _ => 0)))))] t) (va_A [(a0, .inr (8, [.ref a1, .ref aT])), (a1, .inr (5, [.ref a2, .ref b1, .ref b2, .ref b3, .ref b4, .ref b5, .int 0, .int 1, .int 0, .int 0, .int 0, .int 0])), (a2, .inr (2, [.ref b6, .int 0, .ref b7, .int 0])), (o0, .inl (cy 1, 1, .inr (.inl ((fun _ => 0)))))] sz)) (vx_X (fun _ : Unit => True) (fun (E : String) (_ : Unit) (t : State) => (False) ∧ tp_Post dC dI (va_A [(a0, .inr (8, [.ref a1, .ref aT])), (a1, .inr (5, [.ref a2, .ref b1, .ref b2, .ref b3, .ref b4, .ref b5, .int 0, .int 1, .int 0, .int 0, .int 0, .int 0])), (a2, .inr (2, [.ref b6, .int 0, .ref b7, .int 0])), (o0, .inl (cy 1, 1, .inr (.inl ((fun _ => 0)))))] sz) [] t) (va_A [(a0, .inr (8, [.ref a1, .ref aT])), (a1, .inr (5, [.ref a2, .ref b1, .ref b2, .ref b3, .ref b4, .ref b5, .int 0, .int 1, .int 0, .int 0, .int 0, .int 0])), (a2, .inr (2, [.ref b6, .int 0, .ref b7, .int 0])), (o0, .inl (cy 1, 1, .inr (.inl ((fun _ => 0)))))] sz)) 1 6 (va_A [(a0, .inr (8, [.ref a1, .ref aT])), (a1, .inr (5, [.ref a2, .ref b1, .ref b2, .ref b3, .ref b4, .ref b5, .int 0, .int 1, .int 0, .int 0, .int 0, .int 0])), (a2, .inr (2, [.ref b6, .int 0, .ref b7, .int 0])), (o0, .inl (cy 1, 1, .inr (.inl ((fun _ => 0)))))] sz) := by
  refine vx_ofWH (cc := cL_slow) (maxL := 6) (ret := (some .int)) (hh := [(0, 12, 15, 19), (0, 12, 19, 21)]) (by decide) rfl ?_
  intro p e s m args below meth c s₁ B hml hv
  obtain ⟨rfl, hsz, hP, hK, hD0, hE, hZ⟩ := hv
  have hx := B.exec
  have hb := B.bytes
  have hr := B.returns
  have hts0 := atoms_spec (ws := tp_wW yL_slow cL_slow 6 (some .int) [(0, 12, 15, 19), (0, 12, 19, 21)]) B.pre
  have hts : ∀ w ∈ tp_all, w.before _ s = true := fun w h => hts0 w (List.mem_cons_of_mem _ h)
  have htb : c.exceptionTable.toList = tableOf [(0, 12, 15, 19), (0, 12, 19, 21)] := vx_table (x := yL_slow) B (hts0 _ List.mem_cons_self)
  have hown : s.vm.findClass RL = some m.cls := findClass_of_methodNamed B.named
  have hlocks := B.notSynchronized
  subst hsz
  have hD := hD0.self (sz := s.heap.size)
  generalize hAe : va_A [(a0, .inr (8, [.ref a1, .ref aT])), (a1, .inr (5, [.ref a2, .ref b1, .ref b2, .ref b3, .ref b4, .ref b5, .int 0, .int 1, .int 0, .int 0, .int 0, .int 0])), (a2, .inr (2, [.ref b6, .int 0, .ref b7, .int 0])), (o0, .inl (cy 1, 1, .inr (.inl ((fun _ => 0)))))] s.heap.size = A at hD hZ ⊢
  have hA : ∀ q : Nat, s.heap.size ≤ q → A q := fun q h => by rw [← hAe]; exact Or.inr h
  have hS : va_S A s.heap s.heap [] := va_S.rf
  have hl9 := lv_entry ([.ref a0, .int p1, .int p2, .int p3, .ref o0]) (n := 6) (Nat.le_of_ble_eq_true rfl)
  rw [lg_entry_eq]
  generalize (lg_sl ([.ref a0, .int p1, .int p2, .int p3, .ref o0]) ++ List.replicate (6 - (lg_sl ([.ref a0, .int p1, .int p2, .int p3, .ref o0])).length) Slot.unset).toArray = ls at hl9 ⊢
  have hl : lv_has ls 6 [(0, .ref a0), (1, .int p1), (2, .int p2), (3, .int p3), (4, .ref o0)] := hl9
  refine lv_aload hx hb dL_slow_0 (lv_at hl 4 rfl) ?_
  refine lv_iconst (v := 0) hx hb dL_slow_2 (by decide) ?_
  refine lv_aload_n hx hb dL_slow_3 rfl (lv_at hl 0 rfl) ?_
  refine lv_iload_n hx hb dL_slow_4 rfl (lv_at hl 1 rfl) ?_
  refine lv_iload_n hx hb dL_slow_5 rfl (lv_at hl 2 rfl) ?_
  refine lv_iload_n hx hb dL_slow_6 rfl (lv_at hl 3 rfl) ?_
  have hFc := va_free (wc := [(a0, .inr (8, [.ref a1, .ref aT])), (a1, .inr (5, [.ref a2, .ref b1, .ref b2, .ref b3, .ref b4, .ref b5, .int 0, .int 1, .int 0, .int 0, .int 0, .int 0])), (a2, .inr (2, [.ref b6, .int 0, .ref b7, .int 0]))]) hD hS hA [0, 1, 2] rfl
  refine vx_callv (vx_runV (As := [.int p1, .int p2, .int p3]) (rest := [.int 0, .ref o0]) ⟨hx, hb, hml, hown, hts⟩ (tm_slow l hst dC dI cy a0 a1 a2 aT b1 b2 b3 b4 b5 b6 b7 p1 p2 p3 s.heap.size) (tp_cwV 3 hts tw_767 tw_768 tw_769 tw_38 tw_770 rfl rfl (by decide +kernel) ⟨Nat.le_of_ble_eq_true rfl, Nat.le_of_ble_eq_true rfl⟩) ⟨tp_blind, va_recv hK hP (ci := 8) (q0 := 0) rfl rfl, fun U hU hW => ⟨rfl, tp_pay hK hP hD hE hZ hS [0, 1, 2] (by decide) rfl hFc U hU hW⟩⟩ rfl rfl hl.1 rfl (lv_room (Nat.le_of_ble_eq_true rfl)) dL_slow_7 ⟨(Nat.le_of_ble_eq_true rfl), (Nat.le_of_ble_eq_true rfl)⟩) hS (fun q _ h => hFc q h) hFc (fun q _ h => hFc q h) (fun E9 ce q9 u t H1 locs ht hvm hw hB hz1 hk1 hS hce hcv hcl => ?_) (fun u t H1 locs ht hvm hw hB hz1 hk1 hS => ?_)
  · obtain ⟨rfl, hP1, hD1⟩ := hB
    rw [ht] at hP1
    obtain ⟨hP, hD⟩ := va_join (wr := [(o0, .inl (cy 1, 1, .inr (.inl ((fun _ => 0)))))]) (w1 := []) hP hD [0, 1, 2] [3] rfl rfl (by decide) (by decide) hk1 hFc hP1 hD1
    generalize H1 = H at hP hS hce ⊢
    have hP : va_P (dC, dI) vwCl [(o0, .inl (cy 1, 1, .inr (.inl ((fun _ => 0)))))] _ := hP
    have hD : va_D A [(o0, .inl (cy 1, 1, .inr (.inl ((fun _ => 0)))))] := hD
    refine vx_catch (own := RL) (name := "java/lang/IndexOutOfBoundsException") hown [] { startPc := 0, endPc := 12, handlerPc := 15, catchType := 19 } [{ startPc := 0, endPc := 12, handlerPc := 19, catchType := 21 }] htb (fun z hz => by cases hz) (by decide) (by decide) (hts _ tw_700) (va_Nw.use rfl (hE.2.2.2.2.2.1 _ (List.mem_of_getElem? (i := 0) rfl))) hce hcv hcl ?_
    refine lv_astore (lv' := [(5, .ref q9), (0, .ref a0), (1, .int p1), (2, .int p2), (3, .int p3), (4, .ref o0)]) hx hb dL_slow_15 hl (by decide) rfl (fun ls hl => ?_)
    refine lv_iconst (v := 1) hx hb dL_slow_17 (by decide) ?_
    refine W.widen (k := 1) (n := 6) (Nat.le_of_ble_eq_true rfl) (Nat.le_of_ble_eq_true rfl) ?_
    refine vx_ret ?_
    have hP9 := hP.sub (ws' := [(o0, .inl (cy 1, 1, .inr (.inl ((fun _ => 0)))))]) [0] rfl
    have hD9 := hD.sub (ws' := [(o0, .inl (cy 1, 1, .inr (.inl ((fun _ => 0)))))]) [0] (by decide) rfl
    exact W.iret (v := 1) hx hb hr (fun t ht hW => ⟨⟨1, 1, rfl, rfl, ⟨(by first | exact pk_uLs | rfl | assumption), by rw [ht]; exact hP9, hD9⟩⟩, hS.F ht⟩) hS.2.2 dL_slow_18
  · exact hw.elim
set_option maxRecDepth 100000 in
set_option maxHeartbeats 4000000 in
/-- addFlow -/
theorem tm_L_addFlow (l : Launch) (hst : l.stackTraces = false) (dC : Nat → ClassId) (dI : Nat → Nat → Nat) (cy : Nat → ClassId) (a0 : Nat) (a1 : Nat) (a2 : Nat) (aT : Nat) (b1 : Nat) (b2 : Nat) (b3 : Nat) (b4 : Nat) (b5 : Nat) (b6 : Nat) (b7 : Nat) (o0 : Nat) (p1 : Int32) (p2 : Int32) (p3 : Int32) (p4 : Int32) (p5 : Int32) (p6 : Int32) (sz : Nat) : vx_Met l yL_addFlow (tp_wW yL_addFlow cL_addFlow 9 (some .int) [(0, 18, 21, 19), (0, 18, 25, 21), (0, 18, 29, 13)]) ({ frames := 8, cells := 1, slots := 6, locals := 129 }) (va_Pc [.ref a0, .int p1, .int p2, .int p3, .int p4, .int p5, .int p6, .ref o0] (tp_Pre dC dI cy [(a0, .inr (8, [.ref a1, .ref aT])), (a1, .inr (5, [.ref a2, .ref b1, .ref b2, .ref b3, .ref b4, .ref b5, .int 0, .int 1, .int 0, .int 0, .int 0, .int 0])), (a2, .inr (2, [.ref b6, .int 0, .ref b7, .int 0])), (o0, .inl (cy 1, 1, .inr (.inl ((fun _ => 0)))))] sz)) (va_Qi (fun (r u : Int32) => r = u) (fun (u : Int32) (t : State) => (u = 1) ∧ tp_Post dC dI (va_A [(a0, .inr (8, [.ref a1, .ref aT])), (a1, .inr (5, [.ref a2, .ref b1, .ref b2, .ref b3, .ref b4, .ref b5, .int 0, .int 1, .int 0, .int 0, .int 0, .int 0])), (a2, .inr (2, [.ref b6, .int 0, .ref b7, .int 0])), (o0, .inl (cy 1, 1, .inr (.inl ((fun _ => 0)))))] sz) [(o0, .inl (cy 1, 1, .inr (.inl ((fun _ => 0)))))] t) (va_A [(a0, .inr (8, [.ref a1, .ref aT])), (a1, .inr (5, [.ref a2, .ref b1, .ref b2, .ref b3, .ref b4, .ref b5, .int 0, .int 1, .int 0, .int 0, .int 0, .int 0])), (a2, .inr (2, [.ref b6, .int 0, .ref b7, .int 0])), (o0, .inl (cy 1, 1, .inr (.inl ((fun _ => 0)))))] sz)) (vx_X (fun _ : Unit => True) (fun (E : String) (_ : Unit) (t : State) => (False) ∧ tp_Post dC dI (va_A [(a0, .inr (8, [.ref a1, .ref aT])), (a1, .inr (5, [.ref a2, .ref b1, .ref b2, .ref b3, .ref b4, .ref b5, .int 0, .int 1, .int 0, .int 0, .int 0, .int 0])), (a2, .inr (2, [.ref b6, .int 0, .ref b7, .int 0])), (o0, .inl (cy 1, 1, .inr (.inl ((fun _ => 0)))))] sz) [] t) (va_A [(a0, .inr (8, [.ref a1, .ref aT])), (a1, .inr (5, [.ref a2, .ref b1, .ref b2, .ref b3, .ref b4, .ref b5, .int 0, .int 1, .int 0, .int 0, .int 0, .int 0])), (a2, .inr (2, [.ref b6, .int 0, .ref b7, .int 0])), (o0, .inl (cy 1, 1, .inr (.inl ((fun _ => 0)))))] sz)) 1 6 (va_A [(a0, .inr (8, [.ref a1, .ref aT])), (a1, .inr (5, [.ref a2, .ref b1, .ref b2, .ref b3, .ref b4, .ref b5, .int 0, .int 1, .int 0, .int 0, .int 0, .int 0])), (a2, .inr (2, [.ref b6, .int 0, .ref b7, .int 0])), (o0, .inl (cy 1, 1, .inr (.inl ((fun _ => 0)))))] sz) := by
  refine vx_ofWH (cc := cL_addFlow) (maxL := 9) (ret := (some .int)) (hh := [(0, 18, 21, 19), (0, 18, 25, 21), (0, 18, 29, 13)]) (by decide) rfl ?_
  intro p e s m args below meth c s₁ B hml hv
  obtain ⟨rfl, hsz, hP, hK, hD0, hE, hZ⟩ := hv
  have hx := B.exec
  have hb := B.bytes
  have hr := B.returns
  have hts0 := atoms_spec (ws := tp_wW yL_addFlow cL_addFlow 9 (some .int) [(0, 18, 21, 19), (0, 18, 25, 21), (0, 18, 29, 13)]) B.pre
  have hts : ∀ w ∈ tp_all, w.before _ s = true := fun w h => hts0 w (List.mem_cons_of_mem _ h)
  have htb : c.exceptionTable.toList = tableOf [(0, 18, 21, 19), (0, 18, 25, 21), (0, 18, 29, 13)] := vx_table (x := yL_addFlow) B (hts0 _ List.mem_cons_self)
  have hown : s.vm.findClass RL = some m.cls := findClass_of_methodNamed B.named
  have hlocks := B.notSynchronized
  subst hsz
  have hD := hD0.self (sz := s.heap.size)
  generalize hAe : va_A [(a0, .inr (8, [.ref a1, .ref aT])), (a1, .inr (5, [.ref a2, .ref b1, .ref b2, .ref b3, .ref b4, .ref b5, .int 0, .int 1, .int 0, .int 0, .int 0, .int 0])), (a2, .inr (2, [.ref b6, .int 0, .ref b7, .int 0])), (o0, .inl (cy 1, 1, .inr (.inl ((fun _ => 0)))))] s.heap.size = A at hD hZ ⊢
  have hA : ∀ q : Nat, s.heap.size ≤ q → A q := fun q h => by rw [← hAe]; exact Or.inr h
  have hS : va_S A s.heap s.heap [] := va_S.rf
  have hl9 := lv_entry ([.ref a0, .int p1, .int p2, .int p3, .int p4, .int p5, .int p6, .ref o0]) (n := 9) (Nat.le_of_ble_eq_true rfl)
  rw [lg_entry_eq]
  generalize (lg_sl ([.ref a0, .int p1, .int p2, .int p3, .int p4, .int p5, .int p6, .ref o0]) ++ List.replicate (9 - (lg_sl ([.ref a0, .int p1, .int p2, .int p3, .int p4, .int p5, .int p6, .ref o0])).length) Slot.unset).toArray = ls at hl9 ⊢
  have hl : lv_has ls 9 [(0, .ref a0), (1, .int p1), (2, .int p2), (3, .int p3), (4, .int p4), (5, .int p5), (6, .int p6), (7, .ref o0)] := hl9
  refine lv_aload hx hb dL_addFlow_0 (lv_at hl 7 rfl) ?_
  refine lv_iconst (v := 0) hx hb dL_addFlow_2 (by decide) ?_
  refine lv_aload_n hx hb dL_addFlow_3 rfl (lv_at hl 0 rfl) ?_
  refine lv_iload_n hx hb dL_addFlow_4 rfl (lv_at hl 1 rfl) ?_
  refine lv_iload_n hx hb dL_addFlow_5 rfl (lv_at hl 2 rfl) ?_
  refine lv_iload_n hx hb dL_addFlow_6 rfl (lv_at hl 3 rfl) ?_
  refine lv_iload hx hb dL_addFlow_7 (lv_at hl 4 rfl) ?_
  refine lv_iload hx hb dL_addFlow_9 (lv_at hl 5 rfl) ?_
  refine lv_iload hx hb dL_addFlow_11 (lv_at hl 6 rfl) ?_
  have hFc := va_free (wc := [(a0, .inr (8, [.ref a1, .ref aT])), (a1, .inr (5, [.ref a2, .ref b1, .ref b2, .ref b3, .ref b4, .ref b5, .int 0, .int 1, .int 0, .int 0, .int 0, .int 0])), (a2, .inr (2, [.ref b6, .int 0, .ref b7, .int 0]))]) hD hS hA [0, 1, 2] rfl
  refine vx_callv (vx_runV (As := [.int p1, .int p2, .int p3, .int p4, .int p5, .int p6]) (rest := [.int 0, .ref o0]) ⟨hx, hb, hml, hown, hts⟩ (tm_addFlow l hst dC dI cy a0 a1 a2 aT b1 b2 b3 b4 b5 b6 b7 p1 p2 p3 p4 p5 p6 s.heap.size) (tp_cwV 6 hts tw_774 tw_775 tw_776 tw_38 tw_777 rfl rfl (by decide +kernel) ⟨Nat.le_of_ble_eq_true rfl, Nat.le_of_ble_eq_true rfl⟩) ⟨tp_blind, va_recv hK hP (ci := 8) (q0 := 0) rfl rfl, fun U hU hW => ⟨rfl, tp_pay hK hP hD hE hZ hS [0, 1, 2] (by decide) rfl hFc U hU hW⟩⟩ rfl rfl hl.1 rfl (lv_room (Nat.le_of_ble_eq_true rfl)) dL_addFlow_13 ⟨(Nat.le_of_ble_eq_true rfl), (Nat.le_of_ble_eq_true rfl)⟩) hS (fun q _ h => hFc q h) hFc (fun q _ h => hFc q h) (fun E9 ce q9 u t H1 locs ht hvm hw hB hz1 hk1 hS hce hcv hcl => ?_) (fun u t H1 locs ht hvm hw hB hz1 hk1 hS => ?_)
  · obtain ⟨rfl, hP1, hD1⟩ := hB
    rw [ht] at hP1
    obtain ⟨hP, hD⟩ := va_join (wr := [(o0, .inl (cy 1, 1, .inr (.inl ((fun _ => 0)))))]) (w1 := []) hP hD [0, 1, 2] [3] rfl rfl (by decide) (by decide) hk1 hFc hP1 hD1
    generalize H1 = H at hP hS hce ⊢
    have hP : va_P (dC, dI) vwCl [(o0, .inl (cy 1, 1, .inr (.inl ((fun _ => 0)))))] _ := hP
    have hD : va_D A [(o0, .inl (cy 1, 1, .inr (.inl ((fun _ => 0)))))] := hD
    refine vx_catch (own := RL) (name := "java/lang/IndexOutOfBoundsException") hown [] { startPc := 0, endPc := 18, handlerPc := 21, catchType := 19 } [{ startPc := 0, endPc := 18, handlerPc := 25, catchType := 21 }, { startPc := 0, endPc := 18, handlerPc := 29, catchType := 13 }] htb (fun z hz => by cases hz) (by decide) (by decide) (hts _ tw_700) (va_Nw.use rfl (hE.2.2.2.2.2.1 _ (List.mem_of_getElem? (i := 0) rfl))) hce hcv hcl ?_
    refine lv_astore (lv' := [(8, .ref q9), (0, .ref a0), (1, .int p1), (2, .int p2), (3, .int p3), (4, .int p4), (5, .int p5), (6, .int p6), (7, .ref o0)]) hx hb dL_addFlow_21 hl (by decide) rfl (fun ls hl => ?_)
    refine lv_iconst (v := 1) hx hb dL_addFlow_23 (by decide) ?_
    refine W.widen (k := 1) (n := 6) (Nat.le_of_ble_eq_true rfl) (Nat.le_of_ble_eq_true rfl) ?_
    refine vx_ret ?_
    have hP9 := hP.sub (ws' := [(o0, .inl (cy 1, 1, .inr (.inl ((fun _ => 0)))))]) [0] rfl
    have hD9 := hD.sub (ws' := [(o0, .inl (cy 1, 1, .inr (.inl ((fun _ => 0)))))]) [0] (by decide) rfl
    exact W.iret (v := 1) hx hb hr (fun t ht hW => ⟨⟨1, 1, rfl, rfl, ⟨(by first | exact pk_uLs | rfl | assumption), by rw [ht]; exact hP9, hD9⟩⟩, hS.F ht⟩) hS.2.2 dL_addFlow_24
  · exact hw.elim
set_option maxRecDepth 100000 in
set_option maxHeartbeats 4000000 in
/-- isShut -/
theorem tm_L_isShut (l : Launch) (hst : l.stackTraces = false) (dC : Nat → ClassId) (dI : Nat → Nat → Nat) (cy : Nat → ClassId) (a0 : Nat) (a1 : Nat) (a2 : Nat) (aT : Nat) (b1 : Nat) (b2 : Nat) (b3 : Nat) (b4 : Nat) (b5 : Nat) (b6 : Nat) (b7 : Nat) (o0 : Nat) (p1 : Int32) (sz : Nat) : vx_Met l yL_isShut (tp_wW yL_isShut cL_isShut 4 (some .int) [(0, 16, 19, 19)]) ({ frames := 8, cells := 1, slots := 6, locals := 125 }) (va_Pc [.ref a0, .int p1, .ref o0] (tp_Pre dC dI cy [(a0, .inr (8, [.ref a1, .ref aT])), (a1, .inr (5, [.ref a2, .ref b1, .ref b2, .ref b3, .ref b4, .ref b5, .int 0, .int 1, .int 0, .int 0, .int 0, .int 0])), (a2, .inr (2, [.ref b6, .int 0, .ref b7, .int 0])), (o0, .inl (cy 1, 1, .inr (.inl ((fun _ => 0)))))] sz)) (va_Qi (fun (r u : Int32) => r = u) (fun (u : Int32) (t : State) => (u = 1) ∧ tp_Post dC dI (va_A [(a0, .inr (8, [.ref a1, .ref aT])), (a1, .inr (5, [.ref a2, .ref b1, .ref b2, .ref b3, .ref b4, .ref b5, .int 0, .int 1, .int 0, .int 0, .int 0, .int 0])), (a2, .inr (2, [.ref b6, .int 0, .ref b7, .int 0])), (o0, .inl (cy 1, 1, .inr (.inl ((fun _ => 0)))))] sz) [(o0, .inl (cy 1, 1, .inr (.inl ((fun _ => 0)))))] t) (va_A [(a0, .inr (8, [.ref a1, .ref aT])), (a1, .inr (5, [.ref a2, .ref b1, .ref b2, .ref b3, .ref b4, .ref b5, .int 0, .int 1, .int 0, .int 0, .int 0, .int 0])), (a2, .inr (2, [.ref b6, .int 0, .ref b7, .int 0])), (o0, .inl (cy 1, 1, .inr (.inl ((fun _ => 0)))))] sz)) (vx_X (fun _ : Unit => True) (fun (E : String) (_ : Unit) (t : State) => (False) ∧ tp_Post dC dI (va_A [(a0, .inr (8, [.ref a1, .ref aT])), (a1, .inr (5, [.ref a2, .ref b1, .ref b2, .ref b3, .ref b4, .ref b5, .int 0, .int 1, .int 0, .int 0, .int 0, .int 0])), (a2, .inr (2, [.ref b6, .int 0, .ref b7, .int 0])), (o0, .inl (cy 1, 1, .inr (.inl ((fun _ => 0)))))] sz) [] t) (va_A [(a0, .inr (8, [.ref a1, .ref aT])), (a1, .inr (5, [.ref a2, .ref b1, .ref b2, .ref b3, .ref b4, .ref b5, .int 0, .int 1, .int 0, .int 0, .int 0, .int 0])), (a2, .inr (2, [.ref b6, .int 0, .ref b7, .int 0])), (o0, .inl (cy 1, 1, .inr (.inl ((fun _ => 0)))))] sz)) 1 6 (va_A [(a0, .inr (8, [.ref a1, .ref aT])), (a1, .inr (5, [.ref a2, .ref b1, .ref b2, .ref b3, .ref b4, .ref b5, .int 0, .int 1, .int 0, .int 0, .int 0, .int 0])), (a2, .inr (2, [.ref b6, .int 0, .ref b7, .int 0])), (o0, .inl (cy 1, 1, .inr (.inl ((fun _ => 0)))))] sz) := by
  refine vx_ofWH (cc := cL_isShut) (maxL := 4) (ret := (some .int)) (hh := [(0, 16, 19, 19)]) (by decide) rfl ?_
  intro p e s m args below meth c s₁ B hml hv
  obtain ⟨rfl, hsz, hP, hK, hD0, hE, hZ⟩ := hv
  have hx := B.exec
  have hb := B.bytes
  have hr := B.returns
  have hts0 := atoms_spec (ws := tp_wW yL_isShut cL_isShut 4 (some .int) [(0, 16, 19, 19)]) B.pre
  have hts : ∀ w ∈ tp_all, w.before _ s = true := fun w h => hts0 w (List.mem_cons_of_mem _ h)
  have htb : c.exceptionTable.toList = tableOf [(0, 16, 19, 19)] := vx_table (x := yL_isShut) B (hts0 _ List.mem_cons_self)
  have hown : s.vm.findClass RL = some m.cls := findClass_of_methodNamed B.named
  have hlocks := B.notSynchronized
  subst hsz
  have hD := hD0.self (sz := s.heap.size)
  generalize hAe : va_A [(a0, .inr (8, [.ref a1, .ref aT])), (a1, .inr (5, [.ref a2, .ref b1, .ref b2, .ref b3, .ref b4, .ref b5, .int 0, .int 1, .int 0, .int 0, .int 0, .int 0])), (a2, .inr (2, [.ref b6, .int 0, .ref b7, .int 0])), (o0, .inl (cy 1, 1, .inr (.inl ((fun _ => 0)))))] s.heap.size = A at hD hZ ⊢
  have hA : ∀ q : Nat, s.heap.size ≤ q → A q := fun q h => by rw [← hAe]; exact Or.inr h
  have hS : va_S A s.heap s.heap [] := va_S.rf
  have hl9 := lv_entry ([.ref a0, .int p1, .ref o0]) (n := 4) (Nat.le_of_ble_eq_true rfl)
  rw [lg_entry_eq]
  generalize (lg_sl ([.ref a0, .int p1, .ref o0]) ++ List.replicate (4 - (lg_sl ([.ref a0, .int p1, .ref o0])).length) Slot.unset).toArray = ls at hl9 ⊢
  have hl : lv_has ls 4 [(0, .ref a0), (1, .int p1), (2, .ref o0)] := hl9
  refine lv_aload_n hx hb dL_isShut_0 rfl (lv_at hl 2 rfl) ?_
  refine lv_iconst (v := 0) hx hb dL_isShut_1 (by decide) ?_
  refine lv_aload_n hx hb dL_isShut_2 rfl (lv_at hl 0 rfl) ?_
  refine lv_iload_n hx hb dL_isShut_3 rfl (lv_at hl 1 rfl) ?_
  have hFc := va_free (wc := [(a0, .inr (8, [.ref a1, .ref aT])), (a1, .inr (5, [.ref a2, .ref b1, .ref b2, .ref b3, .ref b4, .ref b5, .int 0, .int 1, .int 0, .int 0, .int 0, .int 0])), (a2, .inr (2, [.ref b6, .int 0, .ref b7, .int 0]))]) hD hS hA [0, 1, 2] rfl
  refine vx_callv (vx_runV (As := [.int p1]) (rest := [.int 0, .ref o0]) ⟨hx, hb, hml, hown, hts⟩ (tm_isShut l hst dC dI cy a0 a1 a2 aT b1 b2 b3 b4 b5 b6 b7 p1 s.heap.size) (tp_cwV 1 hts tw_979 tw_561 tw_562 tw_38 tw_563 rfl rfl (by decide +kernel) ⟨Nat.le_of_ble_eq_true rfl, Nat.le_of_ble_eq_true rfl⟩) ⟨tp_blind, va_recv hK hP (ci := 8) (q0 := 0) rfl rfl, fun U hU hW => ⟨rfl, tp_pay hK hP hD hE hZ hS [0, 1, 2] (by decide) rfl hFc U hU hW⟩⟩ rfl rfl hl.1 rfl (lv_room (Nat.le_of_ble_eq_true rfl)) dL_isShut_4 ⟨(Nat.le_of_ble_eq_true rfl), (Nat.le_of_ble_eq_true rfl)⟩) hS (fun q _ h => hFc q h) hFc (fun q _ h => hFc q h) (fun E9 ce q9 u t H1 locs ht hvm hw hB hz1 hk1 hS hce hcv hcl => ?_) (fun u t H1 locs ht hvm hw hB hz1 hk1 hS => ?_)
  · obtain ⟨rfl, hP1, hD1⟩ := hB
    rw [ht] at hP1
    obtain ⟨hP, hD⟩ := va_join (wr := [(o0, .inl (cy 1, 1, .inr (.inl ((fun _ => 0)))))]) (w1 := []) hP hD [0, 1, 2] [3] rfl rfl (by decide) (by decide) hk1 hFc hP1 hD1
    generalize H1 = H at hP hS hce ⊢
    have hP : va_P (dC, dI) vwCl [(o0, .inl (cy 1, 1, .inr (.inl ((fun _ => 0)))))] _ := hP
    have hD : va_D A [(o0, .inl (cy 1, 1, .inr (.inl ((fun _ => 0)))))] := hD
    refine vx_catch (own := RL) (name := "java/lang/IndexOutOfBoundsException") hown [] { startPc := 0, endPc := 16, handlerPc := 19, catchType := 19 } [] htb (fun z hz => by cases hz) (by decide) (by decide) (hts _ tw_700) (va_Nw.use rfl (hE.2.2.2.2.2.1 _ (List.mem_of_getElem? (i := 0) rfl))) hce hcv hcl ?_
    refine lv_astore_n (lv' := [(3, .ref q9), (0, .ref a0), (1, .int p1), (2, .ref o0)]) hx hb dL_isShut_19 rfl hl (by decide) rfl (fun ls hl => ?_)
    refine lv_iconst (v := 1) hx hb dL_isShut_20 (by decide) ?_
    refine W.widen (k := 1) (n := 6) (Nat.le_of_ble_eq_true rfl) (Nat.le_of_ble_eq_true rfl) ?_
    refine vx_ret ?_
    have hP9 := hP.sub (ws' := [(o0, .inl (cy 1, 1, .inr (.inl ((fun _ => 0)))))]) [0] rfl
    have hD9 := hD.sub (ws' := [(o0, .inl (cy 1, 1, .inr (.inl ((fun _ => 0)))))]) [0] (by decide) rfl
    exact W.iret (v := 1) hx hb hr (fun t ht hW => ⟨⟨1, 1, rfl, rfl, ⟨(by first | exact pk_uLs | rfl | assumption), by rw [ht]; exact hP9, hD9⟩⟩, hS.F ht⟩) hS.2.2 dL_isShut_21
  · exact hw.elim
set_option maxRecDepth 100000 in
set_option maxHeartbeats 4000000 in
/-- rateOf -/
theorem tm_L_rateOf (l : Launch) (hst : l.stackTraces = false) (dC : Nat → ClassId) (dI : Nat → Nat → Nat) (cy : Nat → ClassId) (a0 : Nat) (a1 : Nat) (a2 : Nat) (aT : Nat) (b1 : Nat) (b2 : Nat) (b3 : Nat) (b4 : Nat) (b5 : Nat) (b6 : Nat) (b7 : Nat) (o0 : Nat) (p1 : Int32) (sz : Nat) : vx_Met l yL_rateOf (tp_wW yL_rateOf cL_rateOf 4 (some .int) [(0, 9, 12, 19)]) ({ frames := 8, cells := 1, slots := 6, locals := 125 }) (va_Pc [.ref a0, .int p1, .ref o0] (tp_Pre dC dI cy [(a0, .inr (8, [.ref a1, .ref aT])), (a1, .inr (5, [.ref a2, .ref b1, .ref b2, .ref b3, .ref b4, .ref b5, .int 0, .int 1, .int 0, .int 0, .int 0, .int 0])), (a2, .inr (2, [.ref b6, .int 0, .ref b7, .int 0])), (o0, .inl (cy 1, 1, .inr (.inl ((fun _ => 0)))))] sz)) (va_Qi (fun (r u : Int32) => r = u) (fun (u : Int32) (t : State) => (u = 1) ∧ tp_Post dC dI (va_A [(a0, .inr (8, [.ref a1, .ref aT])), (a1, .inr (5, [.ref a2, .ref b1, .ref b2, .ref b3, .ref b4, .ref b5, .int 0, .int 1, .int 0, .int 0, .int 0, .int 0])), (a2, .inr (2, [.ref b6, .int 0, .ref b7, .int 0])), (o0, .inl (cy 1, 1, .inr (.inl ((fun _ => 0)))))] sz) [(o0, .inl (cy 1, 1, .inr (.inl ((fun _ => 0)))))] t) (va_A [(a0, .inr (8, [.ref a1, .ref aT])), (a1, .inr (5, [.ref a2, .ref b1, .ref b2, .ref b3, .ref b4, .ref b5, .int 0, .int 1, .int 0, .int 0, .int 0, .int 0])), (a2, .inr (2, [.ref b6, .int 0, .ref b7, .int 0])), (o0, .inl (cy 1, 1, .inr (.inl ((fun _ => 0)))))] sz)) (vx_X (fun _ : Unit => True) (fun (E : String) (_ : Unit) (t : State) => (False) ∧ tp_Post dC dI (va_A [(a0, .inr (8, [.ref a1, .ref aT])), (a1, .inr (5, [.ref a2, .ref b1, .ref b2, .ref b3, .ref b4, .ref b5, .int 0, .int 1, .int 0, .int 0, .int 0, .int 0])), (a2, .inr (2, [.ref b6, .int 0, .ref b7, .int 0])), (o0, .inl (cy 1, 1, .inr (.inl ((fun _ => 0)))))] sz) [] t) (va_A [(a0, .inr (8, [.ref a1, .ref aT])), (a1, .inr (5, [.ref a2, .ref b1, .ref b2, .ref b3, .ref b4, .ref b5, .int 0, .int 1, .int 0, .int 0, .int 0, .int 0])), (a2, .inr (2, [.ref b6, .int 0, .ref b7, .int 0])), (o0, .inl (cy 1, 1, .inr (.inl ((fun _ => 0)))))] sz)) 1 6 (va_A [(a0, .inr (8, [.ref a1, .ref aT])), (a1, .inr (5, [.ref a2, .ref b1, .ref b2, .ref b3, .ref b4, .ref b5, .int 0, .int 1, .int 0, .int 0, .int 0, .int 0])), (a2, .inr (2, [.ref b6, .int 0, .ref b7, .int 0])), (o0, .inl (cy 1, 1, .inr (.inl ((fun _ => 0)))))] sz) := by
  refine vx_ofWH (cc := cL_rateOf) (maxL := 4) (ret := (some .int)) (hh := [(0, 9, 12, 19)]) (by decide) rfl ?_
  intro p e s m args below meth c s₁ B hml hv
  obtain ⟨rfl, hsz, hP, hK, hD0, hE, hZ⟩ := hv
  have hx := B.exec
  have hb := B.bytes
  have hr := B.returns
  have hts0 := atoms_spec (ws := tp_wW yL_rateOf cL_rateOf 4 (some .int) [(0, 9, 12, 19)]) B.pre
  have hts : ∀ w ∈ tp_all, w.before _ s = true := fun w h => hts0 w (List.mem_cons_of_mem _ h)
  have htb : c.exceptionTable.toList = tableOf [(0, 9, 12, 19)] := vx_table (x := yL_rateOf) B (hts0 _ List.mem_cons_self)
  have hown : s.vm.findClass RL = some m.cls := findClass_of_methodNamed B.named
  have hlocks := B.notSynchronized
  subst hsz
  have hD := hD0.self (sz := s.heap.size)
  generalize hAe : va_A [(a0, .inr (8, [.ref a1, .ref aT])), (a1, .inr (5, [.ref a2, .ref b1, .ref b2, .ref b3, .ref b4, .ref b5, .int 0, .int 1, .int 0, .int 0, .int 0, .int 0])), (a2, .inr (2, [.ref b6, .int 0, .ref b7, .int 0])), (o0, .inl (cy 1, 1, .inr (.inl ((fun _ => 0)))))] s.heap.size = A at hD hZ ⊢
  have hA : ∀ q : Nat, s.heap.size ≤ q → A q := fun q h => by rw [← hAe]; exact Or.inr h
  have hS : va_S A s.heap s.heap [] := va_S.rf
  have hl9 := lv_entry ([.ref a0, .int p1, .ref o0]) (n := 4) (Nat.le_of_ble_eq_true rfl)
  rw [lg_entry_eq]
  generalize (lg_sl ([.ref a0, .int p1, .ref o0]) ++ List.replicate (4 - (lg_sl ([.ref a0, .int p1, .ref o0])).length) Slot.unset).toArray = ls at hl9 ⊢
  have hl : lv_has ls 4 [(0, .ref a0), (1, .int p1), (2, .ref o0)] := hl9
  refine lv_aload_n hx hb dL_rateOf_0 rfl (lv_at hl 2 rfl) ?_
  refine lv_iconst (v := 0) hx hb dL_rateOf_1 (by decide) ?_
  refine lv_aload_n hx hb dL_rateOf_2 rfl (lv_at hl 0 rfl) ?_
  refine lv_iload_n hx hb dL_rateOf_3 rfl (lv_at hl 1 rfl) ?_
  have hFc := va_free (wc := [(a0, .inr (8, [.ref a1, .ref aT])), (a1, .inr (5, [.ref a2, .ref b1, .ref b2, .ref b3, .ref b4, .ref b5, .int 0, .int 1, .int 0, .int 0, .int 0, .int 0])), (a2, .inr (2, [.ref b6, .int 0, .ref b7, .int 0]))]) hD hS hA [0, 1, 2] rfl
  refine vx_callv (vx_runV (As := [.int p1]) (rest := [.int 0, .ref o0]) ⟨hx, hb, hml, hown, hts⟩ (tm_rateOf l hst dC dI cy a0 a1 a2 aT b1 b2 b3 b4 b5 b6 b7 p1 s.heap.size) (tp_cwV 1 hts tw_983 tw_574 tw_575 tw_38 tw_576 rfl rfl (by decide +kernel) ⟨Nat.le_of_ble_eq_true rfl, Nat.le_of_ble_eq_true rfl⟩) ⟨tp_blind, va_recv hK hP (ci := 8) (q0 := 0) rfl rfl, fun U hU hW => ⟨rfl, tp_pay hK hP hD hE hZ hS [0, 1, 2] (by decide) rfl hFc U hU hW⟩⟩ rfl rfl hl.1 rfl (lv_room (Nat.le_of_ble_eq_true rfl)) dL_rateOf_4 ⟨(Nat.le_of_ble_eq_true rfl), (Nat.le_of_ble_eq_true rfl)⟩) hS (fun q _ h => hFc q h) hFc (fun q _ h => hFc q h) (fun E9 ce q9 u t H1 locs ht hvm hw hB hz1 hk1 hS hce hcv hcl => ?_) (fun u t H1 locs ht hvm hw hB hz1 hk1 hS => ?_)
  · obtain ⟨rfl, hP1, hD1⟩ := hB
    rw [ht] at hP1
    obtain ⟨hP, hD⟩ := va_join (wr := [(o0, .inl (cy 1, 1, .inr (.inl ((fun _ => 0)))))]) (w1 := []) hP hD [0, 1, 2] [3] rfl rfl (by decide) (by decide) hk1 hFc hP1 hD1
    generalize H1 = H at hP hS hce ⊢
    have hP : va_P (dC, dI) vwCl [(o0, .inl (cy 1, 1, .inr (.inl ((fun _ => 0)))))] _ := hP
    have hD : va_D A [(o0, .inl (cy 1, 1, .inr (.inl ((fun _ => 0)))))] := hD
    refine vx_catch (own := RL) (name := "java/lang/IndexOutOfBoundsException") hown [] { startPc := 0, endPc := 9, handlerPc := 12, catchType := 19 } [] htb (fun z hz => by cases hz) (by decide) (by decide) (hts _ tw_700) (va_Nw.use rfl (hE.2.2.2.2.2.1 _ (List.mem_of_getElem? (i := 0) rfl))) hce hcv hcl ?_
    refine lv_astore_n (lv' := [(3, .ref q9), (0, .ref a0), (1, .int p1), (2, .ref o0)]) hx hb dL_rateOf_12 rfl hl (by decide) rfl (fun ls hl => ?_)
    refine lv_iconst (v := 1) hx hb dL_rateOf_13 (by decide) ?_
    refine W.widen (k := 1) (n := 6) (Nat.le_of_ble_eq_true rfl) (Nat.le_of_ble_eq_true rfl) ?_
    refine vx_ret ?_
    have hP9 := hP.sub (ws' := [(o0, .inl (cy 1, 1, .inr (.inl ((fun _ => 0)))))]) [0] rfl
    have hD9 := hD.sub (ws' := [(o0, .inl (cy 1, 1, .inr (.inl ((fun _ => 0)))))]) [0] (by decide) rfl
    exact W.iret (v := 1) hx hb hr (fun t ht hW => ⟨⟨1, 1, rfl, rfl, ⟨(by first | exact pk_uLs | rfl | assumption), by rw [ht]; exact hP9, hD9⟩⟩, hS.F ht⟩) hS.2.2 dL_rateOf_14
  · exact hw.elim
set_option maxRecDepth 100000 in
set_option maxHeartbeats 4000000 in
/-- costOf -/
theorem tm_L_costOf (l : Launch) (hst : l.stackTraces = false) (dC : Nat → ClassId) (dI : Nat → Nat → Nat) (cy : Nat → ClassId) (a0 : Nat) (a1 : Nat) (a2 : Nat) (aT : Nat) (b1 : Nat) (b2 : Nat) (b3 : Nat) (b4 : Nat) (b5 : Nat) (b6 : Nat) (b7 : Nat) (o0 : Nat) (p1 : Int32) (sz : Nat) : vx_Met l yL_costOf (tp_wW yL_costOf cL_costOf 4 (some .int) [(0, 9, 12, 19)]) ({ frames := 8, cells := 1, slots := 6, locals := 125 }) (va_Pc [.ref a0, .int p1, .ref o0] (tp_Pre dC dI cy [(a0, .inr (8, [.ref a1, .ref aT])), (a1, .inr (5, [.ref a2, .ref b1, .ref b2, .ref b3, .ref b4, .ref b5, .int 0, .int 1, .int 0, .int 0, .int 0, .int 0])), (a2, .inr (2, [.ref b6, .int 0, .ref b7, .int 0])), (o0, .inl (cy 1, 1, .inr (.inl ((fun _ => 0)))))] sz)) (va_Qi (fun (r u : Int32) => r = u) (fun (u : Int32) (t : State) => (u = 1) ∧ tp_Post dC dI (va_A [(a0, .inr (8, [.ref a1, .ref aT])), (a1, .inr (5, [.ref a2, .ref b1, .ref b2, .ref b3, .ref b4, .ref b5, .int 0, .int 1, .int 0, .int 0, .int 0, .int 0])), (a2, .inr (2, [.ref b6, .int 0, .ref b7, .int 0])), (o0, .inl (cy 1, 1, .inr (.inl ((fun _ => 0)))))] sz) [(o0, .inl (cy 1, 1, .inr (.inl ((fun _ => 0)))))] t) (va_A [(a0, .inr (8, [.ref a1, .ref aT])), (a1, .inr (5, [.ref a2, .ref b1, .ref b2, .ref b3, .ref b4, .ref b5, .int 0, .int 1, .int 0, .int 0, .int 0, .int 0])), (a2, .inr (2, [.ref b6, .int 0, .ref b7, .int 0])), (o0, .inl (cy 1, 1, .inr (.inl ((fun _ => 0)))))] sz)) (vx_X (fun _ : Unit => True) (fun (E : String) (_ : Unit) (t : State) => (False) ∧ tp_Post dC dI (va_A [(a0, .inr (8, [.ref a1, .ref aT])), (a1, .inr (5, [.ref a2, .ref b1, .ref b2, .ref b3, .ref b4, .ref b5, .int 0, .int 1, .int 0, .int 0, .int 0, .int 0])), (a2, .inr (2, [.ref b6, .int 0, .ref b7, .int 0])), (o0, .inl (cy 1, 1, .inr (.inl ((fun _ => 0)))))] sz) [] t) (va_A [(a0, .inr (8, [.ref a1, .ref aT])), (a1, .inr (5, [.ref a2, .ref b1, .ref b2, .ref b3, .ref b4, .ref b5, .int 0, .int 1, .int 0, .int 0, .int 0, .int 0])), (a2, .inr (2, [.ref b6, .int 0, .ref b7, .int 0])), (o0, .inl (cy 1, 1, .inr (.inl ((fun _ => 0)))))] sz)) 1 6 (va_A [(a0, .inr (8, [.ref a1, .ref aT])), (a1, .inr (5, [.ref a2, .ref b1, .ref b2, .ref b3, .ref b4, .ref b5, .int 0, .int 1, .int 0, .int 0, .int 0, .int 0])), (a2, .inr (2, [.ref b6, .int 0, .ref b7, .int 0])), (o0, .inl (cy 1, 1, .inr (.inl ((fun _ => 0)))))] sz) := by
  refine vx_ofWH (cc := cL_costOf) (maxL := 4) (ret := (some .int)) (hh := [(0, 9, 12, 19)]) (by decide) rfl ?_
  intro p e s m args below meth c s₁ B hml hv
  obtain ⟨rfl, hsz, hP, hK, hD0, hE, hZ⟩ := hv
  have hx := B.exec
  have hb := B.bytes
  have hr := B.returns
  have hts0 := atoms_spec (ws := tp_wW yL_costOf cL_costOf 4 (some .int) [(0, 9, 12, 19)]) B.pre
  have hts : ∀ w ∈ tp_all, w.before _ s = true := fun w h => hts0 w (List.mem_cons_of_mem _ h)
  have htb : c.exceptionTable.toList = tableOf [(0, 9, 12, 19)] := vx_table (x := yL_costOf) B (hts0 _ List.mem_cons_self)
  have hown : s.vm.findClass RL = some m.cls := findClass_of_methodNamed B.named
  have hlocks := B.notSynchronized
  subst hsz
  have hD := hD0.self (sz := s.heap.size)
  generalize hAe : va_A [(a0, .inr (8, [.ref a1, .ref aT])), (a1, .inr (5, [.ref a2, .ref b1, .ref b2, .ref b3, .ref b4, .ref b5, .int 0, .int 1, .int 0, .int 0, .int 0, .int 0])), (a2, .inr (2, [.ref b6, .int 0, .ref b7, .int 0])), (o0, .inl (cy 1, 1, .inr (.inl ((fun _ => 0)))))] s.heap.size = A at hD hZ ⊢
  have hA : ∀ q : Nat, s.heap.size ≤ q → A q := fun q h => by rw [← hAe]; exact Or.inr h
  have hS : va_S A s.heap s.heap [] := va_S.rf
  have hl9 := lv_entry ([.ref a0, .int p1, .ref o0]) (n := 4) (Nat.le_of_ble_eq_true rfl)
  rw [lg_entry_eq]
  generalize (lg_sl ([.ref a0, .int p1, .ref o0]) ++ List.replicate (4 - (lg_sl ([.ref a0, .int p1, .ref o0])).length) Slot.unset).toArray = ls at hl9 ⊢
  have hl : lv_has ls 4 [(0, .ref a0), (1, .int p1), (2, .ref o0)] := hl9
  refine lv_aload_n hx hb dL_costOf_0 rfl (lv_at hl 2 rfl) ?_
  refine lv_iconst (v := 0) hx hb dL_costOf_1 (by decide) ?_
  refine lv_aload_n hx hb dL_costOf_2 rfl (lv_at hl 0 rfl) ?_
  refine lv_iload_n hx hb dL_costOf_3 rfl (lv_at hl 1 rfl) ?_
  have hFc := va_free (wc := [(a0, .inr (8, [.ref a1, .ref aT])), (a1, .inr (5, [.ref a2, .ref b1, .ref b2, .ref b3, .ref b4, .ref b5, .int 0, .int 1, .int 0, .int 0, .int 0, .int 0])), (a2, .inr (2, [.ref b6, .int 0, .ref b7, .int 0]))]) hD hS hA [0, 1, 2] rfl
  refine vx_callv (vx_runV (As := [.int p1]) (rest := [.int 0, .ref o0]) ⟨hx, hb, hml, hown, hts⟩ (tm_costOf l hst dC dI cy a0 a1 a2 aT b1 b2 b3 b4 b5 b6 b7 p1 s.heap.size) (tp_cwV 1 hts tw_987 tw_578 tw_579 tw_38 tw_580 rfl rfl (by decide +kernel) ⟨Nat.le_of_ble_eq_true rfl, Nat.le_of_ble_eq_true rfl⟩) ⟨tp_blind, va_recv hK hP (ci := 8) (q0 := 0) rfl rfl, fun U hU hW => ⟨rfl, tp_pay hK hP hD hE hZ hS [0, 1, 2] (by decide) rfl hFc U hU hW⟩⟩ rfl rfl hl.1 rfl (lv_room (Nat.le_of_ble_eq_true rfl)) dL_costOf_4 ⟨(Nat.le_of_ble_eq_true rfl), (Nat.le_of_ble_eq_true rfl)⟩) hS (fun q _ h => hFc q h) hFc (fun q _ h => hFc q h) (fun E9 ce q9 u t H1 locs ht hvm hw hB hz1 hk1 hS hce hcv hcl => ?_) (fun u t H1 locs ht hvm hw hB hz1 hk1 hS => ?_)
  · obtain ⟨rfl, hP1, hD1⟩ := hB
    rw [ht] at hP1
    obtain ⟨hP, hD⟩ := va_join (wr := [(o0, .inl (cy 1, 1, .inr (.inl ((fun _ => 0)))))]) (w1 := []) hP hD [0, 1, 2] [3] rfl rfl (by decide) (by decide) hk1 hFc hP1 hD1
    generalize H1 = H at hP hS hce ⊢
    have hP : va_P (dC, dI) vwCl [(o0, .inl (cy 1, 1, .inr (.inl ((fun _ => 0)))))] _ := hP
    have hD : va_D A [(o0, .inl (cy 1, 1, .inr (.inl ((fun _ => 0)))))] := hD
    refine vx_catch (own := RL) (name := "java/lang/IndexOutOfBoundsException") hown [] { startPc := 0, endPc := 9, handlerPc := 12, catchType := 19 } [] htb (fun z hz => by cases hz) (by decide) (by decide) (hts _ tw_700) (va_Nw.use rfl (hE.2.2.2.2.2.1 _ (List.mem_of_getElem? (i := 0) rfl))) hce hcv hcl ?_
    refine lv_astore_n (lv' := [(3, .ref q9), (0, .ref a0), (1, .int p1), (2, .ref o0)]) hx hb dL_costOf_12 rfl hl (by decide) rfl (fun ls hl => ?_)
    refine lv_iconst (v := 1) hx hb dL_costOf_13 (by decide) ?_
    refine W.widen (k := 1) (n := 6) (Nat.le_of_ble_eq_true rfl) (Nat.le_of_ble_eq_true rfl) ?_
    refine vx_ret ?_
    have hP9 := hP.sub (ws' := [(o0, .inl (cy 1, 1, .inr (.inl ((fun _ => 0)))))]) [0] rfl
    have hD9 := hD.sub (ws' := [(o0, .inl (cy 1, 1, .inr (.inl ((fun _ => 0)))))]) [0] (by decide) rfl
    exact W.iret (v := 1) hx hb hr (fun t ht hW => ⟨⟨1, 1, rfl, rfl, ⟨(by first | exact pk_uLs | rfl | assumption), by rw [ht]; exact hP9, hD9⟩⟩, hS.F ht⟩) hS.2.2 dL_costOf_14
  · exact hw.elim
set_option maxRecDepth 100000 in
set_option maxHeartbeats 4000000 in
/-- phaseOf -/
theorem tm_L_phaseOf (l : Launch) (hst : l.stackTraces = false) (dC : Nat → ClassId) (dI : Nat → Nat → Nat) (cy : Nat → ClassId) (a0 : Nat) (a1 : Nat) (a2 : Nat) (aT : Nat) (b1 : Nat) (b2 : Nat) (b3 : Nat) (b4 : Nat) (b5 : Nat) (b6 : Nat) (b7 : Nat) (o0 : Nat) (p1 : Int32) (sz : Nat) : vx_Met l yL_phaseOf (tp_wW yL_phaseOf cL_phaseOf 4 (some .int) [(0, 9, 12, 19)]) ({ frames := 8, cells := 1, slots := 6, locals := 124 }) (va_Pc [.ref a0, .int p1, .ref o0] (tp_Pre dC dI cy [(a0, .inr (8, [.ref a1, .ref aT])), (a1, .inr (5, [.ref a2, .ref b1, .ref b2, .ref b3, .ref b4, .ref b5, .int 0, .int 1, .int 0, .int 0, .int 0, .int 0])), (a2, .inr (2, [.ref b6, .int 0, .ref b7, .int 0])), (o0, .inl (cy 1, 1, .inr (.inl ((fun _ => 0)))))] sz)) (va_Qi (fun (r u : Int32) => r = u) (fun (u : Int32) (t : State) => (u = 1) ∧ tp_Post dC dI (va_A [(a0, .inr (8, [.ref a1, .ref aT])), (a1, .inr (5, [.ref a2, .ref b1, .ref b2, .ref b3, .ref b4, .ref b5, .int 0, .int 1, .int 0, .int 0, .int 0, .int 0])), (a2, .inr (2, [.ref b6, .int 0, .ref b7, .int 0])), (o0, .inl (cy 1, 1, .inr (.inl ((fun _ => 0)))))] sz) [(o0, .inl (cy 1, 1, .inr (.inl ((fun _ => 0)))))] t) (va_A [(a0, .inr (8, [.ref a1, .ref aT])), (a1, .inr (5, [.ref a2, .ref b1, .ref b2, .ref b3, .ref b4, .ref b5, .int 0, .int 1, .int 0, .int 0, .int 0, .int 0])), (a2, .inr (2, [.ref b6, .int 0, .ref b7, .int 0])), (o0, .inl (cy 1, 1, .inr (.inl ((fun _ => 0)))))] sz)) (vx_X (fun _ : Unit => True) (fun (E : String) (_ : Unit) (t : State) => (False) ∧ tp_Post dC dI (va_A [(a0, .inr (8, [.ref a1, .ref aT])), (a1, .inr (5, [.ref a2, .ref b1, .ref b2, .ref b3, .ref b4, .ref b5, .int 0, .int 1, .int 0, .int 0, .int 0, .int 0])), (a2, .inr (2, [.ref b6, .int 0, .ref b7, .int 0])), (o0, .inl (cy 1, 1, .inr (.inl ((fun _ => 0)))))] sz) [] t) (va_A [(a0, .inr (8, [.ref a1, .ref aT])), (a1, .inr (5, [.ref a2, .ref b1, .ref b2, .ref b3, .ref b4, .ref b5, .int 0, .int 1, .int 0, .int 0, .int 0, .int 0])), (a2, .inr (2, [.ref b6, .int 0, .ref b7, .int 0])), (o0, .inl (cy 1, 1, .inr (.inl ((fun _ => 0)))))] sz)) 1 6 (va_A [(a0, .inr (8, [.ref a1, .ref aT])), (a1, .inr (5, [.ref a2, .ref b1, .ref b2, .ref b3, .ref b4, .ref b5, .int 0, .int 1, .int 0, .int 0, .int 0, .int 0])), (a2, .inr (2, [.ref b6, .int 0, .ref b7, .int 0])), (o0, .inl (cy 1, 1, .inr (.inl ((fun _ => 0)))))] sz) := by
  refine vx_ofWH (cc := cL_phaseOf) (maxL := 4) (ret := (some .int)) (hh := [(0, 9, 12, 19)]) (by decide) rfl ?_
  intro p e s m args below meth c s₁ B hml hv
  obtain ⟨rfl, hsz, hP, hK, hD0, hE, hZ⟩ := hv
  have hx := B.exec
  have hb := B.bytes
  have hr := B.returns
  have hts0 := atoms_spec (ws := tp_wW yL_phaseOf cL_phaseOf 4 (some .int) [(0, 9, 12, 19)]) B.pre
  have hts : ∀ w ∈ tp_all, w.before _ s = true := fun w h => hts0 w (List.mem_cons_of_mem _ h)
  have htb : c.exceptionTable.toList = tableOf [(0, 9, 12, 19)] := vx_table (x := yL_phaseOf) B (hts0 _ List.mem_cons_self)
  have hown : s.vm.findClass RL = some m.cls := findClass_of_methodNamed B.named
  have hlocks := B.notSynchronized
  subst hsz
  have hD := hD0.self (sz := s.heap.size)
  generalize hAe : va_A [(a0, .inr (8, [.ref a1, .ref aT])), (a1, .inr (5, [.ref a2, .ref b1, .ref b2, .ref b3, .ref b4, .ref b5, .int 0, .int 1, .int 0, .int 0, .int 0, .int 0])), (a2, .inr (2, [.ref b6, .int 0, .ref b7, .int 0])), (o0, .inl (cy 1, 1, .inr (.inl ((fun _ => 0)))))] s.heap.size = A at hD hZ ⊢
  have hA : ∀ q : Nat, s.heap.size ≤ q → A q := fun q h => by rw [← hAe]; exact Or.inr h
  have hS : va_S A s.heap s.heap [] := va_S.rf
  have hl9 := lv_entry ([.ref a0, .int p1, .ref o0]) (n := 4) (Nat.le_of_ble_eq_true rfl)
  rw [lg_entry_eq]
  generalize (lg_sl ([.ref a0, .int p1, .ref o0]) ++ List.replicate (4 - (lg_sl ([.ref a0, .int p1, .ref o0])).length) Slot.unset).toArray = ls at hl9 ⊢
  have hl : lv_has ls 4 [(0, .ref a0), (1, .int p1), (2, .ref o0)] := hl9
  refine lv_aload_n hx hb dL_phaseOf_0 rfl (lv_at hl 2 rfl) ?_
  refine lv_iconst (v := 0) hx hb dL_phaseOf_1 (by decide) ?_
  refine lv_aload_n hx hb dL_phaseOf_2 rfl (lv_at hl 0 rfl) ?_
  refine lv_iload_n hx hb dL_phaseOf_3 rfl (lv_at hl 1 rfl) ?_
  have hFc := va_free (wc := [(a0, .inr (8, [.ref a1, .ref aT])), (a1, .inr (5, [.ref a2, .ref b1, .ref b2, .ref b3, .ref b4, .ref b5, .int 0, .int 1, .int 0, .int 0, .int 0, .int 0])), (a2, .inr (2, [.ref b6, .int 0, .ref b7, .int 0]))]) hD hS hA [0, 1, 2] rfl
  refine vx_callv (vx_runV (As := [.int p1]) (rest := [.int 0, .ref o0]) ⟨hx, hb, hml, hown, hts⟩ (tm_phaseOf l hst dC dI cy a0 a1 a2 aT b1 b2 b3 b4 b5 b6 b7 p1 s.heap.size) (tp_cwV 1 hts tw_991 tw_453 tw_454 tw_38 tw_455 rfl rfl (by decide +kernel) ⟨Nat.le_of_ble_eq_true rfl, Nat.le_of_ble_eq_true rfl⟩) ⟨tp_blind, va_recv hK hP (ci := 8) (q0 := 0) rfl rfl, fun U hU hW => ⟨rfl, tp_pay hK hP hD hE hZ hS [0, 1, 2] (by decide) rfl hFc U hU hW⟩⟩ rfl rfl hl.1 rfl (lv_room (Nat.le_of_ble_eq_true rfl)) dL_phaseOf_4 ⟨(Nat.le_of_ble_eq_true rfl), (Nat.le_of_ble_eq_true rfl)⟩) hS (fun q _ h => hFc q h) hFc (fun q _ h => hFc q h) (fun E9 ce q9 u t H1 locs ht hvm hw hB hz1 hk1 hS hce hcv hcl => ?_) (fun u t H1 locs ht hvm hw hB hz1 hk1 hS => ?_)
  · obtain ⟨rfl, hP1, hD1⟩ := hB
    rw [ht] at hP1
    obtain ⟨hP, hD⟩ := va_join (wr := [(o0, .inl (cy 1, 1, .inr (.inl ((fun _ => 0)))))]) (w1 := []) hP hD [0, 1, 2] [3] rfl rfl (by decide) (by decide) hk1 hFc hP1 hD1
    generalize H1 = H at hP hS hce ⊢
    have hP : va_P (dC, dI) vwCl [(o0, .inl (cy 1, 1, .inr (.inl ((fun _ => 0)))))] _ := hP
    have hD : va_D A [(o0, .inl (cy 1, 1, .inr (.inl ((fun _ => 0)))))] := hD
    refine vx_catch (own := RL) (name := "java/lang/IndexOutOfBoundsException") hown [] { startPc := 0, endPc := 9, handlerPc := 12, catchType := 19 } [] htb (fun z hz => by cases hz) (by decide) (by decide) (hts _ tw_700) (va_Nw.use rfl (hE.2.2.2.2.2.1 _ (List.mem_of_getElem? (i := 0) rfl))) hce hcv hcl ?_
    refine lv_astore_n (lv' := [(3, .ref q9), (0, .ref a0), (1, .int p1), (2, .ref o0)]) hx hb dL_phaseOf_12 rfl hl (by decide) rfl (fun ls hl => ?_)
    refine lv_iconst (v := 1) hx hb dL_phaseOf_13 (by decide) ?_
    refine W.widen (k := 1) (n := 6) (Nat.le_of_ble_eq_true rfl) (Nat.le_of_ble_eq_true rfl) ?_
    refine vx_ret ?_
    have hP9 := hP.sub (ws' := [(o0, .inl (cy 1, 1, .inr (.inl ((fun _ => 0)))))]) [0] rfl
    have hD9 := hD.sub (ws' := [(o0, .inl (cy 1, 1, .inr (.inl ((fun _ => 0)))))]) [0] (by decide) rfl
    exact W.iret (v := 1) hx hb hr (fun t ht hW => ⟨⟨1, 1, rfl, rfl, ⟨(by first | exact pk_uLs | rfl | assumption), by rw [ht]; exact hP9, hD9⟩⟩, hS.F ht⟩) hS.2.2 dL_phaseOf_14
  · exact hw.elim
set_option maxRecDepth 100000 in
set_option maxHeartbeats 4000000 in
/-- phaseTicks -/
theorem tm_L_phaseTicks (l : Launch) (hst : l.stackTraces = false) (dC : Nat → ClassId) (dI : Nat → Nat → Nat) (cy : Nat → ClassId) (a0 : Nat) (a1 : Nat) (a2 : Nat) (aT : Nat) (b1 : Nat) (b2 : Nat) (b3 : Nat) (b4 : Nat) (b5 : Nat) (b6 : Nat) (b7 : Nat) (o0 : Nat) (p1 : Int32) (sz : Nat) : vx_Met l yL_phaseTicks (tp_wW yL_phaseTicks cL_phaseTicks 4 (some .int) [(0, 9, 12, 19)]) ({ frames := 8, cells := 1, slots := 6, locals := 124 }) (va_Pc [.ref a0, .int p1, .ref o0] (tp_Pre dC dI cy [(a0, .inr (8, [.ref a1, .ref aT])), (a1, .inr (5, [.ref a2, .ref b1, .ref b2, .ref b3, .ref b4, .ref b5, .int 0, .int 1, .int 0, .int 0, .int 0, .int 0])), (a2, .inr (2, [.ref b6, .int 0, .ref b7, .int 0])), (o0, .inl (cy 1, 1, .inr (.inl ((fun _ => 0)))))] sz)) (va_Qi (fun (r u : Int32) => r = u) (fun (u : Int32) (t : State) => (u = 1) ∧ tp_Post dC dI (va_A [(a0, .inr (8, [.ref a1, .ref aT])), (a1, .inr (5, [.ref a2, .ref b1, .ref b2, .ref b3, .ref b4, .ref b5, .int 0, .int 1, .int 0, .int 0, .int 0, .int 0])), (a2, .inr (2, [.ref b6, .int 0, .ref b7, .int 0])), (o0, .inl (cy 1, 1, .inr (.inl ((fun _ => 0)))))] sz) [(o0, .inl (cy 1, 1, .inr (.inl ((fun _ => 0)))))] t) (va_A [(a0, .inr (8, [.ref a1, .ref aT])), (a1, .inr (5, [.ref a2, .ref b1, .ref b2, .ref b3, .ref b4, .ref b5, .int 0, .int 1, .int 0, .int 0, .int 0, .int 0])), (a2, .inr (2, [.ref b6, .int 0, .ref b7, .int 0])), (o0, .inl (cy 1, 1, .inr (.inl ((fun _ => 0)))))] sz)) (vx_X (fun _ : Unit => True) (fun (E : String) (_ : Unit) (t : State) => (False) ∧ tp_Post dC dI (va_A [(a0, .inr (8, [.ref a1, .ref aT])), (a1, .inr (5, [.ref a2, .ref b1, .ref b2, .ref b3, .ref b4, .ref b5, .int 0, .int 1, .int 0, .int 0, .int 0, .int 0])), (a2, .inr (2, [.ref b6, .int 0, .ref b7, .int 0])), (o0, .inl (cy 1, 1, .inr (.inl ((fun _ => 0)))))] sz) [] t) (va_A [(a0, .inr (8, [.ref a1, .ref aT])), (a1, .inr (5, [.ref a2, .ref b1, .ref b2, .ref b3, .ref b4, .ref b5, .int 0, .int 1, .int 0, .int 0, .int 0, .int 0])), (a2, .inr (2, [.ref b6, .int 0, .ref b7, .int 0])), (o0, .inl (cy 1, 1, .inr (.inl ((fun _ => 0)))))] sz)) 1 6 (va_A [(a0, .inr (8, [.ref a1, .ref aT])), (a1, .inr (5, [.ref a2, .ref b1, .ref b2, .ref b3, .ref b4, .ref b5, .int 0, .int 1, .int 0, .int 0, .int 0, .int 0])), (a2, .inr (2, [.ref b6, .int 0, .ref b7, .int 0])), (o0, .inl (cy 1, 1, .inr (.inl ((fun _ => 0)))))] sz) := by
  refine vx_ofWH (cc := cL_phaseTicks) (maxL := 4) (ret := (some .int)) (hh := [(0, 9, 12, 19)]) (by decide) rfl ?_
  intro p e s m args below meth c s₁ B hml hv
  obtain ⟨rfl, hsz, hP, hK, hD0, hE, hZ⟩ := hv
  have hx := B.exec
  have hb := B.bytes
  have hr := B.returns
  have hts0 := atoms_spec (ws := tp_wW yL_phaseTicks cL_phaseTicks 4 (some .int) [(0, 9, 12, 19)]) B.pre
  have hts : ∀ w ∈ tp_all, w.before _ s = true := fun w h => hts0 w (List.mem_cons_of_mem _ h)
  have htb : c.exceptionTable.toList = tableOf [(0, 9, 12, 19)] := vx_table (x := yL_phaseTicks) B (hts0 _ List.mem_cons_self)
  have hown : s.vm.findClass RL = some m.cls := findClass_of_methodNamed B.named
  have hlocks := B.notSynchronized
  subst hsz
  have hD := hD0.self (sz := s.heap.size)
  generalize hAe : va_A [(a0, .inr (8, [.ref a1, .ref aT])), (a1, .inr (5, [.ref a2, .ref b1, .ref b2, .ref b3, .ref b4, .ref b5, .int 0, .int 1, .int 0, .int 0, .int 0, .int 0])), (a2, .inr (2, [.ref b6, .int 0, .ref b7, .int 0])), (o0, .inl (cy 1, 1, .inr (.inl ((fun _ => 0)))))] s.heap.size = A at hD hZ ⊢
  have hA : ∀ q : Nat, s.heap.size ≤ q → A q := fun q h => by rw [← hAe]; exact Or.inr h
  have hS : va_S A s.heap s.heap [] := va_S.rf
  have hl9 := lv_entry ([.ref a0, .int p1, .ref o0]) (n := 4) (Nat.le_of_ble_eq_true rfl)
  rw [lg_entry_eq]
  generalize (lg_sl ([.ref a0, .int p1, .ref o0]) ++ List.replicate (4 - (lg_sl ([.ref a0, .int p1, .ref o0])).length) Slot.unset).toArray = ls at hl9 ⊢
  have hl : lv_has ls 4 [(0, .ref a0), (1, .int p1), (2, .ref o0)] := hl9
  refine lv_aload_n hx hb dL_phaseTicks_0 rfl (lv_at hl 2 rfl) ?_
  refine lv_iconst (v := 0) hx hb dL_phaseTicks_1 (by decide) ?_
  refine lv_aload_n hx hb dL_phaseTicks_2 rfl (lv_at hl 0 rfl) ?_
  refine lv_iload_n hx hb dL_phaseTicks_3 rfl (lv_at hl 1 rfl) ?_
  have hFc := va_free (wc := [(a0, .inr (8, [.ref a1, .ref aT])), (a1, .inr (5, [.ref a2, .ref b1, .ref b2, .ref b3, .ref b4, .ref b5, .int 0, .int 1, .int 0, .int 0, .int 0, .int 0])), (a2, .inr (2, [.ref b6, .int 0, .ref b7, .int 0]))]) hD hS hA [0, 1, 2] rfl
  refine vx_callv (vx_runV (As := [.int p1]) (rest := [.int 0, .ref o0]) ⟨hx, hb, hml, hown, hts⟩ (tm_phaseTicks l hst dC dI cy a0 a1 a2 aT b1 b2 b3 b4 b5 b6 b7 p1 s.heap.size) (tp_cwV 1 hts tw_995 tw_529 tw_530 tw_38 tw_531 rfl rfl (by decide +kernel) ⟨Nat.le_of_ble_eq_true rfl, Nat.le_of_ble_eq_true rfl⟩) ⟨tp_blind, va_recv hK hP (ci := 8) (q0 := 0) rfl rfl, fun U hU hW => ⟨rfl, tp_pay hK hP hD hE hZ hS [0, 1, 2] (by decide) rfl hFc U hU hW⟩⟩ rfl rfl hl.1 rfl (lv_room (Nat.le_of_ble_eq_true rfl)) dL_phaseTicks_4 ⟨(Nat.le_of_ble_eq_true rfl), (Nat.le_of_ble_eq_true rfl)⟩) hS (fun q _ h => hFc q h) hFc (fun q _ h => hFc q h) (fun E9 ce q9 u t H1 locs ht hvm hw hB hz1 hk1 hS hce hcv hcl => ?_) (fun u t H1 locs ht hvm hw hB hz1 hk1 hS => ?_)
  · obtain ⟨rfl, hP1, hD1⟩ := hB
    rw [ht] at hP1
    obtain ⟨hP, hD⟩ := va_join (wr := [(o0, .inl (cy 1, 1, .inr (.inl ((fun _ => 0)))))]) (w1 := []) hP hD [0, 1, 2] [3] rfl rfl (by decide) (by decide) hk1 hFc hP1 hD1
    generalize H1 = H at hP hS hce ⊢
    have hP : va_P (dC, dI) vwCl [(o0, .inl (cy 1, 1, .inr (.inl ((fun _ => 0)))))] _ := hP
    have hD : va_D A [(o0, .inl (cy 1, 1, .inr (.inl ((fun _ => 0)))))] := hD
    refine vx_catch (own := RL) (name := "java/lang/IndexOutOfBoundsException") hown [] { startPc := 0, endPc := 9, handlerPc := 12, catchType := 19 } [] htb (fun z hz => by cases hz) (by decide) (by decide) (hts _ tw_700) (va_Nw.use rfl (hE.2.2.2.2.2.1 _ (List.mem_of_getElem? (i := 0) rfl))) hce hcv hcl ?_
    refine lv_astore_n (lv' := [(3, .ref q9), (0, .ref a0), (1, .int p1), (2, .ref o0)]) hx hb dL_phaseTicks_12 rfl hl (by decide) rfl (fun ls hl => ?_)
    refine lv_iconst (v := 1) hx hb dL_phaseTicks_13 (by decide) ?_
    refine W.widen (k := 1) (n := 6) (Nat.le_of_ble_eq_true rfl) (Nat.le_of_ble_eq_true rfl) ?_
    refine vx_ret ?_
    have hP9 := hP.sub (ws' := [(o0, .inl (cy 1, 1, .inr (.inl ((fun _ => 0)))))]) [0] rfl
    have hD9 := hD.sub (ws' := [(o0, .inl (cy 1, 1, .inr (.inl ((fun _ => 0)))))]) [0] (by decide) rfl
    exact W.iret (v := 1) hx hb hr (fun t ht hW => ⟨⟨1, 1, rfl, rfl, ⟨(by first | exact pk_uLs | rfl | assumption), by rw [ht]; exact hP9, hD9⟩⟩, hS.F ht⟩) hS.2.2 dL_phaseTicks_14
  · exact hw.elim
set_option maxRecDepth 100000 in
set_option maxHeartbeats 4000000 in
/-- distance -/
theorem tm_L_distance (l : Launch) (hst : l.stackTraces = false) (dC : Nat → ClassId) (dI : Nat → Nat → Nat) (cy : Nat → ClassId) (a0 : Nat) (a1 : Nat) (a2 : Nat) (aT : Nat) (b1 : Nat) (b2 : Nat) (b3 : Nat) (b4 : Nat) (b5 : Nat) (b6 : Nat) (b7 : Nat) (o0 : Nat) (p1 : Int32) (p2 : Int32) (sz : Nat) : vx_Met l yL_distance (tp_wW yL_distance cL_distance 5 (some .int) [(0, 10, 13, 19)]) ({ frames := 8, cells := 1, slots := 6, locals := 125 }) (va_Pc [.ref a0, .int p1, .int p2, .ref o0] (tp_Pre dC dI cy [(a0, .inr (8, [.ref a1, .ref aT])), (a1, .inr (5, [.ref a2, .ref b1, .ref b2, .ref b3, .ref b4, .ref b5, .int 0, .int 1, .int 0, .int 0, .int 0, .int 0])), (a2, .inr (2, [.ref b6, .int 0, .ref b7, .int 0])), (o0, .inl (cy 1, 1, .inr (.inl ((fun _ => 0)))))] sz)) (va_Qi (fun (r u : Int32) => r = u) (fun (u : Int32) (t : State) => (u = 1) ∧ tp_Post dC dI (va_A [(a0, .inr (8, [.ref a1, .ref aT])), (a1, .inr (5, [.ref a2, .ref b1, .ref b2, .ref b3, .ref b4, .ref b5, .int 0, .int 1, .int 0, .int 0, .int 0, .int 0])), (a2, .inr (2, [.ref b6, .int 0, .ref b7, .int 0])), (o0, .inl (cy 1, 1, .inr (.inl ((fun _ => 0)))))] sz) [(o0, .inl (cy 1, 1, .inr (.inl ((fun _ => 0)))))] t) (va_A [(a0, .inr (8, [.ref a1, .ref aT])), (a1, .inr (5, [.ref a2, .ref b1, .ref b2, .ref b3, .ref b4, .ref b5, .int 0, .int 1, .int 0, .int 0, .int 0, .int 0])), (a2, .inr (2, [.ref b6, .int 0, .ref b7, .int 0])), (o0, .inl (cy 1, 1, .inr (.inl ((fun _ => 0)))))] sz)) (vx_X (fun _ : Unit => True) (fun (E : String) (_ : Unit) (t : State) => (False) ∧ tp_Post dC dI (va_A [(a0, .inr (8, [.ref a1, .ref aT])), (a1, .inr (5, [.ref a2, .ref b1, .ref b2, .ref b3, .ref b4, .ref b5, .int 0, .int 1, .int 0, .int 0, .int 0, .int 0])), (a2, .inr (2, [.ref b6, .int 0, .ref b7, .int 0])), (o0, .inl (cy 1, 1, .inr (.inl ((fun _ => 0)))))] sz) [] t) (va_A [(a0, .inr (8, [.ref a1, .ref aT])), (a1, .inr (5, [.ref a2, .ref b1, .ref b2, .ref b3, .ref b4, .ref b5, .int 0, .int 1, .int 0, .int 0, .int 0, .int 0])), (a2, .inr (2, [.ref b6, .int 0, .ref b7, .int 0])), (o0, .inl (cy 1, 1, .inr (.inl ((fun _ => 0)))))] sz)) 1 6 (va_A [(a0, .inr (8, [.ref a1, .ref aT])), (a1, .inr (5, [.ref a2, .ref b1, .ref b2, .ref b3, .ref b4, .ref b5, .int 0, .int 1, .int 0, .int 0, .int 0, .int 0])), (a2, .inr (2, [.ref b6, .int 0, .ref b7, .int 0])), (o0, .inl (cy 1, 1, .inr (.inl ((fun _ => 0)))))] sz) := by
  refine vx_ofWH (cc := cL_distance) (maxL := 5) (ret := (some .int)) (hh := [(0, 10, 13, 19)]) (by decide) rfl ?_
  intro p e s m args below meth c s₁ B hml hv
  obtain ⟨rfl, hsz, hP, hK, hD0, hE, hZ⟩ := hv
  have hx := B.exec
  have hb := B.bytes
  have hr := B.returns
  have hts0 := atoms_spec (ws := tp_wW yL_distance cL_distance 5 (some .int) [(0, 10, 13, 19)]) B.pre
  have hts : ∀ w ∈ tp_all, w.before _ s = true := fun w h => hts0 w (List.mem_cons_of_mem _ h)
  have htb : c.exceptionTable.toList = tableOf [(0, 10, 13, 19)] := vx_table (x := yL_distance) B (hts0 _ List.mem_cons_self)
  have hown : s.vm.findClass RL = some m.cls := findClass_of_methodNamed B.named
  have hlocks := B.notSynchronized
  subst hsz
  have hD := hD0.self (sz := s.heap.size)
  generalize hAe : va_A [(a0, .inr (8, [.ref a1, .ref aT])), (a1, .inr (5, [.ref a2, .ref b1, .ref b2, .ref b3, .ref b4, .ref b5, .int 0, .int 1, .int 0, .int 0, .int 0, .int 0])), (a2, .inr (2, [.ref b6, .int 0, .ref b7, .int 0])), (o0, .inl (cy 1, 1, .inr (.inl ((fun _ => 0)))))] s.heap.size = A at hD hZ ⊢
  have hA : ∀ q : Nat, s.heap.size ≤ q → A q := fun q h => by rw [← hAe]; exact Or.inr h
  have hS : va_S A s.heap s.heap [] := va_S.rf
  have hl9 := lv_entry ([.ref a0, .int p1, .int p2, .ref o0]) (n := 5) (Nat.le_of_ble_eq_true rfl)
  rw [lg_entry_eq]
  generalize (lg_sl ([.ref a0, .int p1, .int p2, .ref o0]) ++ List.replicate (5 - (lg_sl ([.ref a0, .int p1, .int p2, .ref o0])).length) Slot.unset).toArray = ls at hl9 ⊢
  have hl : lv_has ls 5 [(0, .ref a0), (1, .int p1), (2, .int p2), (3, .ref o0)] := hl9
  refine lv_aload_n hx hb dL_distance_0 rfl (lv_at hl 3 rfl) ?_
  refine lv_iconst (v := 0) hx hb dL_distance_1 (by decide) ?_
  refine lv_aload_n hx hb dL_distance_2 rfl (lv_at hl 0 rfl) ?_
  refine lv_iload_n hx hb dL_distance_3 rfl (lv_at hl 1 rfl) ?_
  refine lv_iload_n hx hb dL_distance_4 rfl (lv_at hl 2 rfl) ?_
  have hFc := va_free (wc := [(a0, .inr (8, [.ref a1, .ref aT])), (a1, .inr (5, [.ref a2, .ref b1, .ref b2, .ref b3, .ref b4, .ref b5, .int 0, .int 1, .int 0, .int 0, .int 0, .int 0])), (a2, .inr (2, [.ref b6, .int 0, .ref b7, .int 0]))]) hD hS hA [0, 1, 2] rfl
  refine vx_callv (vx_runV (As := [.int p1, .int p2]) (rest := [.int 0, .ref o0]) ⟨hx, hb, hml, hown, hts⟩ (tm_distance l hst dC dI cy a0 a1 a2 aT b1 b2 b3 b4 b5 b6 b7 p1 p2 s.heap.size) (tp_cwV 2 hts tw_999 tw_537 tw_538 tw_38 tw_539 rfl rfl (by decide +kernel) ⟨Nat.le_of_ble_eq_true rfl, Nat.le_of_ble_eq_true rfl⟩) ⟨tp_blind, va_recv hK hP (ci := 8) (q0 := 0) rfl rfl, fun U hU hW => ⟨rfl, tp_pay hK hP hD hE hZ hS [0, 1, 2] (by decide) rfl hFc U hU hW⟩⟩ rfl rfl hl.1 rfl (lv_room (Nat.le_of_ble_eq_true rfl)) dL_distance_5 ⟨(Nat.le_of_ble_eq_true rfl), (Nat.le_of_ble_eq_true rfl)⟩) hS (fun q _ h => hFc q h) hFc (fun q _ h => hFc q h) (fun E9 ce q9 u t H1 locs ht hvm hw hB hz1 hk1 hS hce hcv hcl => ?_) (fun u t H1 locs ht hvm hw hB hz1 hk1 hS => ?_)
  · obtain ⟨rfl, hP1, hD1⟩ := hB
    rw [ht] at hP1
    obtain ⟨hP, hD⟩ := va_join (wr := [(o0, .inl (cy 1, 1, .inr (.inl ((fun _ => 0)))))]) (w1 := []) hP hD [0, 1, 2] [3] rfl rfl (by decide) (by decide) hk1 hFc hP1 hD1
    generalize H1 = H at hP hS hce ⊢
    have hP : va_P (dC, dI) vwCl [(o0, .inl (cy 1, 1, .inr (.inl ((fun _ => 0)))))] _ := hP
    have hD : va_D A [(o0, .inl (cy 1, 1, .inr (.inl ((fun _ => 0)))))] := hD
    refine vx_catch (own := RL) (name := "java/lang/IndexOutOfBoundsException") hown [] { startPc := 0, endPc := 10, handlerPc := 13, catchType := 19 } [] htb (fun z hz => by cases hz) (by decide) (by decide) (hts _ tw_700) (va_Nw.use rfl (hE.2.2.2.2.2.1 _ (List.mem_of_getElem? (i := 0) rfl))) hce hcv hcl ?_
    refine lv_astore (lv' := [(4, .ref q9), (0, .ref a0), (1, .int p1), (2, .int p2), (3, .ref o0)]) hx hb dL_distance_13 hl (by decide) rfl (fun ls hl => ?_)
    refine lv_iconst (v := 1) hx hb dL_distance_15 (by decide) ?_
    refine W.widen (k := 1) (n := 6) (Nat.le_of_ble_eq_true rfl) (Nat.le_of_ble_eq_true rfl) ?_
    refine vx_ret ?_
    have hP9 := hP.sub (ws' := [(o0, .inl (cy 1, 1, .inr (.inl ((fun _ => 0)))))]) [0] rfl
    have hD9 := hD.sub (ws' := [(o0, .inl (cy 1, 1, .inr (.inl ((fun _ => 0)))))]) [0] (by decide) rfl
    exact W.iret (v := 1) hx hb hr (fun t ht hW => ⟨⟨1, 1, rfl, rfl, ⟨(by first | exact pk_uLs | rfl | assumption), by rw [ht]; exact hP9, hD9⟩⟩, hS.F ht⟩) hS.2.2 dL_distance_16
  · exact hw.elim
set_option maxRecDepth 100000 in
set_option maxHeartbeats 4000000 in
/-- nextLink -/
theorem tm_L_nextLink (l : Launch) (hst : l.stackTraces = false) (dC : Nat → ClassId) (dI : Nat → Nat → Nat) (cy : Nat → ClassId) (a0 : Nat) (a1 : Nat) (a2 : Nat) (aT : Nat) (b1 : Nat) (b2 : Nat) (b3 : Nat) (b4 : Nat) (b5 : Nat) (b6 : Nat) (b7 : Nat) (o0 : Nat) (p1 : Int32) (p2 : Int32) (sz : Nat) : vx_Met l yL_nextLink (tp_wW yL_nextLink cL_nextLink 5 (some .int) [(0, 10, 13, 19)]) ({ frames := 8, cells := 1, slots := 6, locals := 125 }) (va_Pc [.ref a0, .int p1, .int p2, .ref o0] (tp_Pre dC dI cy [(a0, .inr (8, [.ref a1, .ref aT])), (a1, .inr (5, [.ref a2, .ref b1, .ref b2, .ref b3, .ref b4, .ref b5, .int 0, .int 1, .int 0, .int 0, .int 0, .int 0])), (a2, .inr (2, [.ref b6, .int 0, .ref b7, .int 0])), (o0, .inl (cy 1, 1, .inr (.inl ((fun _ => 0)))))] sz)) (va_Qi (fun (r u : Int32) => r = u) (fun (u : Int32) (t : State) => (u = 1) ∧ tp_Post dC dI (va_A [(a0, .inr (8, [.ref a1, .ref aT])), (a1, .inr (5, [.ref a2, .ref b1, .ref b2, .ref b3, .ref b4, .ref b5, .int 0, .int 1, .int 0, .int 0, .int 0, .int 0])), (a2, .inr (2, [.ref b6, .int 0, .ref b7, .int 0])), (o0, .inl (cy 1, 1, .inr (.inl ((fun _ => 0)))))] sz) [(o0, .inl (cy 1, 1, .inr (.inl ((fun _ => 0)))))] t) (va_A [(a0, .inr (8, [.ref a1, .ref aT])), (a1, .inr (5, [.ref a2, .ref b1, .ref b2, .ref b3, .ref b4, .ref b5, .int 0, .int 1, .int 0, .int 0, .int 0, .int 0])), (a2, .inr (2, [.ref b6, .int 0, .ref b7, .int 0])), (o0, .inl (cy 1, 1, .inr (.inl ((fun _ => 0)))))] sz)) (vx_X (fun _ : Unit => True) (fun (E : String) (_ : Unit) (t : State) => (False) ∧ tp_Post dC dI (va_A [(a0, .inr (8, [.ref a1, .ref aT])), (a1, .inr (5, [.ref a2, .ref b1, .ref b2, .ref b3, .ref b4, .ref b5, .int 0, .int 1, .int 0, .int 0, .int 0, .int 0])), (a2, .inr (2, [.ref b6, .int 0, .ref b7, .int 0])), (o0, .inl (cy 1, 1, .inr (.inl ((fun _ => 0)))))] sz) [] t) (va_A [(a0, .inr (8, [.ref a1, .ref aT])), (a1, .inr (5, [.ref a2, .ref b1, .ref b2, .ref b3, .ref b4, .ref b5, .int 0, .int 1, .int 0, .int 0, .int 0, .int 0])), (a2, .inr (2, [.ref b6, .int 0, .ref b7, .int 0])), (o0, .inl (cy 1, 1, .inr (.inl ((fun _ => 0)))))] sz)) 1 6 (va_A [(a0, .inr (8, [.ref a1, .ref aT])), (a1, .inr (5, [.ref a2, .ref b1, .ref b2, .ref b3, .ref b4, .ref b5, .int 0, .int 1, .int 0, .int 0, .int 0, .int 0])), (a2, .inr (2, [.ref b6, .int 0, .ref b7, .int 0])), (o0, .inl (cy 1, 1, .inr (.inl ((fun _ => 0)))))] sz) := by
  refine vx_ofWH (cc := cL_nextLink) (maxL := 5) (ret := (some .int)) (hh := [(0, 10, 13, 19)]) (by decide) rfl ?_
  intro p e s m args below meth c s₁ B hml hv
  obtain ⟨rfl, hsz, hP, hK, hD0, hE, hZ⟩ := hv
  have hx := B.exec
  have hb := B.bytes
  have hr := B.returns
  have hts0 := atoms_spec (ws := tp_wW yL_nextLink cL_nextLink 5 (some .int) [(0, 10, 13, 19)]) B.pre
  have hts : ∀ w ∈ tp_all, w.before _ s = true := fun w h => hts0 w (List.mem_cons_of_mem _ h)
  have htb : c.exceptionTable.toList = tableOf [(0, 10, 13, 19)] := vx_table (x := yL_nextLink) B (hts0 _ List.mem_cons_self)
  have hown : s.vm.findClass RL = some m.cls := findClass_of_methodNamed B.named
  have hlocks := B.notSynchronized
  subst hsz
  have hD := hD0.self (sz := s.heap.size)
  generalize hAe : va_A [(a0, .inr (8, [.ref a1, .ref aT])), (a1, .inr (5, [.ref a2, .ref b1, .ref b2, .ref b3, .ref b4, .ref b5, .int 0, .int 1, .int 0, .int 0, .int 0, .int 0])), (a2, .inr (2, [.ref b6, .int 0, .ref b7, .int 0])), (o0, .inl (cy 1, 1, .inr (.inl ((fun _ => 0)))))] s.heap.size = A at hD hZ ⊢
  have hA : ∀ q : Nat, s.heap.size ≤ q → A q := fun q h => by rw [← hAe]; exact Or.inr h
  have hS : va_S A s.heap s.heap [] := va_S.rf
  have hl9 := lv_entry ([.ref a0, .int p1, .int p2, .ref o0]) (n := 5) (Nat.le_of_ble_eq_true rfl)
  rw [lg_entry_eq]
  generalize (lg_sl ([.ref a0, .int p1, .int p2, .ref o0]) ++ List.replicate (5 - (lg_sl ([.ref a0, .int p1, .int p2, .ref o0])).length) Slot.unset).toArray = ls at hl9 ⊢
  have hl : lv_has ls 5 [(0, .ref a0), (1, .int p1), (2, .int p2), (3, .ref o0)] := hl9
  refine lv_aload_n hx hb dL_nextLink_0 rfl (lv_at hl 3 rfl) ?_
  refine lv_iconst (v := 0) hx hb dL_nextLink_1 (by decide) ?_
  refine lv_aload_n hx hb dL_nextLink_2 rfl (lv_at hl 0 rfl) ?_
  refine lv_iload_n hx hb dL_nextLink_3 rfl (lv_at hl 1 rfl) ?_
  refine lv_iload_n hx hb dL_nextLink_4 rfl (lv_at hl 2 rfl) ?_
  have hFc := va_free (wc := [(a0, .inr (8, [.ref a1, .ref aT])), (a1, .inr (5, [.ref a2, .ref b1, .ref b2, .ref b3, .ref b4, .ref b5, .int 0, .int 1, .int 0, .int 0, .int 0, .int 0])), (a2, .inr (2, [.ref b6, .int 0, .ref b7, .int 0]))]) hD hS hA [0, 1, 2] rfl
  refine vx_callv (vx_runV (As := [.int p1, .int p2]) (rest := [.int 0, .ref o0]) ⟨hx, hb, hml, hown, hts⟩ (tm_nextLink l hst dC dI cy a0 a1 a2 aT b1 b2 b3 b4 b5 b6 b7 p1 p2 s.heap.size) (tp_cwV 2 hts tw_1003 tw_548 tw_549 tw_38 tw_550 rfl rfl (by decide +kernel) ⟨Nat.le_of_ble_eq_true rfl, Nat.le_of_ble_eq_true rfl⟩) ⟨tp_blind, va_recv hK hP (ci := 8) (q0 := 0) rfl rfl, fun U hU hW => ⟨rfl, tp_pay hK hP hD hE hZ hS [0, 1, 2] (by decide) rfl hFc U hU hW⟩⟩ rfl rfl hl.1 rfl (lv_room (Nat.le_of_ble_eq_true rfl)) dL_nextLink_5 ⟨(Nat.le_of_ble_eq_true rfl), (Nat.le_of_ble_eq_true rfl)⟩) hS (fun q _ h => hFc q h) hFc (fun q _ h => hFc q h) (fun E9 ce q9 u t H1 locs ht hvm hw hB hz1 hk1 hS hce hcv hcl => ?_) (fun u t H1 locs ht hvm hw hB hz1 hk1 hS => ?_)
  · obtain ⟨rfl, hP1, hD1⟩ := hB
    rw [ht] at hP1
    obtain ⟨hP, hD⟩ := va_join (wr := [(o0, .inl (cy 1, 1, .inr (.inl ((fun _ => 0)))))]) (w1 := []) hP hD [0, 1, 2] [3] rfl rfl (by decide) (by decide) hk1 hFc hP1 hD1
    generalize H1 = H at hP hS hce ⊢
    have hP : va_P (dC, dI) vwCl [(o0, .inl (cy 1, 1, .inr (.inl ((fun _ => 0)))))] _ := hP
    have hD : va_D A [(o0, .inl (cy 1, 1, .inr (.inl ((fun _ => 0)))))] := hD
    refine vx_catch (own := RL) (name := "java/lang/IndexOutOfBoundsException") hown [] { startPc := 0, endPc := 10, handlerPc := 13, catchType := 19 } [] htb (fun z hz => by cases hz) (by decide) (by decide) (hts _ tw_700) (va_Nw.use rfl (hE.2.2.2.2.2.1 _ (List.mem_of_getElem? (i := 0) rfl))) hce hcv hcl ?_
    refine lv_astore (lv' := [(4, .ref q9), (0, .ref a0), (1, .int p1), (2, .int p2), (3, .ref o0)]) hx hb dL_nextLink_13 hl (by decide) rfl (fun ls hl => ?_)
    refine lv_iconst (v := 1) hx hb dL_nextLink_15 (by decide) ?_
    refine W.widen (k := 1) (n := 6) (Nat.le_of_ble_eq_true rfl) (Nat.le_of_ble_eq_true rfl) ?_
    refine vx_ret ?_
    have hP9 := hP.sub (ws' := [(o0, .inl (cy 1, 1, .inr (.inl ((fun _ => 0)))))]) [0] rfl
    have hD9 := hD.sub (ws' := [(o0, .inl (cy 1, 1, .inr (.inl ((fun _ => 0)))))]) [0] (by decide) rfl
    exact W.iret (v := 1) hx hb hr (fun t ht hW => ⟨⟨1, 1, rfl, rfl, ⟨(by first | exact pk_uLs | rfl | assumption), by rw [ht]; exact hP9, hD9⟩⟩, hS.F ht⟩) hS.2.2 dL_nextLink_16
  · exact hw.elim
set_option maxRecDepth 100000 in
set_option maxHeartbeats 4000000 in
/-- stateOf -/
theorem tm_L_stateOf (l : Launch) (hst : l.stackTraces = false) (dC : Nat → ClassId) (dI : Nat → Nat → Nat) (cy : Nat → ClassId) (a0 : Nat) (a1 : Nat) (a2 : Nat) (aT : Nat) (b1 : Nat) (b2 : Nat) (b3 : Nat) (b4 : Nat) (b5 : Nat) (b6 : Nat) (b7 : Nat) (o0 : Nat) (p1 : Int32) (sz : Nat) : vx_Met l yL_stateOf (tp_wW yL_stateOf cL_stateOf 4 (some .int) [(0, 9, 12, 19)]) ({ frames := 8, cells := 1, slots := 6, locals := 125 }) (va_Pc [.ref a0, .int p1, .ref o0] (tp_Pre dC dI cy [(a0, .inr (8, [.ref a1, .ref aT])), (a1, .inr (5, [.ref a2, .ref b1, .ref b2, .ref b3, .ref b4, .ref b5, .int 0, .int 1, .int 0, .int 0, .int 0, .int 0])), (a2, .inr (2, [.ref b6, .int 0, .ref b7, .int 0])), (o0, .inl (cy 1, 1, .inr (.inl ((fun _ => 0)))))] sz)) (va_Qi (fun (r u : Int32) => r = u) (fun (u : Int32) (t : State) => (u = 1) ∧ tp_Post dC dI (va_A [(a0, .inr (8, [.ref a1, .ref aT])), (a1, .inr (5, [.ref a2, .ref b1, .ref b2, .ref b3, .ref b4, .ref b5, .int 0, .int 1, .int 0, .int 0, .int 0, .int 0])), (a2, .inr (2, [.ref b6, .int 0, .ref b7, .int 0])), (o0, .inl (cy 1, 1, .inr (.inl ((fun _ => 0)))))] sz) [(o0, .inl (cy 1, 1, .inr (.inl ((fun _ => 0)))))] t) (va_A [(a0, .inr (8, [.ref a1, .ref aT])), (a1, .inr (5, [.ref a2, .ref b1, .ref b2, .ref b3, .ref b4, .ref b5, .int 0, .int 1, .int 0, .int 0, .int 0, .int 0])), (a2, .inr (2, [.ref b6, .int 0, .ref b7, .int 0])), (o0, .inl (cy 1, 1, .inr (.inl ((fun _ => 0)))))] sz)) (vx_X (fun _ : Unit => True) (fun (E : String) (_ : Unit) (t : State) => (False) ∧ tp_Post dC dI (va_A [(a0, .inr (8, [.ref a1, .ref aT])), (a1, .inr (5, [.ref a2, .ref b1, .ref b2, .ref b3, .ref b4, .ref b5, .int 0, .int 1, .int 0, .int 0, .int 0, .int 0])), (a2, .inr (2, [.ref b6, .int 0, .ref b7, .int 0])), (o0, .inl (cy 1, 1, .inr (.inl ((fun _ => 0)))))] sz) [] t) (va_A [(a0, .inr (8, [.ref a1, .ref aT])), (a1, .inr (5, [.ref a2, .ref b1, .ref b2, .ref b3, .ref b4, .ref b5, .int 0, .int 1, .int 0, .int 0, .int 0, .int 0])), (a2, .inr (2, [.ref b6, .int 0, .ref b7, .int 0])), (o0, .inl (cy 1, 1, .inr (.inl ((fun _ => 0)))))] sz)) 1 6 (va_A [(a0, .inr (8, [.ref a1, .ref aT])), (a1, .inr (5, [.ref a2, .ref b1, .ref b2, .ref b3, .ref b4, .ref b5, .int 0, .int 1, .int 0, .int 0, .int 0, .int 0])), (a2, .inr (2, [.ref b6, .int 0, .ref b7, .int 0])), (o0, .inl (cy 1, 1, .inr (.inl ((fun _ => 0)))))] sz) := by
  refine vx_ofWH (cc := cL_stateOf) (maxL := 4) (ret := (some .int)) (hh := [(0, 9, 12, 19)]) (by decide) rfl ?_
  intro p e s m args below meth c s₁ B hml hv
  obtain ⟨rfl, hsz, hP, hK, hD0, hE, hZ⟩ := hv
  have hx := B.exec
  have hb := B.bytes
  have hr := B.returns
  have hts0 := atoms_spec (ws := tp_wW yL_stateOf cL_stateOf 4 (some .int) [(0, 9, 12, 19)]) B.pre
  have hts : ∀ w ∈ tp_all, w.before _ s = true := fun w h => hts0 w (List.mem_cons_of_mem _ h)
  have htb : c.exceptionTable.toList = tableOf [(0, 9, 12, 19)] := vx_table (x := yL_stateOf) B (hts0 _ List.mem_cons_self)
  have hown : s.vm.findClass RL = some m.cls := findClass_of_methodNamed B.named
  have hlocks := B.notSynchronized
  subst hsz
  have hD := hD0.self (sz := s.heap.size)
  generalize hAe : va_A [(a0, .inr (8, [.ref a1, .ref aT])), (a1, .inr (5, [.ref a2, .ref b1, .ref b2, .ref b3, .ref b4, .ref b5, .int 0, .int 1, .int 0, .int 0, .int 0, .int 0])), (a2, .inr (2, [.ref b6, .int 0, .ref b7, .int 0])), (o0, .inl (cy 1, 1, .inr (.inl ((fun _ => 0)))))] s.heap.size = A at hD hZ ⊢
  have hA : ∀ q : Nat, s.heap.size ≤ q → A q := fun q h => by rw [← hAe]; exact Or.inr h
  have hS : va_S A s.heap s.heap [] := va_S.rf
  have hl9 := lv_entry ([.ref a0, .int p1, .ref o0]) (n := 4) (Nat.le_of_ble_eq_true rfl)
  rw [lg_entry_eq]
  generalize (lg_sl ([.ref a0, .int p1, .ref o0]) ++ List.replicate (4 - (lg_sl ([.ref a0, .int p1, .ref o0])).length) Slot.unset).toArray = ls at hl9 ⊢
  have hl : lv_has ls 4 [(0, .ref a0), (1, .int p1), (2, .ref o0)] := hl9
  refine lv_aload_n hx hb dL_stateOf_0 rfl (lv_at hl 2 rfl) ?_
  refine lv_iconst (v := 0) hx hb dL_stateOf_1 (by decide) ?_
  refine lv_aload_n hx hb dL_stateOf_2 rfl (lv_at hl 0 rfl) ?_
  refine lv_iload_n hx hb dL_stateOf_3 rfl (lv_at hl 1 rfl) ?_
  have hFc := va_free (wc := [(a0, .inr (8, [.ref a1, .ref aT])), (a1, .inr (5, [.ref a2, .ref b1, .ref b2, .ref b3, .ref b4, .ref b5, .int 0, .int 1, .int 0, .int 0, .int 0, .int 0])), (a2, .inr (2, [.ref b6, .int 0, .ref b7, .int 0]))]) hD hS hA [0, 1, 2] rfl
  refine vx_callv (vx_runV (As := [.int p1]) (rest := [.int 0, .ref o0]) ⟨hx, hb, hml, hown, hts⟩ (tm_stateOf l hst dC dI cy a0 a1 a2 aT b1 b2 b3 b4 b5 b6 b7 p1 s.heap.size) (tp_cwV 1 hts tw_1007 tw_641 tw_642 tw_38 tw_643 rfl rfl (by decide +kernel) ⟨Nat.le_of_ble_eq_true rfl, Nat.le_of_ble_eq_true rfl⟩) ⟨tp_blind, va_recv hK hP (ci := 8) (q0 := 0) rfl rfl, fun U hU hW => ⟨rfl, tp_pay hK hP hD hE hZ hS [0, 1, 2] (by decide) rfl hFc U hU hW⟩⟩ rfl rfl hl.1 rfl (lv_room (Nat.le_of_ble_eq_true rfl)) dL_stateOf_4 ⟨(Nat.le_of_ble_eq_true rfl), (Nat.le_of_ble_eq_true rfl)⟩) hS (fun q _ h => hFc q h) hFc (fun q _ h => hFc q h) (fun E9 ce q9 u t H1 locs ht hvm hw hB hz1 hk1 hS hce hcv hcl => ?_) (fun u t H1 locs ht hvm hw hB hz1 hk1 hS => ?_)
  · obtain ⟨rfl, hP1, hD1⟩ := hB
    rw [ht] at hP1
    obtain ⟨hP, hD⟩ := va_join (wr := [(o0, .inl (cy 1, 1, .inr (.inl ((fun _ => 0)))))]) (w1 := []) hP hD [0, 1, 2] [3] rfl rfl (by decide) (by decide) hk1 hFc hP1 hD1
    generalize H1 = H at hP hS hce ⊢
    have hP : va_P (dC, dI) vwCl [(o0, .inl (cy 1, 1, .inr (.inl ((fun _ => 0)))))] _ := hP
    have hD : va_D A [(o0, .inl (cy 1, 1, .inr (.inl ((fun _ => 0)))))] := hD
    refine vx_catch (own := RL) (name := "java/lang/IndexOutOfBoundsException") hown [] { startPc := 0, endPc := 9, handlerPc := 12, catchType := 19 } [] htb (fun z hz => by cases hz) (by decide) (by decide) (hts _ tw_700) (va_Nw.use rfl (hE.2.2.2.2.2.1 _ (List.mem_of_getElem? (i := 0) rfl))) hce hcv hcl ?_
    refine lv_astore_n (lv' := [(3, .ref q9), (0, .ref a0), (1, .int p1), (2, .ref o0)]) hx hb dL_stateOf_12 rfl hl (by decide) rfl (fun ls hl => ?_)
    refine lv_iconst (v := 1) hx hb dL_stateOf_13 (by decide) ?_
    refine W.widen (k := 1) (n := 6) (Nat.le_of_ble_eq_true rfl) (Nat.le_of_ble_eq_true rfl) ?_
    refine vx_ret ?_
    have hP9 := hP.sub (ws' := [(o0, .inl (cy 1, 1, .inr (.inl ((fun _ => 0)))))]) [0] rfl
    have hD9 := hD.sub (ws' := [(o0, .inl (cy 1, 1, .inr (.inl ((fun _ => 0)))))]) [0] (by decide) rfl
    exact W.iret (v := 1) hx hb hr (fun t ht hW => ⟨⟨1, 1, rfl, rfl, ⟨(by first | exact pk_uLs | rfl | assumption), by rw [ht]; exact hP9, hD9⟩⟩, hS.F ht⟩) hS.2.2 dL_stateOf_14
  · exact hw.elim
set_option maxRecDepth 100000 in
set_option maxHeartbeats 4000000 in
/-- linkOf -/
theorem tm_L_linkOf (l : Launch) (hst : l.stackTraces = false) (dC : Nat → ClassId) (dI : Nat → Nat → Nat) (cy : Nat → ClassId) (a0 : Nat) (a1 : Nat) (a2 : Nat) (aT : Nat) (b1 : Nat) (b2 : Nat) (b3 : Nat) (b4 : Nat) (b5 : Nat) (b6 : Nat) (b7 : Nat) (o0 : Nat) (p1 : Int32) (sz : Nat) : vx_Met l yL_linkOf (tp_wW yL_linkOf cL_linkOf 4 (some .int) [(0, 9, 12, 19)]) ({ frames := 8, cells := 1, slots := 6, locals := 125 }) (va_Pc [.ref a0, .int p1, .ref o0] (tp_Pre dC dI cy [(a0, .inr (8, [.ref a1, .ref aT])), (a1, .inr (5, [.ref a2, .ref b1, .ref b2, .ref b3, .ref b4, .ref b5, .int 0, .int 1, .int 0, .int 0, .int 0, .int 0])), (a2, .inr (2, [.ref b6, .int 0, .ref b7, .int 0])), (o0, .inl (cy 1, 1, .inr (.inl ((fun _ => 0)))))] sz)) (va_Qi (fun (r u : Int32) => r = u) (fun (u : Int32) (t : State) => (u = 1) ∧ tp_Post dC dI (va_A [(a0, .inr (8, [.ref a1, .ref aT])), (a1, .inr (5, [.ref a2, .ref b1, .ref b2, .ref b3, .ref b4, .ref b5, .int 0, .int 1, .int 0, .int 0, .int 0, .int 0])), (a2, .inr (2, [.ref b6, .int 0, .ref b7, .int 0])), (o0, .inl (cy 1, 1, .inr (.inl ((fun _ => 0)))))] sz) [(o0, .inl (cy 1, 1, .inr (.inl ((fun _ => 0)))))] t) (va_A [(a0, .inr (8, [.ref a1, .ref aT])), (a1, .inr (5, [.ref a2, .ref b1, .ref b2, .ref b3, .ref b4, .ref b5, .int 0, .int 1, .int 0, .int 0, .int 0, .int 0])), (a2, .inr (2, [.ref b6, .int 0, .ref b7, .int 0])), (o0, .inl (cy 1, 1, .inr (.inl ((fun _ => 0)))))] sz)) (vx_X (fun _ : Unit => True) (fun (E : String) (_ : Unit) (t : State) => (False) ∧ tp_Post dC dI (va_A [(a0, .inr (8, [.ref a1, .ref aT])), (a1, .inr (5, [.ref a2, .ref b1, .ref b2, .ref b3, .ref b4, .ref b5, .int 0, .int 1, .int 0, .int 0, .int 0, .int 0])), (a2, .inr (2, [.ref b6, .int 0, .ref b7, .int 0])), (o0, .inl (cy 1, 1, .inr (.inl ((fun _ => 0)))))] sz) [] t) (va_A [(a0, .inr (8, [.ref a1, .ref aT])), (a1, .inr (5, [.ref a2, .ref b1, .ref b2, .ref b3, .ref b4, .ref b5, .int 0, .int 1, .int 0, .int 0, .int 0, .int 0])), (a2, .inr (2, [.ref b6, .int 0, .ref b7, .int 0])), (o0, .inl (cy 1, 1, .inr (.inl ((fun _ => 0)))))] sz)) 1 6 (va_A [(a0, .inr (8, [.ref a1, .ref aT])), (a1, .inr (5, [.ref a2, .ref b1, .ref b2, .ref b3, .ref b4, .ref b5, .int 0, .int 1, .int 0, .int 0, .int 0, .int 0])), (a2, .inr (2, [.ref b6, .int 0, .ref b7, .int 0])), (o0, .inl (cy 1, 1, .inr (.inl ((fun _ => 0)))))] sz) := by
  refine vx_ofWH (cc := cL_linkOf) (maxL := 4) (ret := (some .int)) (hh := [(0, 9, 12, 19)]) (by decide) rfl ?_
  intro p e s m args below meth c s₁ B hml hv
  obtain ⟨rfl, hsz, hP, hK, hD0, hE, hZ⟩ := hv
  have hx := B.exec
  have hb := B.bytes
  have hr := B.returns
  have hts0 := atoms_spec (ws := tp_wW yL_linkOf cL_linkOf 4 (some .int) [(0, 9, 12, 19)]) B.pre
  have hts : ∀ w ∈ tp_all, w.before _ s = true := fun w h => hts0 w (List.mem_cons_of_mem _ h)
  have htb : c.exceptionTable.toList = tableOf [(0, 9, 12, 19)] := vx_table (x := yL_linkOf) B (hts0 _ List.mem_cons_self)
  have hown : s.vm.findClass RL = some m.cls := findClass_of_methodNamed B.named
  have hlocks := B.notSynchronized
  subst hsz
  have hD := hD0.self (sz := s.heap.size)
  generalize hAe : va_A [(a0, .inr (8, [.ref a1, .ref aT])), (a1, .inr (5, [.ref a2, .ref b1, .ref b2, .ref b3, .ref b4, .ref b5, .int 0, .int 1, .int 0, .int 0, .int 0, .int 0])), (a2, .inr (2, [.ref b6, .int 0, .ref b7, .int 0])), (o0, .inl (cy 1, 1, .inr (.inl ((fun _ => 0)))))] s.heap.size = A at hD hZ ⊢
  have hA : ∀ q : Nat, s.heap.size ≤ q → A q := fun q h => by rw [← hAe]; exact Or.inr h
  have hS : va_S A s.heap s.heap [] := va_S.rf
  have hl9 := lv_entry ([.ref a0, .int p1, .ref o0]) (n := 4) (Nat.le_of_ble_eq_true rfl)
  rw [lg_entry_eq]
  generalize (lg_sl ([.ref a0, .int p1, .ref o0]) ++ List.replicate (4 - (lg_sl ([.ref a0, .int p1, .ref o0])).length) Slot.unset).toArray = ls at hl9 ⊢
  have hl : lv_has ls 4 [(0, .ref a0), (1, .int p1), (2, .ref o0)] := hl9
  refine lv_aload_n hx hb dL_linkOf_0 rfl (lv_at hl 2 rfl) ?_
  refine lv_iconst (v := 0) hx hb dL_linkOf_1 (by decide) ?_
  refine lv_aload_n hx hb dL_linkOf_2 rfl (lv_at hl 0 rfl) ?_
  refine lv_iload_n hx hb dL_linkOf_3 rfl (lv_at hl 1 rfl) ?_
  have hFc := va_free (wc := [(a0, .inr (8, [.ref a1, .ref aT])), (a1, .inr (5, [.ref a2, .ref b1, .ref b2, .ref b3, .ref b4, .ref b5, .int 0, .int 1, .int 0, .int 0, .int 0, .int 0])), (a2, .inr (2, [.ref b6, .int 0, .ref b7, .int 0]))]) hD hS hA [0, 1, 2] rfl
  refine vx_callv (vx_runV (As := [.int p1]) (rest := [.int 0, .ref o0]) ⟨hx, hb, hml, hown, hts⟩ (tm_linkOf l hst dC dI cy a0 a1 a2 aT b1 b2 b3 b4 b5 b6 b7 p1 s.heap.size) (tp_cwV 1 hts tw_1011 tw_654 tw_655 tw_38 tw_656 rfl rfl (by decide +kernel) ⟨Nat.le_of_ble_eq_true rfl, Nat.le_of_ble_eq_true rfl⟩) ⟨tp_blind, va_recv hK hP (ci := 8) (q0 := 0) rfl rfl, fun U hU hW => ⟨rfl, tp_pay hK hP hD hE hZ hS [0, 1, 2] (by decide) rfl hFc U hU hW⟩⟩ rfl rfl hl.1 rfl (lv_room (Nat.le_of_ble_eq_true rfl)) dL_linkOf_4 ⟨(Nat.le_of_ble_eq_true rfl), (Nat.le_of_ble_eq_true rfl)⟩) hS (fun q _ h => hFc q h) hFc (fun q _ h => hFc q h) (fun E9 ce q9 u t H1 locs ht hvm hw hB hz1 hk1 hS hce hcv hcl => ?_) (fun u t H1 locs ht hvm hw hB hz1 hk1 hS => ?_)
  · obtain ⟨rfl, hP1, hD1⟩ := hB
    rw [ht] at hP1
    obtain ⟨hP, hD⟩ := va_join (wr := [(o0, .inl (cy 1, 1, .inr (.inl ((fun _ => 0)))))]) (w1 := []) hP hD [0, 1, 2] [3] rfl rfl (by decide) (by decide) hk1 hFc hP1 hD1
    generalize H1 = H at hP hS hce ⊢
    have hP : va_P (dC, dI) vwCl [(o0, .inl (cy 1, 1, .inr (.inl ((fun _ => 0)))))] _ := hP
    have hD : va_D A [(o0, .inl (cy 1, 1, .inr (.inl ((fun _ => 0)))))] := hD
    refine vx_catch (own := RL) (name := "java/lang/IndexOutOfBoundsException") hown [] { startPc := 0, endPc := 9, handlerPc := 12, catchType := 19 } [] htb (fun z hz => by cases hz) (by decide) (by decide) (hts _ tw_700) (va_Nw.use rfl (hE.2.2.2.2.2.1 _ (List.mem_of_getElem? (i := 0) rfl))) hce hcv hcl ?_
    refine lv_astore_n (lv' := [(3, .ref q9), (0, .ref a0), (1, .int p1), (2, .ref o0)]) hx hb dL_linkOf_12 rfl hl (by decide) rfl (fun ls hl => ?_)
    refine lv_iconst (v := 1) hx hb dL_linkOf_13 (by decide) ?_
    refine W.widen (k := 1) (n := 6) (Nat.le_of_ble_eq_true rfl) (Nat.le_of_ble_eq_true rfl) ?_
    refine vx_ret ?_
    have hP9 := hP.sub (ws' := [(o0, .inl (cy 1, 1, .inr (.inl ((fun _ => 0)))))]) [0] rfl
    have hD9 := hD.sub (ws' := [(o0, .inl (cy 1, 1, .inr (.inl ((fun _ => 0)))))]) [0] (by decide) rfl
    exact W.iret (v := 1) hx hb hr (fun t ht hW => ⟨⟨1, 1, rfl, rfl, ⟨(by first | exact pk_uLs | rfl | assumption), by rw [ht]; exact hP9, hD9⟩⟩, hS.F ht⟩) hS.2.2 dL_linkOf_14
  · exact hw.elim
set_option maxRecDepth 100000 in
set_option maxHeartbeats 4000000 in
/-- endOf -/
theorem tm_L_endOf (l : Launch) (hst : l.stackTraces = false) (dC : Nat → ClassId) (dI : Nat → Nat → Nat) (cy : Nat → ClassId) (a0 : Nat) (a1 : Nat) (a2 : Nat) (aT : Nat) (b1 : Nat) (b2 : Nat) (b3 : Nat) (b4 : Nat) (b5 : Nat) (b6 : Nat) (b7 : Nat) (o0 : Nat) (p1 : Int32) (sz : Nat) : vx_Met l yL_endOf (tp_wW yL_endOf cL_endOf 4 (some .int) [(0, 9, 12, 19)]) ({ frames := 8, cells := 1, slots := 6, locals := 125 }) (va_Pc [.ref a0, .int p1, .ref o0] (tp_Pre dC dI cy [(a0, .inr (8, [.ref a1, .ref aT])), (a1, .inr (5, [.ref a2, .ref b1, .ref b2, .ref b3, .ref b4, .ref b5, .int 0, .int 1, .int 0, .int 0, .int 0, .int 0])), (a2, .inr (2, [.ref b6, .int 0, .ref b7, .int 0])), (o0, .inl (cy 1, 1, .inr (.inl ((fun _ => 0)))))] sz)) (va_Qi (fun (r u : Int32) => r = u) (fun (u : Int32) (t : State) => (u = 1) ∧ tp_Post dC dI (va_A [(a0, .inr (8, [.ref a1, .ref aT])), (a1, .inr (5, [.ref a2, .ref b1, .ref b2, .ref b3, .ref b4, .ref b5, .int 0, .int 1, .int 0, .int 0, .int 0, .int 0])), (a2, .inr (2, [.ref b6, .int 0, .ref b7, .int 0])), (o0, .inl (cy 1, 1, .inr (.inl ((fun _ => 0)))))] sz) [(o0, .inl (cy 1, 1, .inr (.inl ((fun _ => 0)))))] t) (va_A [(a0, .inr (8, [.ref a1, .ref aT])), (a1, .inr (5, [.ref a2, .ref b1, .ref b2, .ref b3, .ref b4, .ref b5, .int 0, .int 1, .int 0, .int 0, .int 0, .int 0])), (a2, .inr (2, [.ref b6, .int 0, .ref b7, .int 0])), (o0, .inl (cy 1, 1, .inr (.inl ((fun _ => 0)))))] sz)) (vx_X (fun _ : Unit => True) (fun (E : String) (_ : Unit) (t : State) => (False) ∧ tp_Post dC dI (va_A [(a0, .inr (8, [.ref a1, .ref aT])), (a1, .inr (5, [.ref a2, .ref b1, .ref b2, .ref b3, .ref b4, .ref b5, .int 0, .int 1, .int 0, .int 0, .int 0, .int 0])), (a2, .inr (2, [.ref b6, .int 0, .ref b7, .int 0])), (o0, .inl (cy 1, 1, .inr (.inl ((fun _ => 0)))))] sz) [] t) (va_A [(a0, .inr (8, [.ref a1, .ref aT])), (a1, .inr (5, [.ref a2, .ref b1, .ref b2, .ref b3, .ref b4, .ref b5, .int 0, .int 1, .int 0, .int 0, .int 0, .int 0])), (a2, .inr (2, [.ref b6, .int 0, .ref b7, .int 0])), (o0, .inl (cy 1, 1, .inr (.inl ((fun _ => 0)))))] sz)) 1 6 (va_A [(a0, .inr (8, [.ref a1, .ref aT])), (a1, .inr (5, [.ref a2, .ref b1, .ref b2, .ref b3, .ref b4, .ref b5, .int 0, .int 1, .int 0, .int 0, .int 0, .int 0])), (a2, .inr (2, [.ref b6, .int 0, .ref b7, .int 0])), (o0, .inl (cy 1, 1, .inr (.inl ((fun _ => 0)))))] sz) := by
  refine vx_ofWH (cc := cL_endOf) (maxL := 4) (ret := (some .int)) (hh := [(0, 9, 12, 19)]) (by decide) rfl ?_
  intro p e s m args below meth c s₁ B hml hv
  obtain ⟨rfl, hsz, hP, hK, hD0, hE, hZ⟩ := hv
  have hx := B.exec
  have hb := B.bytes
  have hr := B.returns
  have hts0 := atoms_spec (ws := tp_wW yL_endOf cL_endOf 4 (some .int) [(0, 9, 12, 19)]) B.pre
  have hts : ∀ w ∈ tp_all, w.before _ s = true := fun w h => hts0 w (List.mem_cons_of_mem _ h)
  have htb : c.exceptionTable.toList = tableOf [(0, 9, 12, 19)] := vx_table (x := yL_endOf) B (hts0 _ List.mem_cons_self)
  have hown : s.vm.findClass RL = some m.cls := findClass_of_methodNamed B.named
  have hlocks := B.notSynchronized
  subst hsz
  have hD := hD0.self (sz := s.heap.size)
  generalize hAe : va_A [(a0, .inr (8, [.ref a1, .ref aT])), (a1, .inr (5, [.ref a2, .ref b1, .ref b2, .ref b3, .ref b4, .ref b5, .int 0, .int 1, .int 0, .int 0, .int 0, .int 0])), (a2, .inr (2, [.ref b6, .int 0, .ref b7, .int 0])), (o0, .inl (cy 1, 1, .inr (.inl ((fun _ => 0)))))] s.heap.size = A at hD hZ ⊢
  have hA : ∀ q : Nat, s.heap.size ≤ q → A q := fun q h => by rw [← hAe]; exact Or.inr h
  have hS : va_S A s.heap s.heap [] := va_S.rf
  have hl9 := lv_entry ([.ref a0, .int p1, .ref o0]) (n := 4) (Nat.le_of_ble_eq_true rfl)
  rw [lg_entry_eq]
  generalize (lg_sl ([.ref a0, .int p1, .ref o0]) ++ List.replicate (4 - (lg_sl ([.ref a0, .int p1, .ref o0])).length) Slot.unset).toArray = ls at hl9 ⊢
  have hl : lv_has ls 4 [(0, .ref a0), (1, .int p1), (2, .ref o0)] := hl9
  refine lv_aload_n hx hb dL_endOf_0 rfl (lv_at hl 2 rfl) ?_
  refine lv_iconst (v := 0) hx hb dL_endOf_1 (by decide) ?_
  refine lv_aload_n hx hb dL_endOf_2 rfl (lv_at hl 0 rfl) ?_
  refine lv_iload_n hx hb dL_endOf_3 rfl (lv_at hl 1 rfl) ?_
  have hFc := va_free (wc := [(a0, .inr (8, [.ref a1, .ref aT])), (a1, .inr (5, [.ref a2, .ref b1, .ref b2, .ref b3, .ref b4, .ref b5, .int 0, .int 1, .int 0, .int 0, .int 0, .int 0])), (a2, .inr (2, [.ref b6, .int 0, .ref b7, .int 0]))]) hD hS hA [0, 1, 2] rfl
  refine vx_callv (vx_runV (As := [.int p1]) (rest := [.int 0, .ref o0]) ⟨hx, hb, hml, hown, hts⟩ (tm_endOf l hst dC dI cy a0 a1 a2 aT b1 b2 b3 b4 b5 b6 b7 p1 s.heap.size) (tp_cwV 1 hts tw_1015 tw_658 tw_659 tw_38 tw_660 rfl rfl (by decide +kernel) ⟨Nat.le_of_ble_eq_true rfl, Nat.le_of_ble_eq_true rfl⟩) ⟨tp_blind, va_recv hK hP (ci := 8) (q0 := 0) rfl rfl, fun U hU hW => ⟨rfl, tp_pay hK hP hD hE hZ hS [0, 1, 2] (by decide) rfl hFc U hU hW⟩⟩ rfl rfl hl.1 rfl (lv_room (Nat.le_of_ble_eq_true rfl)) dL_endOf_4 ⟨(Nat.le_of_ble_eq_true rfl), (Nat.le_of_ble_eq_true rfl)⟩) hS (fun q _ h => hFc q h) hFc (fun q _ h => hFc q h) (fun E9 ce q9 u t H1 locs ht hvm hw hB hz1 hk1 hS hce hcv hcl => ?_) (fun u t H1 locs ht hvm hw hB hz1 hk1 hS => ?_)
  · obtain ⟨rfl, hP1, hD1⟩ := hB
    rw [ht] at hP1
    obtain ⟨hP, hD⟩ := va_join (wr := [(o0, .inl (cy 1, 1, .inr (.inl ((fun _ => 0)))))]) (w1 := []) hP hD [0, 1, 2] [3] rfl rfl (by decide) (by decide) hk1 hFc hP1 hD1
    generalize H1 = H at hP hS hce ⊢
    have hP : va_P (dC, dI) vwCl [(o0, .inl (cy 1, 1, .inr (.inl ((fun _ => 0)))))] _ := hP
    have hD : va_D A [(o0, .inl (cy 1, 1, .inr (.inl ((fun _ => 0)))))] := hD
    refine vx_catch (own := RL) (name := "java/lang/IndexOutOfBoundsException") hown [] { startPc := 0, endPc := 9, handlerPc := 12, catchType := 19 } [] htb (fun z hz => by cases hz) (by decide) (by decide) (hts _ tw_700) (va_Nw.use rfl (hE.2.2.2.2.2.1 _ (List.mem_of_getElem? (i := 0) rfl))) hce hcv hcl ?_
    refine lv_astore_n (lv' := [(3, .ref q9), (0, .ref a0), (1, .int p1), (2, .ref o0)]) hx hb dL_endOf_12 rfl hl (by decide) rfl (fun ls hl => ?_)
    refine lv_iconst (v := 1) hx hb dL_endOf_13 (by decide) ?_
    refine W.widen (k := 1) (n := 6) (Nat.le_of_ble_eq_true rfl) (Nat.le_of_ble_eq_true rfl) ?_
    refine vx_ret ?_
    have hP9 := hP.sub (ws' := [(o0, .inl (cy 1, 1, .inr (.inl ((fun _ => 0)))))]) [0] rfl
    have hD9 := hD.sub (ws' := [(o0, .inl (cy 1, 1, .inr (.inl ((fun _ => 0)))))]) [0] (by decide) rfl
    exact W.iret (v := 1) hx hb hr (fun t ht hW => ⟨⟨1, 1, rfl, rfl, ⟨(by first | exact pk_uLs | rfl | assumption), by rw [ht]; exact hP9, hD9⟩⟩, hS.F ht⟩) hS.2.2 dL_endOf_14
  · exact hw.elim
set_option maxRecDepth 100000 in
set_option maxHeartbeats 4000000 in
/-- linksOf -/
theorem tm_L_linksOf (l : Launch) (hst : l.stackTraces = false) (dC : Nat → ClassId) (dI : Nat → Nat → Nat) (cy : Nat → ClassId) (a0 : Nat) (a1 : Nat) (a2 : Nat) (aT : Nat) (b1 : Nat) (b2 : Nat) (b3 : Nat) (b4 : Nat) (b5 : Nat) (b6 : Nat) (b7 : Nat) (o0 : Nat) (p1 : Int32) (sz : Nat) : vx_Met l yL_linksOf (tp_wW yL_linksOf cL_linksOf 4 (some .int) [(0, 9, 12, 19)]) ({ frames := 8, cells := 1, slots := 6, locals := 125 }) (va_Pc [.ref a0, .int p1, .ref o0] (tp_Pre dC dI cy [(a0, .inr (8, [.ref a1, .ref aT])), (a1, .inr (5, [.ref a2, .ref b1, .ref b2, .ref b3, .ref b4, .ref b5, .int 0, .int 1, .int 0, .int 0, .int 0, .int 0])), (a2, .inr (2, [.ref b6, .int 0, .ref b7, .int 0])), (o0, .inl (cy 1, 1, .inr (.inl ((fun _ => 0)))))] sz)) (va_Qi (fun (r u : Int32) => r = u) (fun (u : Int32) (t : State) => (u = 1) ∧ tp_Post dC dI (va_A [(a0, .inr (8, [.ref a1, .ref aT])), (a1, .inr (5, [.ref a2, .ref b1, .ref b2, .ref b3, .ref b4, .ref b5, .int 0, .int 1, .int 0, .int 0, .int 0, .int 0])), (a2, .inr (2, [.ref b6, .int 0, .ref b7, .int 0])), (o0, .inl (cy 1, 1, .inr (.inl ((fun _ => 0)))))] sz) [(o0, .inl (cy 1, 1, .inr (.inl ((fun _ => 0)))))] t) (va_A [(a0, .inr (8, [.ref a1, .ref aT])), (a1, .inr (5, [.ref a2, .ref b1, .ref b2, .ref b3, .ref b4, .ref b5, .int 0, .int 1, .int 0, .int 0, .int 0, .int 0])), (a2, .inr (2, [.ref b6, .int 0, .ref b7, .int 0])), (o0, .inl (cy 1, 1, .inr (.inl ((fun _ => 0)))))] sz)) (vx_X (fun _ : Unit => True) (fun (E : String) (_ : Unit) (t : State) => (False) ∧ tp_Post dC dI (va_A [(a0, .inr (8, [.ref a1, .ref aT])), (a1, .inr (5, [.ref a2, .ref b1, .ref b2, .ref b3, .ref b4, .ref b5, .int 0, .int 1, .int 0, .int 0, .int 0, .int 0])), (a2, .inr (2, [.ref b6, .int 0, .ref b7, .int 0])), (o0, .inl (cy 1, 1, .inr (.inl ((fun _ => 0)))))] sz) [] t) (va_A [(a0, .inr (8, [.ref a1, .ref aT])), (a1, .inr (5, [.ref a2, .ref b1, .ref b2, .ref b3, .ref b4, .ref b5, .int 0, .int 1, .int 0, .int 0, .int 0, .int 0])), (a2, .inr (2, [.ref b6, .int 0, .ref b7, .int 0])), (o0, .inl (cy 1, 1, .inr (.inl ((fun _ => 0)))))] sz)) 1 6 (va_A [(a0, .inr (8, [.ref a1, .ref aT])), (a1, .inr (5, [.ref a2, .ref b1, .ref b2, .ref b3, .ref b4, .ref b5, .int 0, .int 1, .int 0, .int 0, .int 0, .int 0])), (a2, .inr (2, [.ref b6, .int 0, .ref b7, .int 0])), (o0, .inl (cy 1, 1, .inr (.inl ((fun _ => 0)))))] sz) := by
  refine vx_ofWH (cc := cL_linksOf) (maxL := 4) (ret := (some .int)) (hh := [(0, 9, 12, 19)]) (by decide) rfl ?_
  intro p e s m args below meth c s₁ B hml hv
  obtain ⟨rfl, hsz, hP, hK, hD0, hE, hZ⟩ := hv
  have hx := B.exec
  have hb := B.bytes
  have hr := B.returns
  have hts0 := atoms_spec (ws := tp_wW yL_linksOf cL_linksOf 4 (some .int) [(0, 9, 12, 19)]) B.pre
  have hts : ∀ w ∈ tp_all, w.before _ s = true := fun w h => hts0 w (List.mem_cons_of_mem _ h)
  have htb : c.exceptionTable.toList = tableOf [(0, 9, 12, 19)] := vx_table (x := yL_linksOf) B (hts0 _ List.mem_cons_self)
  have hown : s.vm.findClass RL = some m.cls := findClass_of_methodNamed B.named
  have hlocks := B.notSynchronized
  subst hsz
  have hD := hD0.self (sz := s.heap.size)
  generalize hAe : va_A [(a0, .inr (8, [.ref a1, .ref aT])), (a1, .inr (5, [.ref a2, .ref b1, .ref b2, .ref b3, .ref b4, .ref b5, .int 0, .int 1, .int 0, .int 0, .int 0, .int 0])), (a2, .inr (2, [.ref b6, .int 0, .ref b7, .int 0])), (o0, .inl (cy 1, 1, .inr (.inl ((fun _ => 0)))))] s.heap.size = A at hD hZ ⊢
  have hA : ∀ q : Nat, s.heap.size ≤ q → A q := fun q h => by rw [← hAe]; exact Or.inr h
  have hS : va_S A s.heap s.heap [] := va_S.rf
  have hl9 := lv_entry ([.ref a0, .int p1, .ref o0]) (n := 4) (Nat.le_of_ble_eq_true rfl)
  rw [lg_entry_eq]
  generalize (lg_sl ([.ref a0, .int p1, .ref o0]) ++ List.replicate (4 - (lg_sl ([.ref a0, .int p1, .ref o0])).length) Slot.unset).toArray = ls at hl9 ⊢
  have hl : lv_has ls 4 [(0, .ref a0), (1, .int p1), (2, .ref o0)] := hl9
  refine lv_aload_n hx hb dL_linksOf_0 rfl (lv_at hl 2 rfl) ?_
  refine lv_iconst (v := 0) hx hb dL_linksOf_1 (by decide) ?_
  refine lv_aload_n hx hb dL_linksOf_2 rfl (lv_at hl 0 rfl) ?_
  refine lv_iload_n hx hb dL_linksOf_3 rfl (lv_at hl 1 rfl) ?_
  have hFc := va_free (wc := [(a0, .inr (8, [.ref a1, .ref aT])), (a1, .inr (5, [.ref a2, .ref b1, .ref b2, .ref b3, .ref b4, .ref b5, .int 0, .int 1, .int 0, .int 0, .int 0, .int 0])), (a2, .inr (2, [.ref b6, .int 0, .ref b7, .int 0]))]) hD hS hA [0, 1, 2] rfl
  refine vx_callv (vx_runV (As := [.int p1]) (rest := [.int 0, .ref o0]) ⟨hx, hb, hml, hown, hts⟩ (tm_linksOf l hst dC dI cy a0 a1 a2 aT b1 b2 b3 b4 b5 b6 b7 p1 s.heap.size) (tp_cwV 1 hts tw_1019 tw_662 tw_663 tw_38 tw_664 rfl rfl (by decide +kernel) ⟨Nat.le_of_ble_eq_true rfl, Nat.le_of_ble_eq_true rfl⟩) ⟨tp_blind, va_recv hK hP (ci := 8) (q0 := 0) rfl rfl, fun U hU hW => ⟨rfl, tp_pay hK hP hD hE hZ hS [0, 1, 2] (by decide) rfl hFc U hU hW⟩⟩ rfl rfl hl.1 rfl (lv_room (Nat.le_of_ble_eq_true rfl)) dL_linksOf_4 ⟨(Nat.le_of_ble_eq_true rfl), (Nat.le_of_ble_eq_true rfl)⟩) hS (fun q _ h => hFc q h) hFc (fun q _ h => hFc q h) (fun E9 ce q9 u t H1 locs ht hvm hw hB hz1 hk1 hS hce hcv hcl => ?_) (fun u t H1 locs ht hvm hw hB hz1 hk1 hS => ?_)
  · obtain ⟨rfl, hP1, hD1⟩ := hB
    rw [ht] at hP1
    obtain ⟨hP, hD⟩ := va_join (wr := [(o0, .inl (cy 1, 1, .inr (.inl ((fun _ => 0)))))]) (w1 := []) hP hD [0, 1, 2] [3] rfl rfl (by decide) (by decide) hk1 hFc hP1 hD1
    generalize H1 = H at hP hS hce ⊢
    have hP : va_P (dC, dI) vwCl [(o0, .inl (cy 1, 1, .inr (.inl ((fun _ => 0)))))] _ := hP
    have hD : va_D A [(o0, .inl (cy 1, 1, .inr (.inl ((fun _ => 0)))))] := hD
    refine vx_catch (own := RL) (name := "java/lang/IndexOutOfBoundsException") hown [] { startPc := 0, endPc := 9, handlerPc := 12, catchType := 19 } [] htb (fun z hz => by cases hz) (by decide) (by decide) (hts _ tw_700) (va_Nw.use rfl (hE.2.2.2.2.2.1 _ (List.mem_of_getElem? (i := 0) rfl))) hce hcv hcl ?_
    refine lv_astore_n (lv' := [(3, .ref q9), (0, .ref a0), (1, .int p1), (2, .ref o0)]) hx hb dL_linksOf_12 rfl hl (by decide) rfl (fun ls hl => ?_)
    refine lv_iconst (v := 1) hx hb dL_linksOf_13 (by decide) ?_
    refine W.widen (k := 1) (n := 6) (Nat.le_of_ble_eq_true rfl) (Nat.le_of_ble_eq_true rfl) ?_
    refine vx_ret ?_
    have hP9 := hP.sub (ws' := [(o0, .inl (cy 1, 1, .inr (.inl ((fun _ => 0)))))]) [0] rfl
    have hD9 := hD.sub (ws' := [(o0, .inl (cy 1, 1, .inr (.inl ((fun _ => 0)))))]) [0] (by decide) rfl
    exact W.iret (v := 1) hx hb hr (fun t ht hW => ⟨⟨1, 1, rfl, rfl, ⟨(by first | exact pk_uLs | rfl | assumption), by rw [ht]; exact hP9, hD9⟩⟩, hS.F ht⟩) hS.2.2 dL_linksOf_14
  · exact hw.elim
set_option maxRecDepth 100000 in
set_option maxHeartbeats 4000000 in
/-- linkAt -/
theorem tm_L_linkAt (l : Launch) (hst : l.stackTraces = false) (dC : Nat → ClassId) (dI : Nat → Nat → Nat) (cy : Nat → ClassId) (a0 : Nat) (a1 : Nat) (a2 : Nat) (aT : Nat) (b1 : Nat) (b2 : Nat) (b3 : Nat) (b4 : Nat) (b5 : Nat) (b6 : Nat) (b7 : Nat) (o0 : Nat) (p1 : Int32) (p2 : Int32) (sz : Nat) : vx_Met l yL_linkAt (tp_wW yL_linkAt cL_linkAt 5 (some .int) [(0, 10, 13, 19)]) ({ frames := 8, cells := 1, slots := 6, locals := 127 }) (va_Pc [.ref a0, .int p1, .int p2, .ref o0] (tp_Pre dC dI cy [(a0, .inr (8, [.ref a1, .ref aT])), (a1, .inr (5, [.ref a2, .ref b1, .ref b2, .ref b3, .ref b4, .ref b5, .int 0, .int 1, .int 0, .int 0, .int 0, .int 0])), (a2, .inr (2, [.ref b6, .int 0, .ref b7, .int 0])), (o0, .inl (cy 1, 1, .inr (.inl ((fun _ => 0)))))] sz)) (va_Qi (fun (r u : Int32) => r = u) (fun (u : Int32) (t : State) => (u = 1) ∧ tp_Post dC dI (va_A [(a0, .inr (8, [.ref a1, .ref aT])), (a1, .inr (5, [.ref a2, .ref b1, .ref b2, .ref b3, .ref b4, .ref b5, .int 0, .int 1, .int 0, .int 0, .int 0, .int 0])), (a2, .inr (2, [.ref b6, .int 0, .ref b7, .int 0])), (o0, .inl (cy 1, 1, .inr (.inl ((fun _ => 0)))))] sz) [(o0, .inl (cy 1, 1, .inr (.inl ((fun _ => 0)))))] t) (va_A [(a0, .inr (8, [.ref a1, .ref aT])), (a1, .inr (5, [.ref a2, .ref b1, .ref b2, .ref b3, .ref b4, .ref b5, .int 0, .int 1, .int 0, .int 0, .int 0, .int 0])), (a2, .inr (2, [.ref b6, .int 0, .ref b7, .int 0])), (o0, .inl (cy 1, 1, .inr (.inl ((fun _ => 0)))))] sz)) (vx_X (fun _ : Unit => True) (fun (E : String) (_ : Unit) (t : State) => (False) ∧ tp_Post dC dI (va_A [(a0, .inr (8, [.ref a1, .ref aT])), (a1, .inr (5, [.ref a2, .ref b1, .ref b2, .ref b3, .ref b4, .ref b5, .int 0, .int 1, .int 0, .int 0, .int 0, .int 0])), (a2, .inr (2, [.ref b6, .int 0, .ref b7, .int 0])), (o0, .inl (cy 1, 1, .inr (.inl ((fun _ => 0)))))] sz) [] t) (va_A [(a0, .inr (8, [.ref a1, .ref aT])), (a1, .inr (5, [.ref a2, .ref b1, .ref b2, .ref b3, .ref b4, .ref b5, .int 0, .int 1, .int 0, .int 0, .int 0, .int 0])), (a2, .inr (2, [.ref b6, .int 0, .ref b7, .int 0])), (o0, .inl (cy 1, 1, .inr (.inl ((fun _ => 0)))))] sz)) 1 6 (va_A [(a0, .inr (8, [.ref a1, .ref aT])), (a1, .inr (5, [.ref a2, .ref b1, .ref b2, .ref b3, .ref b4, .ref b5, .int 0, .int 1, .int 0, .int 0, .int 0, .int 0])), (a2, .inr (2, [.ref b6, .int 0, .ref b7, .int 0])), (o0, .inl (cy 1, 1, .inr (.inl ((fun _ => 0)))))] sz) := by
  refine vx_ofWH (cc := cL_linkAt) (maxL := 5) (ret := (some .int)) (hh := [(0, 10, 13, 19)]) (by decide) rfl ?_
  intro p e s m args below meth c s₁ B hml hv
  obtain ⟨rfl, hsz, hP, hK, hD0, hE, hZ⟩ := hv
  have hx := B.exec
  have hb := B.bytes
  have hr := B.returns
  have hts0 := atoms_spec (ws := tp_wW yL_linkAt cL_linkAt 5 (some .int) [(0, 10, 13, 19)]) B.pre
  have hts : ∀ w ∈ tp_all, w.before _ s = true := fun w h => hts0 w (List.mem_cons_of_mem _ h)
  have htb : c.exceptionTable.toList = tableOf [(0, 10, 13, 19)] := vx_table (x := yL_linkAt) B (hts0 _ List.mem_cons_self)
  have hown : s.vm.findClass RL = some m.cls := findClass_of_methodNamed B.named
  have hlocks := B.notSynchronized
  subst hsz
  have hD := hD0.self (sz := s.heap.size)
  generalize hAe : va_A [(a0, .inr (8, [.ref a1, .ref aT])), (a1, .inr (5, [.ref a2, .ref b1, .ref b2, .ref b3, .ref b4, .ref b5, .int 0, .int 1, .int 0, .int 0, .int 0, .int 0])), (a2, .inr (2, [.ref b6, .int 0, .ref b7, .int 0])), (o0, .inl (cy 1, 1, .inr (.inl ((fun _ => 0)))))] s.heap.size = A at hD hZ ⊢
  have hA : ∀ q : Nat, s.heap.size ≤ q → A q := fun q h => by rw [← hAe]; exact Or.inr h
  have hS : va_S A s.heap s.heap [] := va_S.rf
  have hl9 := lv_entry ([.ref a0, .int p1, .int p2, .ref o0]) (n := 5) (Nat.le_of_ble_eq_true rfl)
  rw [lg_entry_eq]
  generalize (lg_sl ([.ref a0, .int p1, .int p2, .ref o0]) ++ List.replicate (5 - (lg_sl ([.ref a0, .int p1, .int p2, .ref o0])).length) Slot.unset).toArray = ls at hl9 ⊢
  have hl : lv_has ls 5 [(0, .ref a0), (1, .int p1), (2, .int p2), (3, .ref o0)] := hl9
  refine lv_aload_n hx hb dL_linkAt_0 rfl (lv_at hl 3 rfl) ?_
  refine lv_iconst (v := 0) hx hb dL_linkAt_1 (by decide) ?_
  refine lv_aload_n hx hb dL_linkAt_2 rfl (lv_at hl 0 rfl) ?_
  refine lv_iload_n hx hb dL_linkAt_3 rfl (lv_at hl 1 rfl) ?_
  refine lv_iload_n hx hb dL_linkAt_4 rfl (lv_at hl 2 rfl) ?_
  have hFc := va_free (wc := [(a0, .inr (8, [.ref a1, .ref aT])), (a1, .inr (5, [.ref a2, .ref b1, .ref b2, .ref b3, .ref b4, .ref b5, .int 0, .int 1, .int 0, .int 0, .int 0, .int 0])), (a2, .inr (2, [.ref b6, .int 0, .ref b7, .int 0]))]) hD hS hA [0, 1, 2] rfl
  refine vx_callv (vx_runV (As := [.int p1, .int p2]) (rest := [.int 0, .ref o0]) ⟨hx, hb, hml, hown, hts⟩ (tm_linkAt l hst dC dI cy a0 a1 a2 aT b1 b2 b3 b4 b5 b6 b7 p1 p2 s.heap.size) (tp_cwV 2 hts tw_1023 tw_1024 tw_1025 tw_38 tw_1026 rfl rfl (by decide +kernel) ⟨Nat.le_of_ble_eq_true rfl, Nat.le_of_ble_eq_true rfl⟩) ⟨tp_blind, va_recv hK hP (ci := 8) (q0 := 0) rfl rfl, fun U hU hW => ⟨rfl, tp_pay hK hP hD hE hZ hS [0, 1, 2] (by decide) rfl hFc U hU hW⟩⟩ rfl rfl hl.1 rfl (lv_room (Nat.le_of_ble_eq_true rfl)) dL_linkAt_5 ⟨(Nat.le_of_ble_eq_true rfl), (Nat.le_of_ble_eq_true rfl)⟩) hS (fun q _ h => hFc q h) hFc (fun q _ h => hFc q h) (fun E9 ce q9 u t H1 locs ht hvm hw hB hz1 hk1 hS hce hcv hcl => ?_) (fun u t H1 locs ht hvm hw hB hz1 hk1 hS => ?_)
  · obtain ⟨rfl, hP1, hD1⟩ := hB
    rw [ht] at hP1
    obtain ⟨hP, hD⟩ := va_join (wr := [(o0, .inl (cy 1, 1, .inr (.inl ((fun _ => 0)))))]) (w1 := []) hP hD [0, 1, 2] [3] rfl rfl (by decide) (by decide) hk1 hFc hP1 hD1
    generalize H1 = H at hP hS hce ⊢
    have hP : va_P (dC, dI) vwCl [(o0, .inl (cy 1, 1, .inr (.inl ((fun _ => 0)))))] _ := hP
    have hD : va_D A [(o0, .inl (cy 1, 1, .inr (.inl ((fun _ => 0)))))] := hD
    refine vx_catch (own := RL) (name := "java/lang/IndexOutOfBoundsException") hown [] { startPc := 0, endPc := 10, handlerPc := 13, catchType := 19 } [] htb (fun z hz => by cases hz) (by decide) (by decide) (hts _ tw_700) (va_Nw.use rfl (hE.2.2.2.2.2.1 _ (List.mem_of_getElem? (i := 0) rfl))) hce hcv hcl ?_
    refine lv_astore (lv' := [(4, .ref q9), (0, .ref a0), (1, .int p1), (2, .int p2), (3, .ref o0)]) hx hb dL_linkAt_13 hl (by decide) rfl (fun ls hl => ?_)
    refine lv_iconst (v := 1) hx hb dL_linkAt_15 (by decide) ?_
    refine W.widen (k := 1) (n := 6) (Nat.le_of_ble_eq_true rfl) (Nat.le_of_ble_eq_true rfl) ?_
    refine vx_ret ?_
    have hP9 := hP.sub (ws' := [(o0, .inl (cy 1, 1, .inr (.inl ((fun _ => 0)))))]) [0] rfl
    have hD9 := hD.sub (ws' := [(o0, .inl (cy 1, 1, .inr (.inl ((fun _ => 0)))))]) [0] (by decide) rfl
    exact W.iret (v := 1) hx hb hr (fun t ht hW => ⟨⟨1, 1, rfl, rfl, ⟨(by first | exact pk_uLs | rfl | assumption), by rw [ht]; exact hP9, hD9⟩⟩, hS.F ht⟩) hS.2.2 dL_linkAt_16
  · exact hw.elim
set_option maxRecDepth 100000 in
set_option maxHeartbeats 4000000 in
/-- tripOf -/
theorem tm_L_tripOf (l : Launch) (hst : l.stackTraces = false) (dC : Nat → ClassId) (dI : Nat → Nat → Nat) (cy : Nat → ClassId) (a0 : Nat) (a1 : Nat) (a2 : Nat) (aT : Nat) (b1 : Nat) (b2 : Nat) (b3 : Nat) (b4 : Nat) (b5 : Nat) (b6 : Nat) (b7 : Nat) (o0 : Nat) (p1 : Int32) (sz : Nat) : vx_Met l yL_tripOf (tp_wW yL_tripOf cL_tripOf 4 (some .int) [(0, 9, 12, 19)]) ({ frames := 8, cells := 1, slots := 6, locals := 125 }) (va_Pc [.ref a0, .int p1, .ref o0] (tp_Pre dC dI cy [(a0, .inr (8, [.ref a1, .ref aT])), (a1, .inr (5, [.ref a2, .ref b1, .ref b2, .ref b3, .ref b4, .ref b5, .int 0, .int 1, .int 0, .int 0, .int 0, .int 0])), (a2, .inr (2, [.ref b6, .int 0, .ref b7, .int 0])), (o0, .inl (cy 1, 1, .inr (.inl ((fun _ => 0)))))] sz)) (va_Qi (fun (r u : Int32) => r = u) (fun (u : Int32) (t : State) => (u = 1) ∧ tp_Post dC dI (va_A [(a0, .inr (8, [.ref a1, .ref aT])), (a1, .inr (5, [.ref a2, .ref b1, .ref b2, .ref b3, .ref b4, .ref b5, .int 0, .int 1, .int 0, .int 0, .int 0, .int 0])), (a2, .inr (2, [.ref b6, .int 0, .ref b7, .int 0])), (o0, .inl (cy 1, 1, .inr (.inl ((fun _ => 0)))))] sz) [(o0, .inl (cy 1, 1, .inr (.inl ((fun _ => 0)))))] t) (va_A [(a0, .inr (8, [.ref a1, .ref aT])), (a1, .inr (5, [.ref a2, .ref b1, .ref b2, .ref b3, .ref b4, .ref b5, .int 0, .int 1, .int 0, .int 0, .int 0, .int 0])), (a2, .inr (2, [.ref b6, .int 0, .ref b7, .int 0])), (o0, .inl (cy 1, 1, .inr (.inl ((fun _ => 0)))))] sz)) (vx_X (fun _ : Unit => True) (fun (E : String) (_ : Unit) (t : State) => (False) ∧ tp_Post dC dI (va_A [(a0, .inr (8, [.ref a1, .ref aT])), (a1, .inr (5, [.ref a2, .ref b1, .ref b2, .ref b3, .ref b4, .ref b5, .int 0, .int 1, .int 0, .int 0, .int 0, .int 0])), (a2, .inr (2, [.ref b6, .int 0, .ref b7, .int 0])), (o0, .inl (cy 1, 1, .inr (.inl ((fun _ => 0)))))] sz) [] t) (va_A [(a0, .inr (8, [.ref a1, .ref aT])), (a1, .inr (5, [.ref a2, .ref b1, .ref b2, .ref b3, .ref b4, .ref b5, .int 0, .int 1, .int 0, .int 0, .int 0, .int 0])), (a2, .inr (2, [.ref b6, .int 0, .ref b7, .int 0])), (o0, .inl (cy 1, 1, .inr (.inl ((fun _ => 0)))))] sz)) 1 6 (va_A [(a0, .inr (8, [.ref a1, .ref aT])), (a1, .inr (5, [.ref a2, .ref b1, .ref b2, .ref b3, .ref b4, .ref b5, .int 0, .int 1, .int 0, .int 0, .int 0, .int 0])), (a2, .inr (2, [.ref b6, .int 0, .ref b7, .int 0])), (o0, .inl (cy 1, 1, .inr (.inl ((fun _ => 0)))))] sz) := by
  refine vx_ofWH (cc := cL_tripOf) (maxL := 4) (ret := (some .int)) (hh := [(0, 9, 12, 19)]) (by decide) rfl ?_
  intro p e s m args below meth c s₁ B hml hv
  obtain ⟨rfl, hsz, hP, hK, hD0, hE, hZ⟩ := hv
  have hx := B.exec
  have hb := B.bytes
  have hr := B.returns
  have hts0 := atoms_spec (ws := tp_wW yL_tripOf cL_tripOf 4 (some .int) [(0, 9, 12, 19)]) B.pre
  have hts : ∀ w ∈ tp_all, w.before _ s = true := fun w h => hts0 w (List.mem_cons_of_mem _ h)
  have htb : c.exceptionTable.toList = tableOf [(0, 9, 12, 19)] := vx_table (x := yL_tripOf) B (hts0 _ List.mem_cons_self)
  have hown : s.vm.findClass RL = some m.cls := findClass_of_methodNamed B.named
  have hlocks := B.notSynchronized
  subst hsz
  have hD := hD0.self (sz := s.heap.size)
  generalize hAe : va_A [(a0, .inr (8, [.ref a1, .ref aT])), (a1, .inr (5, [.ref a2, .ref b1, .ref b2, .ref b3, .ref b4, .ref b5, .int 0, .int 1, .int 0, .int 0, .int 0, .int 0])), (a2, .inr (2, [.ref b6, .int 0, .ref b7, .int 0])), (o0, .inl (cy 1, 1, .inr (.inl ((fun _ => 0)))))] s.heap.size = A at hD hZ ⊢
  have hA : ∀ q : Nat, s.heap.size ≤ q → A q := fun q h => by rw [← hAe]; exact Or.inr h
  have hS : va_S A s.heap s.heap [] := va_S.rf
  have hl9 := lv_entry ([.ref a0, .int p1, .ref o0]) (n := 4) (Nat.le_of_ble_eq_true rfl)
  rw [lg_entry_eq]
  generalize (lg_sl ([.ref a0, .int p1, .ref o0]) ++ List.replicate (4 - (lg_sl ([.ref a0, .int p1, .ref o0])).length) Slot.unset).toArray = ls at hl9 ⊢
  have hl : lv_has ls 4 [(0, .ref a0), (1, .int p1), (2, .ref o0)] := hl9
  refine lv_aload_n hx hb dL_tripOf_0 rfl (lv_at hl 2 rfl) ?_
  refine lv_iconst (v := 0) hx hb dL_tripOf_1 (by decide) ?_
  refine lv_aload_n hx hb dL_tripOf_2 rfl (lv_at hl 0 rfl) ?_
  refine lv_iload_n hx hb dL_tripOf_3 rfl (lv_at hl 1 rfl) ?_
  have hFc := va_free (wc := [(a0, .inr (8, [.ref a1, .ref aT])), (a1, .inr (5, [.ref a2, .ref b1, .ref b2, .ref b3, .ref b4, .ref b5, .int 0, .int 1, .int 0, .int 0, .int 0, .int 0])), (a2, .inr (2, [.ref b6, .int 0, .ref b7, .int 0]))]) hD hS hA [0, 1, 2] rfl
  refine vx_callv (vx_runV (As := [.int p1]) (rest := [.int 0, .ref o0]) ⟨hx, hb, hml, hown, hts⟩ (tm_tripOf l hst dC dI cy a0 a1 a2 aT b1 b2 b3 b4 b5 b6 b7 p1 s.heap.size) (tp_cwV 1 hts tw_1035 tw_666 tw_667 tw_38 tw_668 rfl rfl (by decide +kernel) ⟨Nat.le_of_ble_eq_true rfl, Nat.le_of_ble_eq_true rfl⟩) ⟨tp_blind, va_recv hK hP (ci := 8) (q0 := 0) rfl rfl, fun U hU hW => ⟨rfl, tp_pay hK hP hD hE hZ hS [0, 1, 2] (by decide) rfl hFc U hU hW⟩⟩ rfl rfl hl.1 rfl (lv_room (Nat.le_of_ble_eq_true rfl)) dL_tripOf_4 ⟨(Nat.le_of_ble_eq_true rfl), (Nat.le_of_ble_eq_true rfl)⟩) hS (fun q _ h => hFc q h) hFc (fun q _ h => hFc q h) (fun E9 ce q9 u t H1 locs ht hvm hw hB hz1 hk1 hS hce hcv hcl => ?_) (fun u t H1 locs ht hvm hw hB hz1 hk1 hS => ?_)
  · obtain ⟨rfl, hP1, hD1⟩ := hB
    rw [ht] at hP1
    obtain ⟨hP, hD⟩ := va_join (wr := [(o0, .inl (cy 1, 1, .inr (.inl ((fun _ => 0)))))]) (w1 := []) hP hD [0, 1, 2] [3] rfl rfl (by decide) (by decide) hk1 hFc hP1 hD1
    generalize H1 = H at hP hS hce ⊢
    have hP : va_P (dC, dI) vwCl [(o0, .inl (cy 1, 1, .inr (.inl ((fun _ => 0)))))] _ := hP
    have hD : va_D A [(o0, .inl (cy 1, 1, .inr (.inl ((fun _ => 0)))))] := hD
    refine vx_catch (own := RL) (name := "java/lang/IndexOutOfBoundsException") hown [] { startPc := 0, endPc := 9, handlerPc := 12, catchType := 19 } [] htb (fun z hz => by cases hz) (by decide) (by decide) (hts _ tw_700) (va_Nw.use rfl (hE.2.2.2.2.2.1 _ (List.mem_of_getElem? (i := 0) rfl))) hce hcv hcl ?_
    refine lv_astore_n (lv' := [(3, .ref q9), (0, .ref a0), (1, .int p1), (2, .ref o0)]) hx hb dL_tripOf_12 rfl hl (by decide) rfl (fun ls hl => ?_)
    refine lv_iconst (v := 1) hx hb dL_tripOf_13 (by decide) ?_
    refine W.widen (k := 1) (n := 6) (Nat.le_of_ble_eq_true rfl) (Nat.le_of_ble_eq_true rfl) ?_
    refine vx_ret ?_
    have hP9 := hP.sub (ws' := [(o0, .inl (cy 1, 1, .inr (.inl ((fun _ => 0)))))]) [0] rfl
    have hD9 := hD.sub (ws' := [(o0, .inl (cy 1, 1, .inr (.inl ((fun _ => 0)))))]) [0] (by decide) rfl
    exact W.iret (v := 1) hx hb hr (fun t ht hW => ⟨⟨1, 1, rfl, rfl, ⟨(by first | exact pk_uLs | rfl | assumption), by rw [ht]; exact hP9, hD9⟩⟩, hS.F ht⟩) hS.2.2 dL_tripOf_14
  · exact hw.elim
set_option maxRecDepth 100000 in
set_option maxHeartbeats 4000000 in
/-- delayOf -/
theorem tm_L_delayOf (l : Launch) (hst : l.stackTraces = false) (dC : Nat → ClassId) (dI : Nat → Nat → Nat) (cy : Nat → ClassId) (a0 : Nat) (a1 : Nat) (a2 : Nat) (aT : Nat) (b1 : Nat) (b2 : Nat) (b3 : Nat) (b4 : Nat) (b5 : Nat) (b6 : Nat) (b7 : Nat) (o0 : Nat) (p1 : Int32) (sz : Nat) : vx_Met l yL_delayOf (tp_wW yL_delayOf cL_delayOf 4 (some .int) [(0, 9, 12, 19)]) ({ frames := 8, cells := 1, slots := 6, locals := 125 }) (va_Pc [.ref a0, .int p1, .ref o0] (tp_Pre dC dI cy [(a0, .inr (8, [.ref a1, .ref aT])), (a1, .inr (5, [.ref a2, .ref b1, .ref b2, .ref b3, .ref b4, .ref b5, .int 0, .int 1, .int 0, .int 0, .int 0, .int 0])), (a2, .inr (2, [.ref b6, .int 0, .ref b7, .int 0])), (o0, .inl (cy 1, 1, .inr (.inl ((fun _ => 0)))))] sz)) (va_Qi (fun (r u : Int32) => r = u) (fun (u : Int32) (t : State) => (u = 1) ∧ tp_Post dC dI (va_A [(a0, .inr (8, [.ref a1, .ref aT])), (a1, .inr (5, [.ref a2, .ref b1, .ref b2, .ref b3, .ref b4, .ref b5, .int 0, .int 1, .int 0, .int 0, .int 0, .int 0])), (a2, .inr (2, [.ref b6, .int 0, .ref b7, .int 0])), (o0, .inl (cy 1, 1, .inr (.inl ((fun _ => 0)))))] sz) [(o0, .inl (cy 1, 1, .inr (.inl ((fun _ => 0)))))] t) (va_A [(a0, .inr (8, [.ref a1, .ref aT])), (a1, .inr (5, [.ref a2, .ref b1, .ref b2, .ref b3, .ref b4, .ref b5, .int 0, .int 1, .int 0, .int 0, .int 0, .int 0])), (a2, .inr (2, [.ref b6, .int 0, .ref b7, .int 0])), (o0, .inl (cy 1, 1, .inr (.inl ((fun _ => 0)))))] sz)) (vx_X (fun _ : Unit => True) (fun (E : String) (_ : Unit) (t : State) => (False) ∧ tp_Post dC dI (va_A [(a0, .inr (8, [.ref a1, .ref aT])), (a1, .inr (5, [.ref a2, .ref b1, .ref b2, .ref b3, .ref b4, .ref b5, .int 0, .int 1, .int 0, .int 0, .int 0, .int 0])), (a2, .inr (2, [.ref b6, .int 0, .ref b7, .int 0])), (o0, .inl (cy 1, 1, .inr (.inl ((fun _ => 0)))))] sz) [] t) (va_A [(a0, .inr (8, [.ref a1, .ref aT])), (a1, .inr (5, [.ref a2, .ref b1, .ref b2, .ref b3, .ref b4, .ref b5, .int 0, .int 1, .int 0, .int 0, .int 0, .int 0])), (a2, .inr (2, [.ref b6, .int 0, .ref b7, .int 0])), (o0, .inl (cy 1, 1, .inr (.inl ((fun _ => 0)))))] sz)) 1 6 (va_A [(a0, .inr (8, [.ref a1, .ref aT])), (a1, .inr (5, [.ref a2, .ref b1, .ref b2, .ref b3, .ref b4, .ref b5, .int 0, .int 1, .int 0, .int 0, .int 0, .int 0])), (a2, .inr (2, [.ref b6, .int 0, .ref b7, .int 0])), (o0, .inl (cy 1, 1, .inr (.inl ((fun _ => 0)))))] sz) := by
  refine vx_ofWH (cc := cL_delayOf) (maxL := 4) (ret := (some .int)) (hh := [(0, 9, 12, 19)]) (by decide) rfl ?_
  intro p e s m args below meth c s₁ B hml hv
  obtain ⟨rfl, hsz, hP, hK, hD0, hE, hZ⟩ := hv
  have hx := B.exec
  have hb := B.bytes
  have hr := B.returns
  have hts0 := atoms_spec (ws := tp_wW yL_delayOf cL_delayOf 4 (some .int) [(0, 9, 12, 19)]) B.pre
  have hts : ∀ w ∈ tp_all, w.before _ s = true := fun w h => hts0 w (List.mem_cons_of_mem _ h)
  have htb : c.exceptionTable.toList = tableOf [(0, 9, 12, 19)] := vx_table (x := yL_delayOf) B (hts0 _ List.mem_cons_self)
  have hown : s.vm.findClass RL = some m.cls := findClass_of_methodNamed B.named
  have hlocks := B.notSynchronized
  subst hsz
  have hD := hD0.self (sz := s.heap.size)
  generalize hAe : va_A [(a0, .inr (8, [.ref a1, .ref aT])), (a1, .inr (5, [.ref a2, .ref b1, .ref b2, .ref b3, .ref b4, .ref b5, .int 0, .int 1, .int 0, .int 0, .int 0, .int 0])), (a2, .inr (2, [.ref b6, .int 0, .ref b7, .int 0])), (o0, .inl (cy 1, 1, .inr (.inl ((fun _ => 0)))))] s.heap.size = A at hD hZ ⊢
  have hA : ∀ q : Nat, s.heap.size ≤ q → A q := fun q h => by rw [← hAe]; exact Or.inr h
  have hS : va_S A s.heap s.heap [] := va_S.rf
  have hl9 := lv_entry ([.ref a0, .int p1, .ref o0]) (n := 4) (Nat.le_of_ble_eq_true rfl)
  rw [lg_entry_eq]
  generalize (lg_sl ([.ref a0, .int p1, .ref o0]) ++ List.replicate (4 - (lg_sl ([.ref a0, .int p1, .ref o0])).length) Slot.unset).toArray = ls at hl9 ⊢
  have hl : lv_has ls 4 [(0, .ref a0), (1, .int p1), (2, .ref o0)] := hl9
  refine lv_aload_n hx hb dL_delayOf_0 rfl (lv_at hl 2 rfl) ?_
  refine lv_iconst (v := 0) hx hb dL_delayOf_1 (by decide) ?_
  refine lv_aload_n hx hb dL_delayOf_2 rfl (lv_at hl 0 rfl) ?_
  refine lv_iload_n hx hb dL_delayOf_3 rfl (lv_at hl 1 rfl) ?_
  have hFc := va_free (wc := [(a0, .inr (8, [.ref a1, .ref aT])), (a1, .inr (5, [.ref a2, .ref b1, .ref b2, .ref b3, .ref b4, .ref b5, .int 0, .int 1, .int 0, .int 0, .int 0, .int 0])), (a2, .inr (2, [.ref b6, .int 0, .ref b7, .int 0]))]) hD hS hA [0, 1, 2] rfl
  refine vx_callv (vx_runV (As := [.int p1]) (rest := [.int 0, .ref o0]) ⟨hx, hb, hml, hown, hts⟩ (tm_delayOf l hst dC dI cy a0 a1 a2 aT b1 b2 b3 b4 b5 b6 b7 p1 s.heap.size) (tp_cwV 1 hts tw_1039 tw_670 tw_671 tw_38 tw_672 rfl rfl (by decide +kernel) ⟨Nat.le_of_ble_eq_true rfl, Nat.le_of_ble_eq_true rfl⟩) ⟨tp_blind, va_recv hK hP (ci := 8) (q0 := 0) rfl rfl, fun U hU hW => ⟨rfl, tp_pay hK hP hD hE hZ hS [0, 1, 2] (by decide) rfl hFc U hU hW⟩⟩ rfl rfl hl.1 rfl (lv_room (Nat.le_of_ble_eq_true rfl)) dL_delayOf_4 ⟨(Nat.le_of_ble_eq_true rfl), (Nat.le_of_ble_eq_true rfl)⟩) hS (fun q _ h => hFc q h) hFc (fun q _ h => hFc q h) (fun E9 ce q9 u t H1 locs ht hvm hw hB hz1 hk1 hS hce hcv hcl => ?_) (fun u t H1 locs ht hvm hw hB hz1 hk1 hS => ?_)
  · obtain ⟨rfl, hP1, hD1⟩ := hB
    rw [ht] at hP1
    obtain ⟨hP, hD⟩ := va_join (wr := [(o0, .inl (cy 1, 1, .inr (.inl ((fun _ => 0)))))]) (w1 := []) hP hD [0, 1, 2] [3] rfl rfl (by decide) (by decide) hk1 hFc hP1 hD1
    generalize H1 = H at hP hS hce ⊢
    have hP : va_P (dC, dI) vwCl [(o0, .inl (cy 1, 1, .inr (.inl ((fun _ => 0)))))] _ := hP
    have hD : va_D A [(o0, .inl (cy 1, 1, .inr (.inl ((fun _ => 0)))))] := hD
    refine vx_catch (own := RL) (name := "java/lang/IndexOutOfBoundsException") hown [] { startPc := 0, endPc := 9, handlerPc := 12, catchType := 19 } [] htb (fun z hz => by cases hz) (by decide) (by decide) (hts _ tw_700) (va_Nw.use rfl (hE.2.2.2.2.2.1 _ (List.mem_of_getElem? (i := 0) rfl))) hce hcv hcl ?_
    refine lv_astore_n (lv' := [(3, .ref q9), (0, .ref a0), (1, .int p1), (2, .ref o0)]) hx hb dL_delayOf_12 rfl hl (by decide) rfl (fun ls hl => ?_)
    refine lv_iconst (v := 1) hx hb dL_delayOf_13 (by decide) ?_
    refine W.widen (k := 1) (n := 6) (Nat.le_of_ble_eq_true rfl) (Nat.le_of_ble_eq_true rfl) ?_
    refine vx_ret ?_
    have hP9 := hP.sub (ws' := [(o0, .inl (cy 1, 1, .inr (.inl ((fun _ => 0)))))]) [0] rfl
    have hD9 := hD.sub (ws' := [(o0, .inl (cy 1, 1, .inr (.inl ((fun _ => 0)))))]) [0] (by decide) rfl
    exact W.iret (v := 1) hx hb hr (fun t ht hW => ⟨⟨1, 1, rfl, rfl, ⟨(by first | exact pk_uLs | rfl | assumption), by rw [ht]; exact hP9, hD9⟩⟩, hS.F ht⟩) hS.2.2 dL_delayOf_14
  · exact hw.elim
set_option maxRecDepth 100000 in
set_option maxHeartbeats 4000000 in
/-- waiting -/
theorem tm_L_waiting (l : Launch) (hst : l.stackTraces = false) (dC : Nat → ClassId) (dI : Nat → Nat → Nat) (cy : Nat → ClassId) (a0 : Nat) (a1 : Nat) (a2 : Nat) (aT : Nat) (b1 : Nat) (b2 : Nat) (b3 : Nat) (b4 : Nat) (b5 : Nat) (b6 : Nat) (b7 : Nat) (o0 : Nat) (p1 : Int32) (sz : Nat) : vx_Met l yL_waiting (tp_wW yL_waiting cL_waiting 4 (some .int) [(0, 9, 12, 19)]) ({ frames := 8, cells := 1, slots := 6, locals := 124 }) (va_Pc [.ref a0, .int p1, .ref o0] (tp_Pre dC dI cy [(a0, .inr (8, [.ref a1, .ref aT])), (a1, .inr (5, [.ref a2, .ref b1, .ref b2, .ref b3, .ref b4, .ref b5, .int 0, .int 1, .int 0, .int 0, .int 0, .int 0])), (a2, .inr (2, [.ref b6, .int 0, .ref b7, .int 0])), (o0, .inl (cy 1, 1, .inr (.inl ((fun _ => 0)))))] sz)) (va_Qi (fun (r u : Int32) => r = u) (fun (u : Int32) (t : State) => (u = 1) ∧ tp_Post dC dI (va_A [(a0, .inr (8, [.ref a1, .ref aT])), (a1, .inr (5, [.ref a2, .ref b1, .ref b2, .ref b3, .ref b4, .ref b5, .int 0, .int 1, .int 0, .int 0, .int 0, .int 0])), (a2, .inr (2, [.ref b6, .int 0, .ref b7, .int 0])), (o0, .inl (cy 1, 1, .inr (.inl ((fun _ => 0)))))] sz) [(o0, .inl (cy 1, 1, .inr (.inl ((fun _ => 0)))))] t) (va_A [(a0, .inr (8, [.ref a1, .ref aT])), (a1, .inr (5, [.ref a2, .ref b1, .ref b2, .ref b3, .ref b4, .ref b5, .int 0, .int 1, .int 0, .int 0, .int 0, .int 0])), (a2, .inr (2, [.ref b6, .int 0, .ref b7, .int 0])), (o0, .inl (cy 1, 1, .inr (.inl ((fun _ => 0)))))] sz)) (vx_X (fun _ : Unit => True) (fun (E : String) (_ : Unit) (t : State) => (False) ∧ tp_Post dC dI (va_A [(a0, .inr (8, [.ref a1, .ref aT])), (a1, .inr (5, [.ref a2, .ref b1, .ref b2, .ref b3, .ref b4, .ref b5, .int 0, .int 1, .int 0, .int 0, .int 0, .int 0])), (a2, .inr (2, [.ref b6, .int 0, .ref b7, .int 0])), (o0, .inl (cy 1, 1, .inr (.inl ((fun _ => 0)))))] sz) [] t) (va_A [(a0, .inr (8, [.ref a1, .ref aT])), (a1, .inr (5, [.ref a2, .ref b1, .ref b2, .ref b3, .ref b4, .ref b5, .int 0, .int 1, .int 0, .int 0, .int 0, .int 0])), (a2, .inr (2, [.ref b6, .int 0, .ref b7, .int 0])), (o0, .inl (cy 1, 1, .inr (.inl ((fun _ => 0)))))] sz)) 1 6 (va_A [(a0, .inr (8, [.ref a1, .ref aT])), (a1, .inr (5, [.ref a2, .ref b1, .ref b2, .ref b3, .ref b4, .ref b5, .int 0, .int 1, .int 0, .int 0, .int 0, .int 0])), (a2, .inr (2, [.ref b6, .int 0, .ref b7, .int 0])), (o0, .inl (cy 1, 1, .inr (.inl ((fun _ => 0)))))] sz) := by
  refine vx_ofWH (cc := cL_waiting) (maxL := 4) (ret := (some .int)) (hh := [(0, 9, 12, 19)]) (by decide) rfl ?_
  intro p e s m args below meth c s₁ B hml hv
  obtain ⟨rfl, hsz, hP, hK, hD0, hE, hZ⟩ := hv
  have hx := B.exec
  have hb := B.bytes
  have hr := B.returns
  have hts0 := atoms_spec (ws := tp_wW yL_waiting cL_waiting 4 (some .int) [(0, 9, 12, 19)]) B.pre
  have hts : ∀ w ∈ tp_all, w.before _ s = true := fun w h => hts0 w (List.mem_cons_of_mem _ h)
  have htb : c.exceptionTable.toList = tableOf [(0, 9, 12, 19)] := vx_table (x := yL_waiting) B (hts0 _ List.mem_cons_self)
  have hown : s.vm.findClass RL = some m.cls := findClass_of_methodNamed B.named
  have hlocks := B.notSynchronized
  subst hsz
  have hD := hD0.self (sz := s.heap.size)
  generalize hAe : va_A [(a0, .inr (8, [.ref a1, .ref aT])), (a1, .inr (5, [.ref a2, .ref b1, .ref b2, .ref b3, .ref b4, .ref b5, .int 0, .int 1, .int 0, .int 0, .int 0, .int 0])), (a2, .inr (2, [.ref b6, .int 0, .ref b7, .int 0])), (o0, .inl (cy 1, 1, .inr (.inl ((fun _ => 0)))))] s.heap.size = A at hD hZ ⊢
  have hA : ∀ q : Nat, s.heap.size ≤ q → A q := fun q h => by rw [← hAe]; exact Or.inr h
  have hS : va_S A s.heap s.heap [] := va_S.rf
  have hl9 := lv_entry ([.ref a0, .int p1, .ref o0]) (n := 4) (Nat.le_of_ble_eq_true rfl)
  rw [lg_entry_eq]
  generalize (lg_sl ([.ref a0, .int p1, .ref o0]) ++ List.replicate (4 - (lg_sl ([.ref a0, .int p1, .ref o0])).length) Slot.unset).toArray = ls at hl9 ⊢
  have hl : lv_has ls 4 [(0, .ref a0), (1, .int p1), (2, .ref o0)] := hl9
  refine lv_aload_n hx hb dL_waiting_0 rfl (lv_at hl 2 rfl) ?_
  refine lv_iconst (v := 0) hx hb dL_waiting_1 (by decide) ?_
  refine lv_aload_n hx hb dL_waiting_2 rfl (lv_at hl 0 rfl) ?_
  refine lv_iload_n hx hb dL_waiting_3 rfl (lv_at hl 1 rfl) ?_
  have hFc := va_free (wc := [(a0, .inr (8, [.ref a1, .ref aT])), (a1, .inr (5, [.ref a2, .ref b1, .ref b2, .ref b3, .ref b4, .ref b5, .int 0, .int 1, .int 0, .int 0, .int 0, .int 0])), (a2, .inr (2, [.ref b6, .int 0, .ref b7, .int 0]))]) hD hS hA [0, 1, 2] rfl
  refine vx_callv (vx_runV (As := [.int p1]) (rest := [.int 0, .ref o0]) ⟨hx, hb, hml, hown, hts⟩ (tm_waiting l hst dC dI cy a0 a1 a2 aT b1 b2 b3 b4 b5 b6 b7 p1 s.heap.size) (tp_cwV 1 hts tw_1043 tw_533 tw_534 tw_38 tw_535 rfl rfl (by decide +kernel) ⟨Nat.le_of_ble_eq_true rfl, Nat.le_of_ble_eq_true rfl⟩) ⟨tp_blind, va_recv hK hP (ci := 8) (q0 := 0) rfl rfl, fun U hU hW => ⟨rfl, tp_pay hK hP hD hE hZ hS [0, 1, 2] (by decide) rfl hFc U hU hW⟩⟩ rfl rfl hl.1 rfl (lv_room (Nat.le_of_ble_eq_true rfl)) dL_waiting_4 ⟨(Nat.le_of_ble_eq_true rfl), (Nat.le_of_ble_eq_true rfl)⟩) hS (fun q _ h => hFc q h) hFc (fun q _ h => hFc q h) (fun E9 ce q9 u t H1 locs ht hvm hw hB hz1 hk1 hS hce hcv hcl => ?_) (fun u t H1 locs ht hvm hw hB hz1 hk1 hS => ?_)
  · obtain ⟨rfl, hP1, hD1⟩ := hB
    rw [ht] at hP1
    obtain ⟨hP, hD⟩ := va_join (wr := [(o0, .inl (cy 1, 1, .inr (.inl ((fun _ => 0)))))]) (w1 := []) hP hD [0, 1, 2] [3] rfl rfl (by decide) (by decide) hk1 hFc hP1 hD1
    generalize H1 = H at hP hS hce ⊢
    have hP : va_P (dC, dI) vwCl [(o0, .inl (cy 1, 1, .inr (.inl ((fun _ => 0)))))] _ := hP
    have hD : va_D A [(o0, .inl (cy 1, 1, .inr (.inl ((fun _ => 0)))))] := hD
    refine vx_catch (own := RL) (name := "java/lang/IndexOutOfBoundsException") hown [] { startPc := 0, endPc := 9, handlerPc := 12, catchType := 19 } [] htb (fun z hz => by cases hz) (by decide) (by decide) (hts _ tw_700) (va_Nw.use rfl (hE.2.2.2.2.2.1 _ (List.mem_of_getElem? (i := 0) rfl))) hce hcv hcl ?_
    refine lv_astore_n (lv' := [(3, .ref q9), (0, .ref a0), (1, .int p1), (2, .ref o0)]) hx hb dL_waiting_12 rfl hl (by decide) rfl (fun ls hl => ?_)
    refine lv_iconst (v := 1) hx hb dL_waiting_13 (by decide) ?_
    refine W.widen (k := 1) (n := 6) (Nat.le_of_ble_eq_true rfl) (Nat.le_of_ble_eq_true rfl) ?_
    refine vx_ret ?_
    have hP9 := hP.sub (ws' := [(o0, .inl (cy 1, 1, .inr (.inl ((fun _ => 0)))))]) [0] rfl
    have hD9 := hD.sub (ws' := [(o0, .inl (cy 1, 1, .inr (.inl ((fun _ => 0)))))]) [0] (by decide) rfl
    exact W.iret (v := 1) hx hb hr (fun t ht hW => ⟨⟨1, 1, rfl, rfl, ⟨(by first | exact pk_uLs | rfl | assumption), by rw [ht]; exact hP9, hD9⟩⟩, hS.F ht⟩) hS.2.2 dL_waiting_14
  · exact hw.elim
set_option maxRecDepth 100000 in
set_option maxHeartbeats 4000000 in
/-- onLink -/
theorem tm_L_onLink (l : Launch) (hst : l.stackTraces = false) (dC : Nat → ClassId) (dI : Nat → Nat → Nat) (cy : Nat → ClassId) (a0 : Nat) (a1 : Nat) (a2 : Nat) (aT : Nat) (b1 : Nat) (b2 : Nat) (b3 : Nat) (b4 : Nat) (b5 : Nat) (b6 : Nat) (b7 : Nat) (o0 : Nat) (p1 : Int32) (sz : Nat) : vx_Met l yL_onLink (tp_wW yL_onLink cL_onLink 4 (some .int) [(0, 9, 12, 19)]) ({ frames := 8, cells := 1, slots := 6, locals := 125 }) (va_Pc [.ref a0, .int p1, .ref o0] (tp_Pre dC dI cy [(a0, .inr (8, [.ref a1, .ref aT])), (a1, .inr (5, [.ref a2, .ref b1, .ref b2, .ref b3, .ref b4, .ref b5, .int 0, .int 1, .int 0, .int 0, .int 0, .int 0])), (a2, .inr (2, [.ref b6, .int 0, .ref b7, .int 0])), (o0, .inl (cy 1, 1, .inr (.inl ((fun _ => 0)))))] sz)) (va_Qi (fun (r u : Int32) => r = u) (fun (u : Int32) (t : State) => (u = 1) ∧ tp_Post dC dI (va_A [(a0, .inr (8, [.ref a1, .ref aT])), (a1, .inr (5, [.ref a2, .ref b1, .ref b2, .ref b3, .ref b4, .ref b5, .int 0, .int 1, .int 0, .int 0, .int 0, .int 0])), (a2, .inr (2, [.ref b6, .int 0, .ref b7, .int 0])), (o0, .inl (cy 1, 1, .inr (.inl ((fun _ => 0)))))] sz) [(o0, .inl (cy 1, 1, .inr (.inl ((fun _ => 0)))))] t) (va_A [(a0, .inr (8, [.ref a1, .ref aT])), (a1, .inr (5, [.ref a2, .ref b1, .ref b2, .ref b3, .ref b4, .ref b5, .int 0, .int 1, .int 0, .int 0, .int 0, .int 0])), (a2, .inr (2, [.ref b6, .int 0, .ref b7, .int 0])), (o0, .inl (cy 1, 1, .inr (.inl ((fun _ => 0)))))] sz)) (vx_X (fun _ : Unit => True) (fun (E : String) (_ : Unit) (t : State) => (False) ∧ tp_Post dC dI (va_A [(a0, .inr (8, [.ref a1, .ref aT])), (a1, .inr (5, [.ref a2, .ref b1, .ref b2, .ref b3, .ref b4, .ref b5, .int 0, .int 1, .int 0, .int 0, .int 0, .int 0])), (a2, .inr (2, [.ref b6, .int 0, .ref b7, .int 0])), (o0, .inl (cy 1, 1, .inr (.inl ((fun _ => 0)))))] sz) [] t) (va_A [(a0, .inr (8, [.ref a1, .ref aT])), (a1, .inr (5, [.ref a2, .ref b1, .ref b2, .ref b3, .ref b4, .ref b5, .int 0, .int 1, .int 0, .int 0, .int 0, .int 0])), (a2, .inr (2, [.ref b6, .int 0, .ref b7, .int 0])), (o0, .inl (cy 1, 1, .inr (.inl ((fun _ => 0)))))] sz)) 1 6 (va_A [(a0, .inr (8, [.ref a1, .ref aT])), (a1, .inr (5, [.ref a2, .ref b1, .ref b2, .ref b3, .ref b4, .ref b5, .int 0, .int 1, .int 0, .int 0, .int 0, .int 0])), (a2, .inr (2, [.ref b6, .int 0, .ref b7, .int 0])), (o0, .inl (cy 1, 1, .inr (.inl ((fun _ => 0)))))] sz) := by
  refine vx_ofWH (cc := cL_onLink) (maxL := 4) (ret := (some .int)) (hh := [(0, 9, 12, 19)]) (by decide) rfl ?_
  intro p e s m args below meth c s₁ B hml hv
  obtain ⟨rfl, hsz, hP, hK, hD0, hE, hZ⟩ := hv
  have hx := B.exec
  have hb := B.bytes
  have hr := B.returns
  have hts0 := atoms_spec (ws := tp_wW yL_onLink cL_onLink 4 (some .int) [(0, 9, 12, 19)]) B.pre
  have hts : ∀ w ∈ tp_all, w.before _ s = true := fun w h => hts0 w (List.mem_cons_of_mem _ h)
  have htb : c.exceptionTable.toList = tableOf [(0, 9, 12, 19)] := vx_table (x := yL_onLink) B (hts0 _ List.mem_cons_self)
  have hown : s.vm.findClass RL = some m.cls := findClass_of_methodNamed B.named
  have hlocks := B.notSynchronized
  subst hsz
  have hD := hD0.self (sz := s.heap.size)
  generalize hAe : va_A [(a0, .inr (8, [.ref a1, .ref aT])), (a1, .inr (5, [.ref a2, .ref b1, .ref b2, .ref b3, .ref b4, .ref b5, .int 0, .int 1, .int 0, .int 0, .int 0, .int 0])), (a2, .inr (2, [.ref b6, .int 0, .ref b7, .int 0])), (o0, .inl (cy 1, 1, .inr (.inl ((fun _ => 0)))))] s.heap.size = A at hD hZ ⊢
  have hA : ∀ q : Nat, s.heap.size ≤ q → A q := fun q h => by rw [← hAe]; exact Or.inr h
  have hS : va_S A s.heap s.heap [] := va_S.rf
  have hl9 := lv_entry ([.ref a0, .int p1, .ref o0]) (n := 4) (Nat.le_of_ble_eq_true rfl)
  rw [lg_entry_eq]
  generalize (lg_sl ([.ref a0, .int p1, .ref o0]) ++ List.replicate (4 - (lg_sl ([.ref a0, .int p1, .ref o0])).length) Slot.unset).toArray = ls at hl9 ⊢
  have hl : lv_has ls 4 [(0, .ref a0), (1, .int p1), (2, .ref o0)] := hl9
  refine lv_aload_n hx hb dL_onLink_0 rfl (lv_at hl 2 rfl) ?_
  refine lv_iconst (v := 0) hx hb dL_onLink_1 (by decide) ?_
  refine lv_aload_n hx hb dL_onLink_2 rfl (lv_at hl 0 rfl) ?_
  refine lv_iload_n hx hb dL_onLink_3 rfl (lv_at hl 1 rfl) ?_
  have hFc := va_free (wc := [(a0, .inr (8, [.ref a1, .ref aT])), (a1, .inr (5, [.ref a2, .ref b1, .ref b2, .ref b3, .ref b4, .ref b5, .int 0, .int 1, .int 0, .int 0, .int 0, .int 0])), (a2, .inr (2, [.ref b6, .int 0, .ref b7, .int 0]))]) hD hS hA [0, 1, 2] rfl
  refine vx_callv (vx_runV (As := [.int p1]) (rest := [.int 0, .ref o0]) ⟨hx, hb, hml, hown, hts⟩ (tm_onLink l hst dC dI cy a0 a1 a2 aT b1 b2 b3 b4 b5 b6 b7 p1 s.heap.size) (tp_cwV 1 hts tw_1047 tw_582 tw_583 tw_38 tw_584 rfl rfl (by decide +kernel) ⟨Nat.le_of_ble_eq_true rfl, Nat.le_of_ble_eq_true rfl⟩) ⟨tp_blind, va_recv hK hP (ci := 8) (q0 := 0) rfl rfl, fun U hU hW => ⟨rfl, tp_pay hK hP hD hE hZ hS [0, 1, 2] (by decide) rfl hFc U hU hW⟩⟩ rfl rfl hl.1 rfl (lv_room (Nat.le_of_ble_eq_true rfl)) dL_onLink_4 ⟨(Nat.le_of_ble_eq_true rfl), (Nat.le_of_ble_eq_true rfl)⟩) hS (fun q _ h => hFc q h) hFc (fun q _ h => hFc q h) (fun E9 ce q9 u t H1 locs ht hvm hw hB hz1 hk1 hS hce hcv hcl => ?_) (fun u t H1 locs ht hvm hw hB hz1 hk1 hS => ?_)
  · obtain ⟨rfl, hP1, hD1⟩ := hB
    rw [ht] at hP1
    obtain ⟨hP, hD⟩ := va_join (wr := [(o0, .inl (cy 1, 1, .inr (.inl ((fun _ => 0)))))]) (w1 := []) hP hD [0, 1, 2] [3] rfl rfl (by decide) (by decide) hk1 hFc hP1 hD1
    generalize H1 = H at hP hS hce ⊢
    have hP : va_P (dC, dI) vwCl [(o0, .inl (cy 1, 1, .inr (.inl ((fun _ => 0)))))] _ := hP
    have hD : va_D A [(o0, .inl (cy 1, 1, .inr (.inl ((fun _ => 0)))))] := hD
    refine vx_catch (own := RL) (name := "java/lang/IndexOutOfBoundsException") hown [] { startPc := 0, endPc := 9, handlerPc := 12, catchType := 19 } [] htb (fun z hz => by cases hz) (by decide) (by decide) (hts _ tw_700) (va_Nw.use rfl (hE.2.2.2.2.2.1 _ (List.mem_of_getElem? (i := 0) rfl))) hce hcv hcl ?_
    refine lv_astore_n (lv' := [(3, .ref q9), (0, .ref a0), (1, .int p1), (2, .ref o0)]) hx hb dL_onLink_12 rfl hl (by decide) rfl (fun ls hl => ?_)
    refine lv_iconst (v := 1) hx hb dL_onLink_13 (by decide) ?_
    refine W.widen (k := 1) (n := 6) (Nat.le_of_ble_eq_true rfl) (Nat.le_of_ble_eq_true rfl) ?_
    refine vx_ret ?_
    have hP9 := hP.sub (ws' := [(o0, .inl (cy 1, 1, .inr (.inl ((fun _ => 0)))))]) [0] rfl
    have hD9 := hD.sub (ws' := [(o0, .inl (cy 1, 1, .inr (.inl ((fun _ => 0)))))]) [0] (by decide) rfl
    exact W.iret (v := 1) hx hb hr (fun t ht hW => ⟨⟨1, 1, rfl, rfl, ⟨(by first | exact pk_uLs | rfl | assumption), by rw [ht]; exact hP9, hD9⟩⟩, hS.F ht⟩) hS.2.2 dL_onLink_14
  · exact hw.elim
set_option maxRecDepth 100000 in
set_option maxHeartbeats 4000000 in
/-- vehicleAt -/
theorem tm_L_vehicleAt (l : Launch) (hst : l.stackTraces = false) (dC : Nat → ClassId) (dI : Nat → Nat → Nat) (cy : Nat → ClassId) (a0 : Nat) (a1 : Nat) (a2 : Nat) (aT : Nat) (b1 : Nat) (b2 : Nat) (b3 : Nat) (b4 : Nat) (b5 : Nat) (b6 : Nat) (b7 : Nat) (o0 : Nat) (p1 : Int32) (p2 : Int32) (sz : Nat) : vx_Met l yL_vehicleAt (tp_wW yL_vehicleAt cL_vehicleAt 5 (some .int) [(0, 10, 13, 19)]) ({ frames := 8, cells := 1, slots := 6, locals := 127 }) (va_Pc [.ref a0, .int p1, .int p2, .ref o0] (tp_Pre dC dI cy [(a0, .inr (8, [.ref a1, .ref aT])), (a1, .inr (5, [.ref a2, .ref b1, .ref b2, .ref b3, .ref b4, .ref b5, .int 0, .int 1, .int 0, .int 0, .int 0, .int 0])), (a2, .inr (2, [.ref b6, .int 0, .ref b7, .int 0])), (o0, .inl (cy 1, 1, .inr (.inl ((fun _ => 0)))))] sz)) (va_Qi (fun (r u : Int32) => r = u) (fun (u : Int32) (t : State) => (u = 1) ∧ tp_Post dC dI (va_A [(a0, .inr (8, [.ref a1, .ref aT])), (a1, .inr (5, [.ref a2, .ref b1, .ref b2, .ref b3, .ref b4, .ref b5, .int 0, .int 1, .int 0, .int 0, .int 0, .int 0])), (a2, .inr (2, [.ref b6, .int 0, .ref b7, .int 0])), (o0, .inl (cy 1, 1, .inr (.inl ((fun _ => 0)))))] sz) [(o0, .inl (cy 1, 1, .inr (.inl ((fun _ => 0)))))] t) (va_A [(a0, .inr (8, [.ref a1, .ref aT])), (a1, .inr (5, [.ref a2, .ref b1, .ref b2, .ref b3, .ref b4, .ref b5, .int 0, .int 1, .int 0, .int 0, .int 0, .int 0])), (a2, .inr (2, [.ref b6, .int 0, .ref b7, .int 0])), (o0, .inl (cy 1, 1, .inr (.inl ((fun _ => 0)))))] sz)) (vx_X (fun _ : Unit => True) (fun (E : String) (_ : Unit) (t : State) => (False) ∧ tp_Post dC dI (va_A [(a0, .inr (8, [.ref a1, .ref aT])), (a1, .inr (5, [.ref a2, .ref b1, .ref b2, .ref b3, .ref b4, .ref b5, .int 0, .int 1, .int 0, .int 0, .int 0, .int 0])), (a2, .inr (2, [.ref b6, .int 0, .ref b7, .int 0])), (o0, .inl (cy 1, 1, .inr (.inl ((fun _ => 0)))))] sz) [] t) (va_A [(a0, .inr (8, [.ref a1, .ref aT])), (a1, .inr (5, [.ref a2, .ref b1, .ref b2, .ref b3, .ref b4, .ref b5, .int 0, .int 1, .int 0, .int 0, .int 0, .int 0])), (a2, .inr (2, [.ref b6, .int 0, .ref b7, .int 0])), (o0, .inl (cy 1, 1, .inr (.inl ((fun _ => 0)))))] sz)) 1 6 (va_A [(a0, .inr (8, [.ref a1, .ref aT])), (a1, .inr (5, [.ref a2, .ref b1, .ref b2, .ref b3, .ref b4, .ref b5, .int 0, .int 1, .int 0, .int 0, .int 0, .int 0])), (a2, .inr (2, [.ref b6, .int 0, .ref b7, .int 0])), (o0, .inl (cy 1, 1, .inr (.inl ((fun _ => 0)))))] sz) := by
  refine vx_ofWH (cc := cL_vehicleAt) (maxL := 5) (ret := (some .int)) (hh := [(0, 10, 13, 19)]) (by decide) rfl ?_
  intro p e s m args below meth c s₁ B hml hv
  obtain ⟨rfl, hsz, hP, hK, hD0, hE, hZ⟩ := hv
  have hx := B.exec
  have hb := B.bytes
  have hr := B.returns
  have hts0 := atoms_spec (ws := tp_wW yL_vehicleAt cL_vehicleAt 5 (some .int) [(0, 10, 13, 19)]) B.pre
  have hts : ∀ w ∈ tp_all, w.before _ s = true := fun w h => hts0 w (List.mem_cons_of_mem _ h)
  have htb : c.exceptionTable.toList = tableOf [(0, 10, 13, 19)] := vx_table (x := yL_vehicleAt) B (hts0 _ List.mem_cons_self)
  have hown : s.vm.findClass RL = some m.cls := findClass_of_methodNamed B.named
  have hlocks := B.notSynchronized
  subst hsz
  have hD := hD0.self (sz := s.heap.size)
  generalize hAe : va_A [(a0, .inr (8, [.ref a1, .ref aT])), (a1, .inr (5, [.ref a2, .ref b1, .ref b2, .ref b3, .ref b4, .ref b5, .int 0, .int 1, .int 0, .int 0, .int 0, .int 0])), (a2, .inr (2, [.ref b6, .int 0, .ref b7, .int 0])), (o0, .inl (cy 1, 1, .inr (.inl ((fun _ => 0)))))] s.heap.size = A at hD hZ ⊢
  have hA : ∀ q : Nat, s.heap.size ≤ q → A q := fun q h => by rw [← hAe]; exact Or.inr h
  have hS : va_S A s.heap s.heap [] := va_S.rf
  have hl9 := lv_entry ([.ref a0, .int p1, .int p2, .ref o0]) (n := 5) (Nat.le_of_ble_eq_true rfl)
  rw [lg_entry_eq]
  generalize (lg_sl ([.ref a0, .int p1, .int p2, .ref o0]) ++ List.replicate (5 - (lg_sl ([.ref a0, .int p1, .int p2, .ref o0])).length) Slot.unset).toArray = ls at hl9 ⊢
  have hl : lv_has ls 5 [(0, .ref a0), (1, .int p1), (2, .int p2), (3, .ref o0)] := hl9
  refine lv_aload_n hx hb dL_vehicleAt_0 rfl (lv_at hl 3 rfl) ?_
  refine lv_iconst (v := 0) hx hb dL_vehicleAt_1 (by decide) ?_
  refine lv_aload_n hx hb dL_vehicleAt_2 rfl (lv_at hl 0 rfl) ?_
  refine lv_iload_n hx hb dL_vehicleAt_3 rfl (lv_at hl 1 rfl) ?_
  refine lv_iload_n hx hb dL_vehicleAt_4 rfl (lv_at hl 2 rfl) ?_
  have hFc := va_free (wc := [(a0, .inr (8, [.ref a1, .ref aT])), (a1, .inr (5, [.ref a2, .ref b1, .ref b2, .ref b3, .ref b4, .ref b5, .int 0, .int 1, .int 0, .int 0, .int 0, .int 0])), (a2, .inr (2, [.ref b6, .int 0, .ref b7, .int 0]))]) hD hS hA [0, 1, 2] rfl
  refine vx_callv (vx_runV (As := [.int p1, .int p2]) (rest := [.int 0, .ref o0]) ⟨hx, hb, hml, hown, hts⟩ (tm_vehicleAt l hst dC dI cy a0 a1 a2 aT b1 b2 b3 b4 b5 b6 b7 p1 p2 s.heap.size) (tp_cwV 2 hts tw_1051 tw_586 tw_587 tw_38 tw_588 rfl rfl (by decide +kernel) ⟨Nat.le_of_ble_eq_true rfl, Nat.le_of_ble_eq_true rfl⟩) ⟨tp_blind, va_recv hK hP (ci := 8) (q0 := 0) rfl rfl, fun U hU hW => ⟨rfl, tp_pay hK hP hD hE hZ hS [0, 1, 2] (by decide) rfl hFc U hU hW⟩⟩ rfl rfl hl.1 rfl (lv_room (Nat.le_of_ble_eq_true rfl)) dL_vehicleAt_5 ⟨(Nat.le_of_ble_eq_true rfl), (Nat.le_of_ble_eq_true rfl)⟩) hS (fun q _ h => hFc q h) hFc (fun q _ h => hFc q h) (fun E9 ce q9 u t H1 locs ht hvm hw hB hz1 hk1 hS hce hcv hcl => ?_) (fun u t H1 locs ht hvm hw hB hz1 hk1 hS => ?_)
  · obtain ⟨rfl, hP1, hD1⟩ := hB
    rw [ht] at hP1
    obtain ⟨hP, hD⟩ := va_join (wr := [(o0, .inl (cy 1, 1, .inr (.inl ((fun _ => 0)))))]) (w1 := []) hP hD [0, 1, 2] [3] rfl rfl (by decide) (by decide) hk1 hFc hP1 hD1
    generalize H1 = H at hP hS hce ⊢
    have hP : va_P (dC, dI) vwCl [(o0, .inl (cy 1, 1, .inr (.inl ((fun _ => 0)))))] _ := hP
    have hD : va_D A [(o0, .inl (cy 1, 1, .inr (.inl ((fun _ => 0)))))] := hD
    refine vx_catch (own := RL) (name := "java/lang/IndexOutOfBoundsException") hown [] { startPc := 0, endPc := 10, handlerPc := 13, catchType := 19 } [] htb (fun z hz => by cases hz) (by decide) (by decide) (hts _ tw_700) (va_Nw.use rfl (hE.2.2.2.2.2.1 _ (List.mem_of_getElem? (i := 0) rfl))) hce hcv hcl ?_
    refine lv_astore (lv' := [(4, .ref q9), (0, .ref a0), (1, .int p1), (2, .int p2), (3, .ref o0)]) hx hb dL_vehicleAt_13 hl (by decide) rfl (fun ls hl => ?_)
    refine lv_iconst (v := 1) hx hb dL_vehicleAt_15 (by decide) ?_
    refine W.widen (k := 1) (n := 6) (Nat.le_of_ble_eq_true rfl) (Nat.le_of_ble_eq_true rfl) ?_
    refine vx_ret ?_
    have hP9 := hP.sub (ws' := [(o0, .inl (cy 1, 1, .inr (.inl ((fun _ => 0)))))]) [0] rfl
    have hD9 := hD.sub (ws' := [(o0, .inl (cy 1, 1, .inr (.inl ((fun _ => 0)))))]) [0] (by decide) rfl
    exact W.iret (v := 1) hx hb hr (fun t ht hW => ⟨⟨1, 1, rfl, rfl, ⟨(by first | exact pk_uLs | rfl | assumption), by rw [ht]; exact hP9, hD9⟩⟩, hS.F ht⟩) hS.2.2 dL_vehicleAt_16
  · exact hw.elim
set_option maxRecDepth 100000 in
set_option maxHeartbeats 4000000 in
/-- queue -/
theorem tm_L_queue (l : Launch) (hst : l.stackTraces = false) (dC : Nat → ClassId) (dI : Nat → Nat → Nat) (cy : Nat → ClassId) (a0 : Nat) (a1 : Nat) (a2 : Nat) (aT : Nat) (b1 : Nat) (b2 : Nat) (b3 : Nat) (b4 : Nat) (b5 : Nat) (b6 : Nat) (b7 : Nat) (o0 : Nat) (p1 : Int32) (sz : Nat) : vx_Met l yL_queue (tp_wW yL_queue cL_queue 4 (some .int) [(0, 9, 12, 19)]) ({ frames := 8, cells := 1, slots := 6, locals := 125 }) (va_Pc [.ref a0, .int p1, .ref o0] (tp_Pre dC dI cy [(a0, .inr (8, [.ref a1, .ref aT])), (a1, .inr (5, [.ref a2, .ref b1, .ref b2, .ref b3, .ref b4, .ref b5, .int 0, .int 1, .int 0, .int 0, .int 0, .int 0])), (a2, .inr (2, [.ref b6, .int 0, .ref b7, .int 0])), (o0, .inl (cy 1, 1, .inr (.inl ((fun _ => 0)))))] sz)) (va_Qi (fun (r u : Int32) => r = u) (fun (u : Int32) (t : State) => (u = 1) ∧ tp_Post dC dI (va_A [(a0, .inr (8, [.ref a1, .ref aT])), (a1, .inr (5, [.ref a2, .ref b1, .ref b2, .ref b3, .ref b4, .ref b5, .int 0, .int 1, .int 0, .int 0, .int 0, .int 0])), (a2, .inr (2, [.ref b6, .int 0, .ref b7, .int 0])), (o0, .inl (cy 1, 1, .inr (.inl ((fun _ => 0)))))] sz) [(o0, .inl (cy 1, 1, .inr (.inl ((fun _ => 0)))))] t) (va_A [(a0, .inr (8, [.ref a1, .ref aT])), (a1, .inr (5, [.ref a2, .ref b1, .ref b2, .ref b3, .ref b4, .ref b5, .int 0, .int 1, .int 0, .int 0, .int 0, .int 0])), (a2, .inr (2, [.ref b6, .int 0, .ref b7, .int 0])), (o0, .inl (cy 1, 1, .inr (.inl ((fun _ => 0)))))] sz)) (vx_X (fun _ : Unit => True) (fun (E : String) (_ : Unit) (t : State) => (False) ∧ tp_Post dC dI (va_A [(a0, .inr (8, [.ref a1, .ref aT])), (a1, .inr (5, [.ref a2, .ref b1, .ref b2, .ref b3, .ref b4, .ref b5, .int 0, .int 1, .int 0, .int 0, .int 0, .int 0])), (a2, .inr (2, [.ref b6, .int 0, .ref b7, .int 0])), (o0, .inl (cy 1, 1, .inr (.inl ((fun _ => 0)))))] sz) [] t) (va_A [(a0, .inr (8, [.ref a1, .ref aT])), (a1, .inr (5, [.ref a2, .ref b1, .ref b2, .ref b3, .ref b4, .ref b5, .int 0, .int 1, .int 0, .int 0, .int 0, .int 0])), (a2, .inr (2, [.ref b6, .int 0, .ref b7, .int 0])), (o0, .inl (cy 1, 1, .inr (.inl ((fun _ => 0)))))] sz)) 1 6 (va_A [(a0, .inr (8, [.ref a1, .ref aT])), (a1, .inr (5, [.ref a2, .ref b1, .ref b2, .ref b3, .ref b4, .ref b5, .int 0, .int 1, .int 0, .int 0, .int 0, .int 0])), (a2, .inr (2, [.ref b6, .int 0, .ref b7, .int 0])), (o0, .inl (cy 1, 1, .inr (.inl ((fun _ => 0)))))] sz) := by
  refine vx_ofWH (cc := cL_queue) (maxL := 4) (ret := (some .int)) (hh := [(0, 9, 12, 19)]) (by decide) rfl ?_
  intro p e s m args below meth c s₁ B hml hv
  obtain ⟨rfl, hsz, hP, hK, hD0, hE, hZ⟩ := hv
  have hx := B.exec
  have hb := B.bytes
  have hr := B.returns
  have hts0 := atoms_spec (ws := tp_wW yL_queue cL_queue 4 (some .int) [(0, 9, 12, 19)]) B.pre
  have hts : ∀ w ∈ tp_all, w.before _ s = true := fun w h => hts0 w (List.mem_cons_of_mem _ h)
  have htb : c.exceptionTable.toList = tableOf [(0, 9, 12, 19)] := vx_table (x := yL_queue) B (hts0 _ List.mem_cons_self)
  have hown : s.vm.findClass RL = some m.cls := findClass_of_methodNamed B.named
  have hlocks := B.notSynchronized
  subst hsz
  have hD := hD0.self (sz := s.heap.size)
  generalize hAe : va_A [(a0, .inr (8, [.ref a1, .ref aT])), (a1, .inr (5, [.ref a2, .ref b1, .ref b2, .ref b3, .ref b4, .ref b5, .int 0, .int 1, .int 0, .int 0, .int 0, .int 0])), (a2, .inr (2, [.ref b6, .int 0, .ref b7, .int 0])), (o0, .inl (cy 1, 1, .inr (.inl ((fun _ => 0)))))] s.heap.size = A at hD hZ ⊢
  have hA : ∀ q : Nat, s.heap.size ≤ q → A q := fun q h => by rw [← hAe]; exact Or.inr h
  have hS : va_S A s.heap s.heap [] := va_S.rf
  have hl9 := lv_entry ([.ref a0, .int p1, .ref o0]) (n := 4) (Nat.le_of_ble_eq_true rfl)
  rw [lg_entry_eq]
  generalize (lg_sl ([.ref a0, .int p1, .ref o0]) ++ List.replicate (4 - (lg_sl ([.ref a0, .int p1, .ref o0])).length) Slot.unset).toArray = ls at hl9 ⊢
  have hl : lv_has ls 4 [(0, .ref a0), (1, .int p1), (2, .ref o0)] := hl9
  refine lv_aload_n hx hb dL_queue_0 rfl (lv_at hl 2 rfl) ?_
  refine lv_iconst (v := 0) hx hb dL_queue_1 (by decide) ?_
  refine lv_aload_n hx hb dL_queue_2 rfl (lv_at hl 0 rfl) ?_
  refine lv_iload_n hx hb dL_queue_3 rfl (lv_at hl 1 rfl) ?_
  have hFc := va_free (wc := [(a0, .inr (8, [.ref a1, .ref aT])), (a1, .inr (5, [.ref a2, .ref b1, .ref b2, .ref b3, .ref b4, .ref b5, .int 0, .int 1, .int 0, .int 0, .int 0, .int 0])), (a2, .inr (2, [.ref b6, .int 0, .ref b7, .int 0]))]) hD hS hA [0, 1, 2] rfl
  refine vx_callv (vx_runV (As := [.int p1]) (rest := [.int 0, .ref o0]) ⟨hx, hb, hml, hown, hts⟩ (tm_queue l hst dC dI cy a0 a1 a2 aT b1 b2 b3 b4 b5 b6 b7 p1 s.heap.size) (tp_cwV 1 hts tw_1055 tw_595 tw_596 tw_38 tw_597 rfl rfl (by decide +kernel) ⟨Nat.le_of_ble_eq_true rfl, Nat.le_of_ble_eq_true rfl⟩) ⟨tp_blind, va_recv hK hP (ci := 8) (q0 := 0) rfl rfl, fun U hU hW => ⟨rfl, tp_pay hK hP hD hE hZ hS [0, 1, 2] (by decide) rfl hFc U hU hW⟩⟩ rfl rfl hl.1 rfl (lv_room (Nat.le_of_ble_eq_true rfl)) dL_queue_4 ⟨(Nat.le_of_ble_eq_true rfl), (Nat.le_of_ble_eq_true rfl)⟩) hS (fun q _ h => hFc q h) hFc (fun q _ h => hFc q h) (fun E9 ce q9 u t H1 locs ht hvm hw hB hz1 hk1 hS hce hcv hcl => ?_) (fun u t H1 locs ht hvm hw hB hz1 hk1 hS => ?_)
  · obtain ⟨rfl, hP1, hD1⟩ := hB
    rw [ht] at hP1
    obtain ⟨hP, hD⟩ := va_join (wr := [(o0, .inl (cy 1, 1, .inr (.inl ((fun _ => 0)))))]) (w1 := []) hP hD [0, 1, 2] [3] rfl rfl (by decide) (by decide) hk1 hFc hP1 hD1
    generalize H1 = H at hP hS hce ⊢
    have hP : va_P (dC, dI) vwCl [(o0, .inl (cy 1, 1, .inr (.inl ((fun _ => 0)))))] _ := hP
    have hD : va_D A [(o0, .inl (cy 1, 1, .inr (.inl ((fun _ => 0)))))] := hD
    refine vx_catch (own := RL) (name := "java/lang/IndexOutOfBoundsException") hown [] { startPc := 0, endPc := 9, handlerPc := 12, catchType := 19 } [] htb (fun z hz => by cases hz) (by decide) (by decide) (hts _ tw_700) (va_Nw.use rfl (hE.2.2.2.2.2.1 _ (List.mem_of_getElem? (i := 0) rfl))) hce hcv hcl ?_
    refine lv_astore_n (lv' := [(3, .ref q9), (0, .ref a0), (1, .int p1), (2, .ref o0)]) hx hb dL_queue_12 rfl hl (by decide) rfl (fun ls hl => ?_)
    refine lv_iconst (v := 1) hx hb dL_queue_13 (by decide) ?_
    refine W.widen (k := 1) (n := 6) (Nat.le_of_ble_eq_true rfl) (Nat.le_of_ble_eq_true rfl) ?_
    refine vx_ret ?_
    have hP9 := hP.sub (ws' := [(o0, .inl (cy 1, 1, .inr (.inl ((fun _ => 0)))))]) [0] rfl
    have hD9 := hD.sub (ws' := [(o0, .inl (cy 1, 1, .inr (.inl ((fun _ => 0)))))]) [0] (by decide) rfl
    exact W.iret (v := 1) hx hb hr (fun t ht hW => ⟨⟨1, 1, rfl, rfl, ⟨(by first | exact pk_uLs | rfl | assumption), by rw [ht]; exact hP9, hD9⟩⟩, hS.F ht⟩) hS.2.2 dL_queue_14
  · exact hw.elim
set_option maxRecDepth 100000 in
set_option maxHeartbeats 4000000 in
/-- count -/
theorem tm_L_count (l : Launch) (hst : l.stackTraces = false) (dC : Nat → ClassId) (dI : Nat → Nat → Nat) (cy : Nat → ClassId) (a0 : Nat) (a1 : Nat) (a2 : Nat) (aT : Nat) (b1 : Nat) (b2 : Nat) (b3 : Nat) (b4 : Nat) (b5 : Nat) (b6 : Nat) (b7 : Nat) (o0 : Nat) (p1 : Int32) (p2 : Int32) (sz : Nat) : vx_Met l yL_count (tp_wW yL_count cL_count 5 (some .int) [(0, 10, 13, 19), (0, 10, 17, 21)]) ({ frames := 8, cells := 1, slots := 6, locals := 127 }) (va_Pc [.ref a0, .int p1, .int p2, .ref o0] (tp_Pre dC dI cy [(a0, .inr (8, [.ref a1, .ref aT])), (a1, .inr (5, [.ref a2, .ref b1, .ref b2, .ref b3, .ref b4, .ref b5, .int 0, .int 1, .int 0, .int 0, .int 0, .int 0])), (a2, .inr (2, [.ref b6, .int 0, .ref b7, .int 0])), (o0, .inl (cy 1, 1, .inr (.inl ((fun _ => 0)))))] sz)) (va_Qi (fun (r u : Int32) => r = u) (fun (u : Int32) (t : State) => (u = 1) ∧ tp_Post dC dI (va_A [(a0, .inr (8, [.ref a1, .ref aT])), (a1, .inr (5, [.ref a2, .ref b1, .ref b2, .ref b3, .ref b4, .ref b5, .int 0, .int 1, .int 0, .int 0, .int 0, .int 0])), (a2, .inr (2, [.ref b6, .int 0, .ref b7, .int 0])), (o0, .inl (cy 1, 1, .inr (.inl ((fun _ => 0)))))] sz) [(o0, .inl (cy 1, 1, .inr (.inl ((fun _ => 0)))))] t) (va_A [(a0, .inr (8, [.ref a1, .ref aT])), (a1, .inr (5, [.ref a2, .ref b1, .ref b2, .ref b3, .ref b4, .ref b5, .int 0, .int 1, .int 0, .int 0, .int 0, .int 0])), (a2, .inr (2, [.ref b6, .int 0, .ref b7, .int 0])), (o0, .inl (cy 1, 1, .inr (.inl ((fun _ => 0)))))] sz)) (vx_X (fun _ : Unit => True) (fun (E : String) (_ : Unit) (t : State) => (False) ∧ tp_Post dC dI (va_A [(a0, .inr (8, [.ref a1, .ref aT])), (a1, .inr (5, [.ref a2, .ref b1, .ref b2, .ref b3, .ref b4, .ref b5, .int 0, .int 1, .int 0, .int 0, .int 0, .int 0])), (a2, .inr (2, [.ref b6, .int 0, .ref b7, .int 0])), (o0, .inl (cy 1, 1, .inr (.inl ((fun _ => 0)))))] sz) [] t) (va_A [(a0, .inr (8, [.ref a1, .ref aT])), (a1, .inr (5, [.ref a2, .ref b1, .ref b2, .ref b3, .ref b4, .ref b5, .int 0, .int 1, .int 0, .int 0, .int 0, .int 0])), (a2, .inr (2, [.ref b6, .int 0, .ref b7, .int 0])), (o0, .inl (cy 1, 1, .inr (.inl ((fun _ => 0)))))] sz)) 1 6 (va_A [(a0, .inr (8, [.ref a1, .ref aT])), (a1, .inr (5, [.ref a2, .ref b1, .ref b2, .ref b3, .ref b4, .ref b5, .int 0, .int 1, .int 0, .int 0, .int 0, .int 0])), (a2, .inr (2, [.ref b6, .int 0, .ref b7, .int 0])), (o0, .inl (cy 1, 1, .inr (.inl ((fun _ => 0)))))] sz) := by
  refine vx_ofWH (cc := cL_count) (maxL := 5) (ret := (some .int)) (hh := [(0, 10, 13, 19), (0, 10, 17, 21)]) (by decide) rfl ?_
  intro p e s m args below meth c s₁ B hml hv
  obtain ⟨rfl, hsz, hP, hK, hD0, hE, hZ⟩ := hv
  have hx := B.exec
  have hb := B.bytes
  have hr := B.returns
  have hts0 := atoms_spec (ws := tp_wW yL_count cL_count 5 (some .int) [(0, 10, 13, 19), (0, 10, 17, 21)]) B.pre
  have hts : ∀ w ∈ tp_all, w.before _ s = true := fun w h => hts0 w (List.mem_cons_of_mem _ h)
  have htb : c.exceptionTable.toList = tableOf [(0, 10, 13, 19), (0, 10, 17, 21)] := vx_table (x := yL_count) B (hts0 _ List.mem_cons_self)
  have hown : s.vm.findClass RL = some m.cls := findClass_of_methodNamed B.named
  have hlocks := B.notSynchronized
  subst hsz
  have hD := hD0.self (sz := s.heap.size)
  generalize hAe : va_A [(a0, .inr (8, [.ref a1, .ref aT])), (a1, .inr (5, [.ref a2, .ref b1, .ref b2, .ref b3, .ref b4, .ref b5, .int 0, .int 1, .int 0, .int 0, .int 0, .int 0])), (a2, .inr (2, [.ref b6, .int 0, .ref b7, .int 0])), (o0, .inl (cy 1, 1, .inr (.inl ((fun _ => 0)))))] s.heap.size = A at hD hZ ⊢
  have hA : ∀ q : Nat, s.heap.size ≤ q → A q := fun q h => by rw [← hAe]; exact Or.inr h
  have hS : va_S A s.heap s.heap [] := va_S.rf
  have hl9 := lv_entry ([.ref a0, .int p1, .int p2, .ref o0]) (n := 5) (Nat.le_of_ble_eq_true rfl)
  rw [lg_entry_eq]
  generalize (lg_sl ([.ref a0, .int p1, .int p2, .ref o0]) ++ List.replicate (5 - (lg_sl ([.ref a0, .int p1, .int p2, .ref o0])).length) Slot.unset).toArray = ls at hl9 ⊢
  have hl : lv_has ls 5 [(0, .ref a0), (1, .int p1), (2, .int p2), (3, .ref o0)] := hl9
  refine lv_aload_n hx hb dL_count_0 rfl (lv_at hl 3 rfl) ?_
  refine lv_iconst (v := 0) hx hb dL_count_1 (by decide) ?_
  refine lv_aload_n hx hb dL_count_2 rfl (lv_at hl 0 rfl) ?_
  refine lv_iload_n hx hb dL_count_3 rfl (lv_at hl 1 rfl) ?_
  refine lv_iload_n hx hb dL_count_4 rfl (lv_at hl 2 rfl) ?_
  have hFc := va_free (wc := [(a0, .inr (8, [.ref a1, .ref aT])), (a1, .inr (5, [.ref a2, .ref b1, .ref b2, .ref b3, .ref b4, .ref b5, .int 0, .int 1, .int 0, .int 0, .int 0, .int 0])), (a2, .inr (2, [.ref b6, .int 0, .ref b7, .int 0]))]) hD hS hA [0, 1, 2] rfl
  refine vx_callv (vx_runV (As := [.int p1, .int p2]) (rest := [.int 0, .ref o0]) ⟨hx, hb, hml, hown, hts⟩ (tm_count l hst dC dI cy a0 a1 a2 aT b1 b2 b3 b4 b5 b6 b7 p1 p2 s.heap.size) (tp_cwV 2 hts tw_1059 tw_604 tw_605 tw_38 tw_606 rfl rfl (by decide +kernel) ⟨Nat.le_of_ble_eq_true rfl, Nat.le_of_ble_eq_true rfl⟩) ⟨tp_blind, va_recv hK hP (ci := 8) (q0 := 0) rfl rfl, fun U hU hW => ⟨rfl, tp_pay hK hP hD hE hZ hS [0, 1, 2] (by decide) rfl hFc U hU hW⟩⟩ rfl rfl hl.1 rfl (lv_room (Nat.le_of_ble_eq_true rfl)) dL_count_5 ⟨(Nat.le_of_ble_eq_true rfl), (Nat.le_of_ble_eq_true rfl)⟩) hS (fun q _ h => hFc q h) hFc (fun q _ h => hFc q h) (fun E9 ce q9 u t H1 locs ht hvm hw hB hz1 hk1 hS hce hcv hcl => ?_) (fun u t H1 locs ht hvm hw hB hz1 hk1 hS => ?_)
  · obtain ⟨rfl, hP1, hD1⟩ := hB
    rw [ht] at hP1
    obtain ⟨hP, hD⟩ := va_join (wr := [(o0, .inl (cy 1, 1, .inr (.inl ((fun _ => 0)))))]) (w1 := []) hP hD [0, 1, 2] [3] rfl rfl (by decide) (by decide) hk1 hFc hP1 hD1
    generalize H1 = H at hP hS hce ⊢
    have hP : va_P (dC, dI) vwCl [(o0, .inl (cy 1, 1, .inr (.inl ((fun _ => 0)))))] _ := hP
    have hD : va_D A [(o0, .inl (cy 1, 1, .inr (.inl ((fun _ => 0)))))] := hD
    refine vx_catch (own := RL) (name := "java/lang/IndexOutOfBoundsException") hown [] { startPc := 0, endPc := 10, handlerPc := 13, catchType := 19 } [{ startPc := 0, endPc := 10, handlerPc := 17, catchType := 21 }] htb (fun z hz => by cases hz) (by decide) (by decide) (hts _ tw_700) (va_Nw.use rfl (hE.2.2.2.2.2.1 _ (List.mem_of_getElem? (i := 0) rfl))) hce hcv hcl ?_
    refine lv_astore (lv' := [(4, .ref q9), (0, .ref a0), (1, .int p1), (2, .int p2), (3, .ref o0)]) hx hb dL_count_13 hl (by decide) rfl (fun ls hl => ?_)
    refine lv_iconst (v := 1) hx hb dL_count_15 (by decide) ?_
    refine W.widen (k := 1) (n := 6) (Nat.le_of_ble_eq_true rfl) (Nat.le_of_ble_eq_true rfl) ?_
    refine vx_ret ?_
    have hP9 := hP.sub (ws' := [(o0, .inl (cy 1, 1, .inr (.inl ((fun _ => 0)))))]) [0] rfl
    have hD9 := hD.sub (ws' := [(o0, .inl (cy 1, 1, .inr (.inl ((fun _ => 0)))))]) [0] (by decide) rfl
    exact W.iret (v := 1) hx hb hr (fun t ht hW => ⟨⟨1, 1, rfl, rfl, ⟨(by first | exact pk_uLs | rfl | assumption), by rw [ht]; exact hP9, hD9⟩⟩, hS.F ht⟩) hS.2.2 dL_count_16
  · exact hw.elim
set_option maxRecDepth 100000 in
set_option maxHeartbeats 4000000 in
/-- turned -/
theorem tm_L_turned (l : Launch) (hst : l.stackTraces = false) (dC : Nat → ClassId) (dI : Nat → Nat → Nat) (cy : Nat → ClassId) (a0 : Nat) (a1 : Nat) (a2 : Nat) (aT : Nat) (b1 : Nat) (b2 : Nat) (b3 : Nat) (b4 : Nat) (b5 : Nat) (b6 : Nat) (b7 : Nat) (o0 : Nat) (p1 : Int32) (p2 : Int32) (sz : Nat) : vx_Met l yL_turned (tp_wW yL_turned cL_turned 5 (some .int) [(0, 10, 13, 19)]) ({ frames := 8, cells := 1, slots := 6, locals := 127 }) (va_Pc [.ref a0, .int p1, .int p2, .ref o0] (tp_Pre dC dI cy [(a0, .inr (8, [.ref a1, .ref aT])), (a1, .inr (5, [.ref a2, .ref b1, .ref b2, .ref b3, .ref b4, .ref b5, .int 0, .int 1, .int 0, .int 0, .int 0, .int 0])), (a2, .inr (2, [.ref b6, .int 0, .ref b7, .int 0])), (o0, .inl (cy 1, 1, .inr (.inl ((fun _ => 0)))))] sz)) (va_Qi (fun (r u : Int32) => r = u) (fun (u : Int32) (t : State) => (u = 1) ∧ tp_Post dC dI (va_A [(a0, .inr (8, [.ref a1, .ref aT])), (a1, .inr (5, [.ref a2, .ref b1, .ref b2, .ref b3, .ref b4, .ref b5, .int 0, .int 1, .int 0, .int 0, .int 0, .int 0])), (a2, .inr (2, [.ref b6, .int 0, .ref b7, .int 0])), (o0, .inl (cy 1, 1, .inr (.inl ((fun _ => 0)))))] sz) [(o0, .inl (cy 1, 1, .inr (.inl ((fun _ => 0)))))] t) (va_A [(a0, .inr (8, [.ref a1, .ref aT])), (a1, .inr (5, [.ref a2, .ref b1, .ref b2, .ref b3, .ref b4, .ref b5, .int 0, .int 1, .int 0, .int 0, .int 0, .int 0])), (a2, .inr (2, [.ref b6, .int 0, .ref b7, .int 0])), (o0, .inl (cy 1, 1, .inr (.inl ((fun _ => 0)))))] sz)) (vx_X (fun _ : Unit => True) (fun (E : String) (_ : Unit) (t : State) => (False) ∧ tp_Post dC dI (va_A [(a0, .inr (8, [.ref a1, .ref aT])), (a1, .inr (5, [.ref a2, .ref b1, .ref b2, .ref b3, .ref b4, .ref b5, .int 0, .int 1, .int 0, .int 0, .int 0, .int 0])), (a2, .inr (2, [.ref b6, .int 0, .ref b7, .int 0])), (o0, .inl (cy 1, 1, .inr (.inl ((fun _ => 0)))))] sz) [] t) (va_A [(a0, .inr (8, [.ref a1, .ref aT])), (a1, .inr (5, [.ref a2, .ref b1, .ref b2, .ref b3, .ref b4, .ref b5, .int 0, .int 1, .int 0, .int 0, .int 0, .int 0])), (a2, .inr (2, [.ref b6, .int 0, .ref b7, .int 0])), (o0, .inl (cy 1, 1, .inr (.inl ((fun _ => 0)))))] sz)) 1 6 (va_A [(a0, .inr (8, [.ref a1, .ref aT])), (a1, .inr (5, [.ref a2, .ref b1, .ref b2, .ref b3, .ref b4, .ref b5, .int 0, .int 1, .int 0, .int 0, .int 0, .int 0])), (a2, .inr (2, [.ref b6, .int 0, .ref b7, .int 0])), (o0, .inl (cy 1, 1, .inr (.inl ((fun _ => 0)))))] sz) := by
  refine vx_ofWH (cc := cL_turned) (maxL := 5) (ret := (some .int)) (hh := [(0, 10, 13, 19)]) (by decide) rfl ?_
  intro p e s m args below meth c s₁ B hml hv
  obtain ⟨rfl, hsz, hP, hK, hD0, hE, hZ⟩ := hv
  have hx := B.exec
  have hb := B.bytes
  have hr := B.returns
  have hts0 := atoms_spec (ws := tp_wW yL_turned cL_turned 5 (some .int) [(0, 10, 13, 19)]) B.pre
  have hts : ∀ w ∈ tp_all, w.before _ s = true := fun w h => hts0 w (List.mem_cons_of_mem _ h)
  have htb : c.exceptionTable.toList = tableOf [(0, 10, 13, 19)] := vx_table (x := yL_turned) B (hts0 _ List.mem_cons_self)
  have hown : s.vm.findClass RL = some m.cls := findClass_of_methodNamed B.named
  have hlocks := B.notSynchronized
  subst hsz
  have hD := hD0.self (sz := s.heap.size)
  generalize hAe : va_A [(a0, .inr (8, [.ref a1, .ref aT])), (a1, .inr (5, [.ref a2, .ref b1, .ref b2, .ref b3, .ref b4, .ref b5, .int 0, .int 1, .int 0, .int 0, .int 0, .int 0])), (a2, .inr (2, [.ref b6, .int 0, .ref b7, .int 0])), (o0, .inl (cy 1, 1, .inr (.inl ((fun _ => 0)))))] s.heap.size = A at hD hZ ⊢
  have hA : ∀ q : Nat, s.heap.size ≤ q → A q := fun q h => by rw [← hAe]; exact Or.inr h
  have hS : va_S A s.heap s.heap [] := va_S.rf
  have hl9 := lv_entry ([.ref a0, .int p1, .int p2, .ref o0]) (n := 5) (Nat.le_of_ble_eq_true rfl)
  rw [lg_entry_eq]
  generalize (lg_sl ([.ref a0, .int p1, .int p2, .ref o0]) ++ List.replicate (5 - (lg_sl ([.ref a0, .int p1, .int p2, .ref o0])).length) Slot.unset).toArray = ls at hl9 ⊢
  have hl : lv_has ls 5 [(0, .ref a0), (1, .int p1), (2, .int p2), (3, .ref o0)] := hl9
  refine lv_aload_n hx hb dL_turned_0 rfl (lv_at hl 3 rfl) ?_
  refine lv_iconst (v := 0) hx hb dL_turned_1 (by decide) ?_
  refine lv_aload_n hx hb dL_turned_2 rfl (lv_at hl 0 rfl) ?_
  refine lv_iload_n hx hb dL_turned_3 rfl (lv_at hl 1 rfl) ?_
  refine lv_iload_n hx hb dL_turned_4 rfl (lv_at hl 2 rfl) ?_
  have hFc := va_free (wc := [(a0, .inr (8, [.ref a1, .ref aT])), (a1, .inr (5, [.ref a2, .ref b1, .ref b2, .ref b3, .ref b4, .ref b5, .int 0, .int 1, .int 0, .int 0, .int 0, .int 0])), (a2, .inr (2, [.ref b6, .int 0, .ref b7, .int 0]))]) hD hS hA [0, 1, 2] rfl
  refine vx_callv (vx_runV (As := [.int p1, .int p2]) (rest := [.int 0, .ref o0]) ⟨hx, hb, hml, hown, hts⟩ (tm_turned l hst dC dI cy a0 a1 a2 aT b1 b2 b3 b4 b5 b6 b7 p1 p2 s.heap.size) (tp_cwV 2 hts tw_1063 tw_624 tw_625 tw_38 tw_626 rfl rfl (by decide +kernel) ⟨Nat.le_of_ble_eq_true rfl, Nat.le_of_ble_eq_true rfl⟩) ⟨tp_blind, va_recv hK hP (ci := 8) (q0 := 0) rfl rfl, fun U hU hW => ⟨rfl, tp_pay hK hP hD hE hZ hS [0, 1, 2] (by decide) rfl hFc U hU hW⟩⟩ rfl rfl hl.1 rfl (lv_room (Nat.le_of_ble_eq_true rfl)) dL_turned_5 ⟨(Nat.le_of_ble_eq_true rfl), (Nat.le_of_ble_eq_true rfl)⟩) hS (fun q _ h => hFc q h) hFc (fun q _ h => hFc q h) (fun E9 ce q9 u t H1 locs ht hvm hw hB hz1 hk1 hS hce hcv hcl => ?_) (fun u t H1 locs ht hvm hw hB hz1 hk1 hS => ?_)
  · obtain ⟨rfl, hP1, hD1⟩ := hB
    rw [ht] at hP1
    obtain ⟨hP, hD⟩ := va_join (wr := [(o0, .inl (cy 1, 1, .inr (.inl ((fun _ => 0)))))]) (w1 := []) hP hD [0, 1, 2] [3] rfl rfl (by decide) (by decide) hk1 hFc hP1 hD1
    generalize H1 = H at hP hS hce ⊢
    have hP : va_P (dC, dI) vwCl [(o0, .inl (cy 1, 1, .inr (.inl ((fun _ => 0)))))] _ := hP
    have hD : va_D A [(o0, .inl (cy 1, 1, .inr (.inl ((fun _ => 0)))))] := hD
    refine vx_catch (own := RL) (name := "java/lang/IndexOutOfBoundsException") hown [] { startPc := 0, endPc := 10, handlerPc := 13, catchType := 19 } [] htb (fun z hz => by cases hz) (by decide) (by decide) (hts _ tw_700) (va_Nw.use rfl (hE.2.2.2.2.2.1 _ (List.mem_of_getElem? (i := 0) rfl))) hce hcv hcl ?_
    refine lv_astore (lv' := [(4, .ref q9), (0, .ref a0), (1, .int p1), (2, .int p2), (3, .ref o0)]) hx hb dL_turned_13 hl (by decide) rfl (fun ls hl => ?_)
    refine lv_iconst (v := 1) hx hb dL_turned_15 (by decide) ?_
    refine W.widen (k := 1) (n := 6) (Nat.le_of_ble_eq_true rfl) (Nat.le_of_ble_eq_true rfl) ?_
    refine vx_ret ?_
    have hP9 := hP.sub (ws' := [(o0, .inl (cy 1, 1, .inr (.inl ((fun _ => 0)))))]) [0] rfl
    have hD9 := hD.sub (ws' := [(o0, .inl (cy 1, 1, .inr (.inl ((fun _ => 0)))))]) [0] (by decide) rfl
    exact W.iret (v := 1) hx hb hr (fun t ht hW => ⟨⟨1, 1, rfl, rfl, ⟨(by first | exact pk_uLs | rfl | assumption), by rw [ht]; exact hP9, hD9⟩⟩, hS.F ht⟩) hS.2.2 dL_turned_16
  · exact hw.elim
set_option maxRecDepth 100000 in
set_option maxHeartbeats 4000000 in
/-- ofFlow -/
theorem tm_L_ofFlow (l : Launch) (hst : l.stackTraces = false) (dC : Nat → ClassId) (dI : Nat → Nat → Nat) (cy : Nat → ClassId) (a0 : Nat) (a1 : Nat) (a2 : Nat) (aT : Nat) (b1 : Nat) (b2 : Nat) (b3 : Nat) (b4 : Nat) (b5 : Nat) (b6 : Nat) (b7 : Nat) (o0 : Nat) (p1 : Int32) (p2 : Int32) (sz : Nat) : vx_Met l yL_ofFlow (tp_wW yL_ofFlow cL_ofFlow 5 (some .int) [(0, 10, 13, 19), (0, 10, 17, 21)]) ({ frames := 7, cells := 1, slots := 6, locals := 105 }) (va_Pc [.ref a0, .int p1, .int p2, .ref o0] (tp_Pre dC dI cy [(a0, .inr (8, [.ref a1, .ref aT])), (a1, .inr (5, [.ref a2, .ref b1, .ref b2, .ref b3, .ref b4, .ref b5, .int 0, .int 1, .int 0, .int 0, .int 0, .int 0])), (a2, .inr (2, [.ref b6, .int 0, .ref b7, .int 0])), (o0, .inl (cy 1, 1, .inr (.inl ((fun _ => 0)))))] sz)) (va_Qi (fun (r u : Int32) => r = u) (fun (u : Int32) (t : State) => (u = 1) ∧ tp_Post dC dI (va_A [(a0, .inr (8, [.ref a1, .ref aT])), (a1, .inr (5, [.ref a2, .ref b1, .ref b2, .ref b3, .ref b4, .ref b5, .int 0, .int 1, .int 0, .int 0, .int 0, .int 0])), (a2, .inr (2, [.ref b6, .int 0, .ref b7, .int 0])), (o0, .inl (cy 1, 1, .inr (.inl ((fun _ => 0)))))] sz) [(o0, .inl (cy 1, 1, .inr (.inl ((fun _ => 0)))))] t) (va_A [(a0, .inr (8, [.ref a1, .ref aT])), (a1, .inr (5, [.ref a2, .ref b1, .ref b2, .ref b3, .ref b4, .ref b5, .int 0, .int 1, .int 0, .int 0, .int 0, .int 0])), (a2, .inr (2, [.ref b6, .int 0, .ref b7, .int 0])), (o0, .inl (cy 1, 1, .inr (.inl ((fun _ => 0)))))] sz)) (vx_X (fun _ : Unit => True) (fun (E : String) (_ : Unit) (t : State) => (False) ∧ tp_Post dC dI (va_A [(a0, .inr (8, [.ref a1, .ref aT])), (a1, .inr (5, [.ref a2, .ref b1, .ref b2, .ref b3, .ref b4, .ref b5, .int 0, .int 1, .int 0, .int 0, .int 0, .int 0])), (a2, .inr (2, [.ref b6, .int 0, .ref b7, .int 0])), (o0, .inl (cy 1, 1, .inr (.inl ((fun _ => 0)))))] sz) [] t) (va_A [(a0, .inr (8, [.ref a1, .ref aT])), (a1, .inr (5, [.ref a2, .ref b1, .ref b2, .ref b3, .ref b4, .ref b5, .int 0, .int 1, .int 0, .int 0, .int 0, .int 0])), (a2, .inr (2, [.ref b6, .int 0, .ref b7, .int 0])), (o0, .inl (cy 1, 1, .inr (.inl ((fun _ => 0)))))] sz)) 1 6 (va_A [(a0, .inr (8, [.ref a1, .ref aT])), (a1, .inr (5, [.ref a2, .ref b1, .ref b2, .ref b3, .ref b4, .ref b5, .int 0, .int 1, .int 0, .int 0, .int 0, .int 0])), (a2, .inr (2, [.ref b6, .int 0, .ref b7, .int 0])), (o0, .inl (cy 1, 1, .inr (.inl ((fun _ => 0)))))] sz) := by
  refine vx_ofWH (cc := cL_ofFlow) (maxL := 5) (ret := (some .int)) (hh := [(0, 10, 13, 19), (0, 10, 17, 21)]) (by decide) rfl ?_
  intro p e s m args below meth c s₁ B hml hv
  obtain ⟨rfl, hsz, hP, hK, hD0, hE, hZ⟩ := hv
  have hx := B.exec
  have hb := B.bytes
  have hr := B.returns
  have hts0 := atoms_spec (ws := tp_wW yL_ofFlow cL_ofFlow 5 (some .int) [(0, 10, 13, 19), (0, 10, 17, 21)]) B.pre
  have hts : ∀ w ∈ tp_all, w.before _ s = true := fun w h => hts0 w (List.mem_cons_of_mem _ h)
  have htb : c.exceptionTable.toList = tableOf [(0, 10, 13, 19), (0, 10, 17, 21)] := vx_table (x := yL_ofFlow) B (hts0 _ List.mem_cons_self)
  have hown : s.vm.findClass RL = some m.cls := findClass_of_methodNamed B.named
  have hlocks := B.notSynchronized
  subst hsz
  have hD := hD0.self (sz := s.heap.size)
  generalize hAe : va_A [(a0, .inr (8, [.ref a1, .ref aT])), (a1, .inr (5, [.ref a2, .ref b1, .ref b2, .ref b3, .ref b4, .ref b5, .int 0, .int 1, .int 0, .int 0, .int 0, .int 0])), (a2, .inr (2, [.ref b6, .int 0, .ref b7, .int 0])), (o0, .inl (cy 1, 1, .inr (.inl ((fun _ => 0)))))] s.heap.size = A at hD hZ ⊢
  have hA : ∀ q : Nat, s.heap.size ≤ q → A q := fun q h => by rw [← hAe]; exact Or.inr h
  have hS : va_S A s.heap s.heap [] := va_S.rf
  have hl9 := lv_entry ([.ref a0, .int p1, .int p2, .ref o0]) (n := 5) (Nat.le_of_ble_eq_true rfl)
  rw [lg_entry_eq]
  generalize (lg_sl ([.ref a0, .int p1, .int p2, .ref o0]) ++ List.replicate (5 - (lg_sl ([.ref a0, .int p1, .int p2, .ref o0])).length) Slot.unset).toArray = ls at hl9 ⊢
  have hl : lv_has ls 5 [(0, .ref a0), (1, .int p1), (2, .int p2), (3, .ref o0)] := hl9
  refine lv_aload_n hx hb dL_ofFlow_0 rfl (lv_at hl 3 rfl) ?_
  refine lv_iconst (v := 0) hx hb dL_ofFlow_1 (by decide) ?_
  refine lv_aload_n hx hb dL_ofFlow_2 rfl (lv_at hl 0 rfl) ?_
  refine lv_iload_n hx hb dL_ofFlow_3 rfl (lv_at hl 1 rfl) ?_
  refine lv_iload_n hx hb dL_ofFlow_4 rfl (lv_at hl 2 rfl) ?_
  have hFc := va_free (wc := [(a0, .inr (8, [.ref a1, .ref aT])), (a1, .inr (5, [.ref a2, .ref b1, .ref b2, .ref b3, .ref b4, .ref b5, .int 0, .int 1, .int 0, .int 0, .int 0, .int 0])), (a2, .inr (2, [.ref b6, .int 0, .ref b7, .int 0]))]) hD hS hA [0, 1, 2] rfl
  refine vx_callv (vx_runV (As := [.int p1, .int p2]) (rest := [.int 0, .ref o0]) ⟨hx, hb, hml, hown, hts⟩ (tm_ofFlow l hst dC dI cy a0 a1 a2 aT b1 b2 b3 b4 b5 b6 b7 p1 p2 s.heap.size) (tp_cwV 2 hts tw_1067 tw_632 tw_633 tw_38 tw_634 rfl rfl (by decide +kernel) ⟨Nat.le_of_ble_eq_true rfl, Nat.le_of_ble_eq_true rfl⟩) ⟨tp_blind, va_recv hK hP (ci := 8) (q0 := 0) rfl rfl, fun U hU hW => ⟨rfl, tp_pay hK hP hD hE hZ hS [0, 1, 2] (by decide) rfl hFc U hU hW⟩⟩ rfl rfl hl.1 rfl (lv_room (Nat.le_of_ble_eq_true rfl)) dL_ofFlow_5 ⟨(Nat.le_of_ble_eq_true rfl), (Nat.le_of_ble_eq_true rfl)⟩) hS (fun q _ h => hFc q h) hFc (fun q _ h => hFc q h) (fun E9 ce q9 u t H1 locs ht hvm hw hB hz1 hk1 hS hce hcv hcl => ?_) (fun u t H1 locs ht hvm hw hB hz1 hk1 hS => ?_)
  · obtain ⟨rfl, hP1, hD1⟩ := hB
    rw [ht] at hP1
    obtain ⟨hP, hD⟩ := va_join (wr := [(o0, .inl (cy 1, 1, .inr (.inl ((fun _ => 0)))))]) (w1 := []) hP hD [0, 1, 2] [3] rfl rfl (by decide) (by decide) hk1 hFc hP1 hD1
    generalize H1 = H at hP hS hce ⊢
    have hP : va_P (dC, dI) vwCl [(o0, .inl (cy 1, 1, .inr (.inl ((fun _ => 0)))))] _ := hP
    have hD : va_D A [(o0, .inl (cy 1, 1, .inr (.inl ((fun _ => 0)))))] := hD
    refine vx_catch (own := RL) (name := "java/lang/IndexOutOfBoundsException") hown [] { startPc := 0, endPc := 10, handlerPc := 13, catchType := 19 } [{ startPc := 0, endPc := 10, handlerPc := 17, catchType := 21 }] htb (fun z hz => by cases hz) (by decide) (by decide) (hts _ tw_700) (va_Nw.use rfl (hE.2.2.2.2.2.1 _ (List.mem_of_getElem? (i := 0) rfl))) hce hcv hcl ?_
    refine lv_astore (lv' := [(4, .ref q9), (0, .ref a0), (1, .int p1), (2, .int p2), (3, .ref o0)]) hx hb dL_ofFlow_13 hl (by decide) rfl (fun ls hl => ?_)
    refine lv_iconst (v := 1) hx hb dL_ofFlow_15 (by decide) ?_
    refine W.widen (k := 1) (n := 6) (Nat.le_of_ble_eq_true rfl) (Nat.le_of_ble_eq_true rfl) ?_
    refine vx_ret ?_
    have hP9 := hP.sub (ws' := [(o0, .inl (cy 1, 1, .inr (.inl ((fun _ => 0)))))]) [0] rfl
    have hD9 := hD.sub (ws' := [(o0, .inl (cy 1, 1, .inr (.inl ((fun _ => 0)))))]) [0] (by decide) rfl
    exact W.iret (v := 1) hx hb hr (fun t ht hW => ⟨⟨1, 1, rfl, rfl, ⟨(by first | exact pk_uLs | rfl | assumption), by rw [ht]; exact hP9, hD9⟩⟩, hS.F ht⟩) hS.2.2 dL_ofFlow_16
  · exact hw.elim
set_option maxRecDepth 100000 in
set_option maxHeartbeats 4000000 in
/-- arrivesIn -/
theorem tm_L_arrivesIn (l : Launch) (hst : l.stackTraces = false) (dC : Nat → ClassId) (dI : Nat → Nat → Nat) (cy : Nat → ClassId) (a0 : Nat) (a1 : Nat) (a2 : Nat) (aT : Nat) (b1 : Nat) (b2 : Nat) (b3 : Nat) (b4 : Nat) (b5 : Nat) (b6 : Nat) (b7 : Nat) (o0 : Nat) (p1 : Int32) (p2 : Int32) (sz : Nat) : vx_Met l yL_arrivesIn (tp_wW yL_arrivesIn cL_arrivesIn 5 (some .int) [(0, 10, 13, 19), (0, 10, 17, 21)]) ({ frames := 8, cells := 1, slots := 6, locals := 128 }) (va_Pc [.ref a0, .int p1, .int p2, .ref o0] (tp_Pre dC dI cy [(a0, .inr (8, [.ref a1, .ref aT])), (a1, .inr (5, [.ref a2, .ref b1, .ref b2, .ref b3, .ref b4, .ref b5, .int 0, .int 1, .int 0, .int 0, .int 0, .int 0])), (a2, .inr (2, [.ref b6, .int 0, .ref b7, .int 0])), (o0, .inl (cy 1, 1, .inr (.inl ((fun _ => 0)))))] sz)) (va_Qi (fun (r u : Int32) => r = u) (fun (u : Int32) (t : State) => (u = 1) ∧ tp_Post dC dI (va_A [(a0, .inr (8, [.ref a1, .ref aT])), (a1, .inr (5, [.ref a2, .ref b1, .ref b2, .ref b3, .ref b4, .ref b5, .int 0, .int 1, .int 0, .int 0, .int 0, .int 0])), (a2, .inr (2, [.ref b6, .int 0, .ref b7, .int 0])), (o0, .inl (cy 1, 1, .inr (.inl ((fun _ => 0)))))] sz) [(o0, .inl (cy 1, 1, .inr (.inl ((fun _ => 0)))))] t) (va_A [(a0, .inr (8, [.ref a1, .ref aT])), (a1, .inr (5, [.ref a2, .ref b1, .ref b2, .ref b3, .ref b4, .ref b5, .int 0, .int 1, .int 0, .int 0, .int 0, .int 0])), (a2, .inr (2, [.ref b6, .int 0, .ref b7, .int 0])), (o0, .inl (cy 1, 1, .inr (.inl ((fun _ => 0)))))] sz)) (vx_X (fun _ : Unit => True) (fun (E : String) (_ : Unit) (t : State) => (False) ∧ tp_Post dC dI (va_A [(a0, .inr (8, [.ref a1, .ref aT])), (a1, .inr (5, [.ref a2, .ref b1, .ref b2, .ref b3, .ref b4, .ref b5, .int 0, .int 1, .int 0, .int 0, .int 0, .int 0])), (a2, .inr (2, [.ref b6, .int 0, .ref b7, .int 0])), (o0, .inl (cy 1, 1, .inr (.inl ((fun _ => 0)))))] sz) [] t) (va_A [(a0, .inr (8, [.ref a1, .ref aT])), (a1, .inr (5, [.ref a2, .ref b1, .ref b2, .ref b3, .ref b4, .ref b5, .int 0, .int 1, .int 0, .int 0, .int 0, .int 0])), (a2, .inr (2, [.ref b6, .int 0, .ref b7, .int 0])), (o0, .inl (cy 1, 1, .inr (.inl ((fun _ => 0)))))] sz)) 1 6 (va_A [(a0, .inr (8, [.ref a1, .ref aT])), (a1, .inr (5, [.ref a2, .ref b1, .ref b2, .ref b3, .ref b4, .ref b5, .int 0, .int 1, .int 0, .int 0, .int 0, .int 0])), (a2, .inr (2, [.ref b6, .int 0, .ref b7, .int 0])), (o0, .inl (cy 1, 1, .inr (.inl ((fun _ => 0)))))] sz) := by
  refine vx_ofWH (cc := cL_arrivesIn) (maxL := 5) (ret := (some .int)) (hh := [(0, 10, 13, 19), (0, 10, 17, 21)]) (by decide) rfl ?_
  intro p e s m args below meth c s₁ B hml hv
  obtain ⟨rfl, hsz, hP, hK, hD0, hE, hZ⟩ := hv
  have hx := B.exec
  have hb := B.bytes
  have hr := B.returns
  have hts0 := atoms_spec (ws := tp_wW yL_arrivesIn cL_arrivesIn 5 (some .int) [(0, 10, 13, 19), (0, 10, 17, 21)]) B.pre
  have hts : ∀ w ∈ tp_all, w.before _ s = true := fun w h => hts0 w (List.mem_cons_of_mem _ h)
  have htb : c.exceptionTable.toList = tableOf [(0, 10, 13, 19), (0, 10, 17, 21)] := vx_table (x := yL_arrivesIn) B (hts0 _ List.mem_cons_self)
  have hown : s.vm.findClass RL = some m.cls := findClass_of_methodNamed B.named
  have hlocks := B.notSynchronized
  subst hsz
  have hD := hD0.self (sz := s.heap.size)
  generalize hAe : va_A [(a0, .inr (8, [.ref a1, .ref aT])), (a1, .inr (5, [.ref a2, .ref b1, .ref b2, .ref b3, .ref b4, .ref b5, .int 0, .int 1, .int 0, .int 0, .int 0, .int 0])), (a2, .inr (2, [.ref b6, .int 0, .ref b7, .int 0])), (o0, .inl (cy 1, 1, .inr (.inl ((fun _ => 0)))))] s.heap.size = A at hD hZ ⊢
  have hA : ∀ q : Nat, s.heap.size ≤ q → A q := fun q h => by rw [← hAe]; exact Or.inr h
  have hS : va_S A s.heap s.heap [] := va_S.rf
  have hl9 := lv_entry ([.ref a0, .int p1, .int p2, .ref o0]) (n := 5) (Nat.le_of_ble_eq_true rfl)
  rw [lg_entry_eq]
  generalize (lg_sl ([.ref a0, .int p1, .int p2, .ref o0]) ++ List.replicate (5 - (lg_sl ([.ref a0, .int p1, .int p2, .ref o0])).length) Slot.unset).toArray = ls at hl9 ⊢
  have hl : lv_has ls 5 [(0, .ref a0), (1, .int p1), (2, .int p2), (3, .ref o0)] := hl9
  refine lv_aload_n hx hb dL_arrivesIn_0 rfl (lv_at hl 3 rfl) ?_
  refine lv_iconst (v := 0) hx hb dL_arrivesIn_1 (by decide) ?_
  refine lv_aload_n hx hb dL_arrivesIn_2 rfl (lv_at hl 0 rfl) ?_
  refine lv_iload_n hx hb dL_arrivesIn_3 rfl (lv_at hl 1 rfl) ?_
  refine lv_iload_n hx hb dL_arrivesIn_4 rfl (lv_at hl 2 rfl) ?_
  have hFc := va_free (wc := [(a0, .inr (8, [.ref a1, .ref aT])), (a1, .inr (5, [.ref a2, .ref b1, .ref b2, .ref b3, .ref b4, .ref b5, .int 0, .int 1, .int 0, .int 0, .int 0, .int 0])), (a2, .inr (2, [.ref b6, .int 0, .ref b7, .int 0]))]) hD hS hA [0, 1, 2] rfl
  refine vx_callv (vx_runV (As := [.int p1, .int p2]) (rest := [.int 0, .ref o0]) ⟨hx, hb, hml, hown, hts⟩ (tm_arrivesIn l hst dC dI cy a0 a1 a2 aT b1 b2 b3 b4 b5 b6 b7 p1 p2 s.heap.size) (tp_cwV 2 hts tw_1071 tw_1072 tw_1073 tw_38 tw_1074 rfl rfl (by decide +kernel) ⟨Nat.le_of_ble_eq_true rfl, Nat.le_of_ble_eq_true rfl⟩) ⟨tp_blind, va_recv hK hP (ci := 8) (q0 := 0) rfl rfl, fun U hU hW => ⟨rfl, tp_pay hK hP hD hE hZ hS [0, 1, 2] (by decide) rfl hFc U hU hW⟩⟩ rfl rfl hl.1 rfl (lv_room (Nat.le_of_ble_eq_true rfl)) dL_arrivesIn_5 ⟨(Nat.le_of_ble_eq_true rfl), (Nat.le_of_ble_eq_true rfl)⟩) hS (fun q _ h => hFc q h) hFc (fun q _ h => hFc q h) (fun E9 ce q9 u t H1 locs ht hvm hw hB hz1 hk1 hS hce hcv hcl => ?_) (fun u t H1 locs ht hvm hw hB hz1 hk1 hS => ?_)
  · obtain ⟨rfl, hP1, hD1⟩ := hB
    rw [ht] at hP1
    obtain ⟨hP, hD⟩ := va_join (wr := [(o0, .inl (cy 1, 1, .inr (.inl ((fun _ => 0)))))]) (w1 := []) hP hD [0, 1, 2] [3] rfl rfl (by decide) (by decide) hk1 hFc hP1 hD1
    generalize H1 = H at hP hS hce ⊢
    have hP : va_P (dC, dI) vwCl [(o0, .inl (cy 1, 1, .inr (.inl ((fun _ => 0)))))] _ := hP
    have hD : va_D A [(o0, .inl (cy 1, 1, .inr (.inl ((fun _ => 0)))))] := hD
    refine vx_catch (own := RL) (name := "java/lang/IndexOutOfBoundsException") hown [] { startPc := 0, endPc := 10, handlerPc := 13, catchType := 19 } [{ startPc := 0, endPc := 10, handlerPc := 17, catchType := 21 }] htb (fun z hz => by cases hz) (by decide) (by decide) (hts _ tw_700) (va_Nw.use rfl (hE.2.2.2.2.2.1 _ (List.mem_of_getElem? (i := 0) rfl))) hce hcv hcl ?_
    refine lv_astore (lv' := [(4, .ref q9), (0, .ref a0), (1, .int p1), (2, .int p2), (3, .ref o0)]) hx hb dL_arrivesIn_13 hl (by decide) rfl (fun ls hl => ?_)
    refine lv_iconst (v := 1) hx hb dL_arrivesIn_15 (by decide) ?_
    refine W.widen (k := 1) (n := 6) (Nat.le_of_ble_eq_true rfl) (Nat.le_of_ble_eq_true rfl) ?_
    refine vx_ret ?_
    have hP9 := hP.sub (ws' := [(o0, .inl (cy 1, 1, .inr (.inl ((fun _ => 0)))))]) [0] rfl
    have hD9 := hD.sub (ws' := [(o0, .inl (cy 1, 1, .inr (.inl ((fun _ => 0)))))]) [0] (by decide) rfl
    exact W.iret (v := 1) hx hb hr (fun t ht hW => ⟨⟨1, 1, rfl, rfl, ⟨(by first | exact pk_uLs | rfl | assumption), by rw [ht]; exact hP9, hD9⟩⟩, hS.F ht⟩) hS.2.2 dL_arrivesIn_16
  · exact hw.elim
set_option maxRecDepth 100000 in
set_option maxHeartbeats 4000000 in
/-- distanceWithout -/
theorem tm_L_distanceWithout (l : Launch) (hst : l.stackTraces = false) (dC : Nat → ClassId) (dI : Nat → Nat → Nat) (cy : Nat → ClassId) (a0 : Nat) (a1 : Nat) (a2 : Nat) (aT : Nat) (b1 : Nat) (b2 : Nat) (b3 : Nat) (b4 : Nat) (b5 : Nat) (b6 : Nat) (b7 : Nat) (o0 : Nat) (p1 : Int32) (p2 : Int32) (p3 : Int32) (sz : Nat) : vx_Met l yL_distanceWithout (tp_wW yL_distanceWithout cL_distanceWithout 6 (some .int) [(0, 12, 15, 19)]) ({ frames := 8, cells := 1, slots := 6, locals := 128 }) (va_Pc [.ref a0, .int p1, .int p2, .int p3, .ref o0] (tp_Pre dC dI cy [(a0, .inr (8, [.ref a1, .ref aT])), (a1, .inr (5, [.ref a2, .ref b1, .ref b2, .ref b3, .ref b4, .ref b5, .int 0, .int 1, .int 0, .int 0, .int 0, .int 0])), (a2, .inr (2, [.ref b6, .int 0, .ref b7, .int 0])), (o0, .inl (cy 1, 1, .inr (.inl ((fun _ => 0)))))] sz)) (va_Qi (fun (r u : Int32) => r = u) (fun (u : Int32) (t : State) => (u = 1) ∧ tp_Post dC dI (va_A [(a0, .inr (8, [.ref a1, .ref aT])), (a1, .inr (5, [.ref a2, .ref b1, .ref b2, .ref b3, .ref b4, .ref b5, .int 0, .int 1, .int 0, .int 0, .int 0, .int 0])), (a2, .inr (2, [.ref b6, .int 0, .ref b7, .int 0])), (o0, .inl (cy 1, 1, .inr (.inl ((fun _ => 0)))))] sz) [(o0, .inl (cy 1, 1, .inr (.inl ((fun _ => 0)))))] t) (va_A [(a0, .inr (8, [.ref a1, .ref aT])), (a1, .inr (5, [.ref a2, .ref b1, .ref b2, .ref b3, .ref b4, .ref b5, .int 0, .int 1, .int 0, .int 0, .int 0, .int 0])), (a2, .inr (2, [.ref b6, .int 0, .ref b7, .int 0])), (o0, .inl (cy 1, 1, .inr (.inl ((fun _ => 0)))))] sz)) (vx_X (fun _ : Unit => True) (fun (E : String) (_ : Unit) (t : State) => (False) ∧ tp_Post dC dI (va_A [(a0, .inr (8, [.ref a1, .ref aT])), (a1, .inr (5, [.ref a2, .ref b1, .ref b2, .ref b3, .ref b4, .ref b5, .int 0, .int 1, .int 0, .int 0, .int 0, .int 0])), (a2, .inr (2, [.ref b6, .int 0, .ref b7, .int 0])), (o0, .inl (cy 1, 1, .inr (.inl ((fun _ => 0)))))] sz) [] t) (va_A [(a0, .inr (8, [.ref a1, .ref aT])), (a1, .inr (5, [.ref a2, .ref b1, .ref b2, .ref b3, .ref b4, .ref b5, .int 0, .int 1, .int 0, .int 0, .int 0, .int 0])), (a2, .inr (2, [.ref b6, .int 0, .ref b7, .int 0])), (o0, .inl (cy 1, 1, .inr (.inl ((fun _ => 0)))))] sz)) 1 6 (va_A [(a0, .inr (8, [.ref a1, .ref aT])), (a1, .inr (5, [.ref a2, .ref b1, .ref b2, .ref b3, .ref b4, .ref b5, .int 0, .int 1, .int 0, .int 0, .int 0, .int 0])), (a2, .inr (2, [.ref b6, .int 0, .ref b7, .int 0])), (o0, .inl (cy 1, 1, .inr (.inl ((fun _ => 0)))))] sz) := by
  refine vx_ofWH (cc := cL_distanceWithout) (maxL := 6) (ret := (some .int)) (hh := [(0, 12, 15, 19)]) (by decide) rfl ?_
  intro p e s m args below meth c s₁ B hml hv
  obtain ⟨rfl, hsz, hP, hK, hD0, hE, hZ⟩ := hv
  have hx := B.exec
  have hb := B.bytes
  have hr := B.returns
  have hts0 := atoms_spec (ws := tp_wW yL_distanceWithout cL_distanceWithout 6 (some .int) [(0, 12, 15, 19)]) B.pre
  have hts : ∀ w ∈ tp_all, w.before _ s = true := fun w h => hts0 w (List.mem_cons_of_mem _ h)
  have htb : c.exceptionTable.toList = tableOf [(0, 12, 15, 19)] := vx_table (x := yL_distanceWithout) B (hts0 _ List.mem_cons_self)
  have hown : s.vm.findClass RL = some m.cls := findClass_of_methodNamed B.named
  have hlocks := B.notSynchronized
  subst hsz
  have hD := hD0.self (sz := s.heap.size)
  generalize hAe : va_A [(a0, .inr (8, [.ref a1, .ref aT])), (a1, .inr (5, [.ref a2, .ref b1, .ref b2, .ref b3, .ref b4, .ref b5, .int 0, .int 1, .int 0, .int 0, .int 0, .int 0])), (a2, .inr (2, [.ref b6, .int 0, .ref b7, .int 0])), (o0, .inl (cy 1, 1, .inr (.inl ((fun _ => 0)))))] s.heap.size = A at hD hZ ⊢
  have hA : ∀ q : Nat, s.heap.size ≤ q → A q := fun q h => by rw [← hAe]; exact Or.inr h
  have hS : va_S A s.heap s.heap [] := va_S.rf
  have hl9 := lv_entry ([.ref a0, .int p1, .int p2, .int p3, .ref o0]) (n := 6) (Nat.le_of_ble_eq_true rfl)
  rw [lg_entry_eq]
  generalize (lg_sl ([.ref a0, .int p1, .int p2, .int p3, .ref o0]) ++ List.replicate (6 - (lg_sl ([.ref a0, .int p1, .int p2, .int p3, .ref o0])).length) Slot.unset).toArray = ls at hl9 ⊢
  have hl : lv_has ls 6 [(0, .ref a0), (1, .int p1), (2, .int p2), (3, .int p3), (4, .ref o0)] := hl9
  refine lv_aload hx hb dL_distanceWithout_0 (lv_at hl 4 rfl) ?_
  refine lv_iconst (v := 0) hx hb dL_distanceWithout_2 (by decide) ?_
  refine lv_aload_n hx hb dL_distanceWithout_3 rfl (lv_at hl 0 rfl) ?_
  refine lv_iload_n hx hb dL_distanceWithout_4 rfl (lv_at hl 1 rfl) ?_
  refine lv_iload_n hx hb dL_distanceWithout_5 rfl (lv_at hl 2 rfl) ?_
  refine lv_iload_n hx hb dL_distanceWithout_6 rfl (lv_at hl 3 rfl) ?_
  have hFc := va_free (wc := [(a0, .inr (8, [.ref a1, .ref aT])), (a1, .inr (5, [.ref a2, .ref b1, .ref b2, .ref b3, .ref b4, .ref b5, .int 0, .int 1, .int 0, .int 0, .int 0, .int 0])), (a2, .inr (2, [.ref b6, .int 0, .ref b7, .int 0]))]) hD hS hA [0, 1, 2] rfl
  refine vx_callv (vx_runV (As := [.int p1, .int p2, .int p3]) (rest := [.int 0, .ref o0]) ⟨hx, hb, hml, hown, hts⟩ (tm_distanceWithout l hst dC dI cy a0 a1 a2 aT b1 b2 b3 b4 b5 b6 b7 p1 p2 p3 s.heap.size) (tp_cwV 3 hts tw_1115 tw_1116 tw_1117 tw_38 tw_1118 rfl rfl (by decide +kernel) ⟨Nat.le_of_ble_eq_true rfl, Nat.le_of_ble_eq_true rfl⟩) ⟨tp_blind, va_recv hK hP (ci := 8) (q0 := 0) rfl rfl, fun U hU hW => ⟨rfl, tp_pay hK hP hD hE hZ hS [0, 1, 2] (by decide) rfl hFc U hU hW⟩⟩ rfl rfl hl.1 rfl (lv_room (Nat.le_of_ble_eq_true rfl)) dL_distanceWithout_7 ⟨(Nat.le_of_ble_eq_true rfl), (Nat.le_of_ble_eq_true rfl)⟩) hS (fun q _ h => hFc q h) hFc (fun q _ h => hFc q h) (fun E9 ce q9 u t H1 locs ht hvm hw hB hz1 hk1 hS hce hcv hcl => ?_) (fun u t H1 locs ht hvm hw hB hz1 hk1 hS => ?_)
  · obtain ⟨rfl, hP1, hD1⟩ := hB
    rw [ht] at hP1
    obtain ⟨hP, hD⟩ := va_join (wr := [(o0, .inl (cy 1, 1, .inr (.inl ((fun _ => 0)))))]) (w1 := []) hP hD [0, 1, 2] [3] rfl rfl (by decide) (by decide) hk1 hFc hP1 hD1
    generalize H1 = H at hP hS hce ⊢
    have hP : va_P (dC, dI) vwCl [(o0, .inl (cy 1, 1, .inr (.inl ((fun _ => 0)))))] _ := hP
    have hD : va_D A [(o0, .inl (cy 1, 1, .inr (.inl ((fun _ => 0)))))] := hD
    refine vx_catch (own := RL) (name := "java/lang/IndexOutOfBoundsException") hown [] { startPc := 0, endPc := 12, handlerPc := 15, catchType := 19 } [] htb (fun z hz => by cases hz) (by decide) (by decide) (hts _ tw_700) (va_Nw.use rfl (hE.2.2.2.2.2.1 _ (List.mem_of_getElem? (i := 0) rfl))) hce hcv hcl ?_
    refine lv_astore (lv' := [(5, .ref q9), (0, .ref a0), (1, .int p1), (2, .int p2), (3, .int p3), (4, .ref o0)]) hx hb dL_distanceWithout_15 hl (by decide) rfl (fun ls hl => ?_)
    refine lv_iconst (v := 1) hx hb dL_distanceWithout_17 (by decide) ?_
    refine W.widen (k := 1) (n := 6) (Nat.le_of_ble_eq_true rfl) (Nat.le_of_ble_eq_true rfl) ?_
    refine vx_ret ?_
    have hP9 := hP.sub (ws' := [(o0, .inl (cy 1, 1, .inr (.inl ((fun _ => 0)))))]) [0] rfl
    have hD9 := hD.sub (ws' := [(o0, .inl (cy 1, 1, .inr (.inl ((fun _ => 0)))))]) [0] (by decide) rfl
    exact W.iret (v := 1) hx hb hr (fun t ht hW => ⟨⟨1, 1, rfl, rfl, ⟨(by first | exact pk_uLs | rfl | assumption), by rw [ht]; exact hP9, hD9⟩⟩, hS.F ht⟩) hS.2.2 dL_distanceWithout_18
  · exact hw.elim
set_option maxRecDepth 100000 in
set_option maxHeartbeats 4000000 in
/-- setRefresh -/
theorem tm_L_setRefresh_in (l : Launch) (hst : l.stackTraces = false) (dC : Nat → ClassId) (dI : Nat → Nat → Nat) (cy : Nat → ClassId) (a0 : Nat) (a1 : Nat) (a2 : Nat) (aT : Nat) (b1 : Nat) (b2 : Nat) (b3 : Nat) (b4 : Nat) (b5 : Nat) (b6 : Nat) (b7 : Nat) (o0 : Nat) (x : Int32) (sz : Nat) (hc : (1 : Int32) ≤ x ∧ x ≤ 30) : vx_Met l yL_setRefresh (tp_wW yL_setRefresh cL_setRefresh 4 (some .int) [(0, 9, 12, 21)]) ({ frames := 2, cells := 0, slots := 0, locals := 44 }) (va_Pc [.ref a0, .int x, .ref o0] (tp_Pre dC dI cy [(a0, .inr (8, [.ref a1, .ref aT])), (a1, .inr (5, [.ref a2, .ref b1, .ref b2, .ref b3, .ref b4, .ref b5, .int 0, .int 1, .int 0, .int 0, .int 0, .int 0])), (a2, .inr (2, [.ref b6, .int 0, .ref b7, .int 0])), (o0, .inl (cy 1, 1, .inr (.inl ((fun _ => 0)))))] sz)) (va_Qi (fun (r u : Int32) => r = u) (fun (u : Int32) (t : State) => ∃ (g : Nat → Int64), (u = 0) ∧ (g (0 : Int32).toNatClampNeg = 1) ∧ tp_Post dC dI (va_A [(a0, .inr (8, [.ref a1, .ref aT])), (a1, .inr (5, [.ref a2, .ref b1, .ref b2, .ref b3, .ref b4, .ref b5, .int 0, .int 1, .int 0, .int 0, .int 0, .int 0])), (a2, .inr (2, [.ref b6, .int 0, .ref b7, .int 0])), (o0, .inl (cy 1, 1, .inr (.inl ((fun _ => 0)))))] sz) [(o0, .inl (cy 1, 1, .inr (.inl g)))] t) (va_A [(a0, .inr (8, [.ref a1, .ref aT])), (a1, .inr (5, [.ref a2, .ref b1, .ref b2, .ref b3, .ref b4, .ref b5, .int 0, .int 1, .int 0, .int 0, .int 0, .int 0])), (a2, .inr (2, [.ref b6, .int 0, .ref b7, .int 0])), (o0, .inl (cy 1, 1, .inr (.inl ((fun _ => 0)))))] sz)) (vx_X (fun _ : Unit => True) (fun (E : String) (_ : Unit) (t : State) => (False) ∧ tp_Post dC dI (va_A [(a0, .inr (8, [.ref a1, .ref aT])), (a1, .inr (5, [.ref a2, .ref b1, .ref b2, .ref b3, .ref b4, .ref b5, .int 0, .int 1, .int 0, .int 0, .int 0, .int 0])), (a2, .inr (2, [.ref b6, .int 0, .ref b7, .int 0])), (o0, .inl (cy 1, 1, .inr (.inl ((fun _ => 0)))))] sz) [] t) (va_A [(a0, .inr (8, [.ref a1, .ref aT])), (a1, .inr (5, [.ref a2, .ref b1, .ref b2, .ref b3, .ref b4, .ref b5, .int 0, .int 1, .int 0, .int 0, .int 0, .int 0])), (a2, .inr (2, [.ref b6, .int 0, .ref b7, .int 0])), (o0, .inl (cy 1, 1, .inr (.inl ((fun _ => 0)))))] sz)) 0 0 (va_A [(a0, .inr (8, [.ref a1, .ref aT])), (a1, .inr (5, [.ref a2, .ref b1, .ref b2, .ref b3, .ref b4, .ref b5, .int 0, .int 1, .int 0, .int 0, .int 0, .int 0])), (a2, .inr (2, [.ref b6, .int 0, .ref b7, .int 0])), (o0, .inl (cy 1, 1, .inr (.inl ((fun _ => 0)))))] sz) := by
  refine vx_ofWH (cc := cL_setRefresh) (maxL := 4) (ret := (some .int)) (hh := [(0, 9, 12, 21)]) (by decide) rfl ?_
  intro p e s m args below meth c s₁ B hml hv
  obtain ⟨rfl, hsz, hP, hK, hD0, hE, hZ⟩ := hv
  have hx := B.exec
  have hb := B.bytes
  have hr := B.returns
  have hts0 := atoms_spec (ws := tp_wW yL_setRefresh cL_setRefresh 4 (some .int) [(0, 9, 12, 21)]) B.pre
  have hts : ∀ w ∈ tp_all, w.before _ s = true := fun w h => hts0 w (List.mem_cons_of_mem _ h)
  have htb : c.exceptionTable.toList = tableOf [(0, 9, 12, 21)] := vx_table (x := yL_setRefresh) B (hts0 _ List.mem_cons_self)
  have hown : s.vm.findClass RL = some m.cls := findClass_of_methodNamed B.named
  have hlocks := B.notSynchronized
  subst hsz
  have hD := hD0.self (sz := s.heap.size)
  generalize hAe : va_A [(a0, .inr (8, [.ref a1, .ref aT])), (a1, .inr (5, [.ref a2, .ref b1, .ref b2, .ref b3, .ref b4, .ref b5, .int 0, .int 1, .int 0, .int 0, .int 0, .int 0])), (a2, .inr (2, [.ref b6, .int 0, .ref b7, .int 0])), (o0, .inl (cy 1, 1, .inr (.inl ((fun _ => 0)))))] s.heap.size = A at hD hZ ⊢
  have hA : ∀ q : Nat, s.heap.size ≤ q → A q := fun q h => by rw [← hAe]; exact Or.inr h
  have hS : va_S A s.heap s.heap [] := va_S.rf
  have hl9 := lv_entry ([.ref a0, .int x, .ref o0]) (n := 4) (Nat.le_of_ble_eq_true rfl)
  rw [lg_entry_eq]
  generalize (lg_sl ([.ref a0, .int x, .ref o0]) ++ List.replicate (4 - (lg_sl ([.ref a0, .int x, .ref o0])).length) Slot.unset).toArray = ls at hl9 ⊢
  have hl : lv_has ls 4 [(0, .ref a0), (1, .int x), (2, .ref o0)] := hl9
  refine lv_aload_n hx hb dL_setRefresh_0 rfl (lv_at hl 2 rfl) ?_
  refine lv_iconst (v := 0) hx hb dL_setRefresh_1 (by decide) ?_
  refine lv_aload_n hx hb dL_setRefresh_2 rfl (lv_at hl 0 rfl) ?_
  refine lv_iload_n hx hb dL_setRefresh_3 rfl (lv_at hl 1 rfl) ?_
  have hFc := va_free (wc := [(a0, .inr (8, [.ref a1, .ref aT])), (a1, .inr (5, [.ref a2, .ref b1, .ref b2, .ref b3, .ref b4, .ref b5, .int 0, .int 1, .int 0, .int 0, .int 0, .int 0])), (a2, .inr (2, [.ref b6, .int 0, .ref b7, .int 0]))]) hD hS hA [0, 1, 2] rfl
  refine va_calli (va_runV (As := [.int x]) (rest := [.int 0, .ref o0]) ⟨hx, hb, hml, hown, hts⟩ (tm_setRefresh_in l hst dC dI cy a0 a1 a2 aT b1 b2 b3 b4 b5 b6 b7 x s.heap.size (by first | assumption | exact tp_none _ | decide | omega)) (tp_cwV 1 hts tw_752 tw_753 tw_754 tw_38 tw_755 rfl rfl (by decide +kernel) ⟨Nat.le_of_ble_eq_true rfl, Nat.le_of_ble_eq_true rfl⟩) ⟨tp_blind, va_recv hK hP (ci := 8) (q0 := 0) rfl rfl, fun U hU hW => ⟨rfl, tp_pay hK hP hD hE hZ hS [0, 1, 2] (by decide) rfl hFc U hU hW⟩⟩ rfl rfl hl.1 rfl (lv_room (Nat.le_of_ble_eq_true rfl)) dL_setRefresh_4 ⟨(Nat.le_of_ble_eq_true rfl), (Nat.le_of_ble_eq_true rfl)⟩) hS (fun q _ h => hFc q h) hFc (fun r_1 u t H1 locs ht hvm hw hB hz1 hk1 hS => ?_)
  obtain rfl := hw
  obtain ⟨f_2, hP1, hD1⟩ := hB
  subst f_2
  rw [ht] at hP1
  obtain ⟨hP, hD⟩ := va_join (wr := [(o0, .inl (cy 1, 1, .inr (.inl ((fun _ => 0)))))]) (w1 := []) hP hD [0, 1, 2] [3] rfl rfl (by decide) (by decide) hk1 hFc hP1 hD1
  generalize H1 = H at hP hS ⊢
  have hP : va_P (dC, dI) vwCl [(o0, .inl (cy 1, 1, .inr (.inl ((fun _ => 0)))))] _ := hP
  have hD : va_D A [(o0, .inl (cy 1, 1, .inr (.inl ((fun _ => 0)))))] := hD
  refine lv_i2l (v := 1) hx hb dL_setRefresh_7 (by decide) ?_
  refine va_last hx hb hK hP hD hS 0 1 rfl rfl (by unfold vp_in; decide) dL_setRefresh_8 (fun H locs hP hD hS => ?_)
  have hP : va_P (dC, dI) vwCl [(o0, .inl (cy 1, 1, .inr (.inl (vp_updL ((fun _ => 0)) (0 : Int32).toNatClampNeg 1))))] _ := hP
  have hD : va_D A [(o0, .inl (cy 1, 1, .inr (.inl (vp_updL ((fun _ => 0)) (0 : Int32).toNatClampNeg 1))))] := hD
  refine lv_goto (tgt := 15) hx hb dL_setRefresh_9 (by decide) ?_
  refine lv_iconst (v := 0) hx hb dL_setRefresh_15 (by decide) ?_
  refine W.widen (k := 0) (n := 0) (Nat.le_of_ble_eq_true rfl) (Nat.le_of_ble_eq_true rfl) ?_
  refine vx_ret ?_
  have hP9 := hP.sub (ws' := [(o0, .inl (cy 1, 1, .inr (.inl (vp_updL ((fun _ => 0)) (0 : Int32).toNatClampNeg 1))))]) [0] rfl
  have hD9 := hD.sub (ws' := [(o0, .inl (cy 1, 1, .inr (.inl (vp_updL ((fun _ => 0)) (0 : Int32).toNatClampNeg 1))))]) [0] (by decide) rfl
  exact W.iret (v := 0) hx hb hr (fun t ht hW => ⟨⟨0, 0, rfl, rfl, ⟨(vp_updL ((fun _ => 0)) (0 : Int32).toNatClampNeg 1), (by first | exact pk_uLs | rfl | assumption), (by first | exact pk_uLs | rfl | assumption), by rw [ht]; exact hP9, hD9⟩⟩, hS.F ht⟩) hS.2.2 dL_setRefresh_16
set_option maxRecDepth 100000 in
set_option maxHeartbeats 4000000 in
/-- setRefresh refused -/
theorem tm_L_setRefresh_out (l : Launch) (hst : l.stackTraces = false) (dC : Nat → ClassId) (dI : Nat → Nat → Nat) (cy : Nat → ClassId) (a0 : Nat) (a1 : Nat) (a2 : Nat) (aT : Nat) (b1 : Nat) (b2 : Nat) (b3 : Nat) (b4 : Nat) (b5 : Nat) (b6 : Nat) (b7 : Nat) (o0 : Nat) (x : Int32) (sz : Nat) (hc : ¬ ((1 : Int32) ≤ x ∧ x ≤ 30)) : vx_Met l yL_setRefresh (tp_wW yL_setRefresh cL_setRefresh 4 (some .int) [(0, 9, 12, 21)]) ({ frames := 8, cells := 1, slots := 6, locals := 124 }) (va_Pc [.ref a0, .int x, .ref o0] (tp_Pre dC dI cy [(a0, .inr (8, [.ref a1, .ref aT])), (a1, .inr (5, [.ref a2, .ref b1, .ref b2, .ref b3, .ref b4, .ref b5, .int 0, .int 1, .int 0, .int 0, .int 0, .int 0])), (a2, .inr (2, [.ref b6, .int 0, .ref b7, .int 0])), (o0, .inl (cy 1, 1, .inr (.inl ((fun _ => 0)))))] sz)) (va_Qi (fun (r u : Int32) => r = u) (fun (u : Int32) (t : State) => (u = 1) ∧ tp_Post dC dI (va_A [(a0, .inr (8, [.ref a1, .ref aT])), (a1, .inr (5, [.ref a2, .ref b1, .ref b2, .ref b3, .ref b4, .ref b5, .int 0, .int 1, .int 0, .int 0, .int 0, .int 0])), (a2, .inr (2, [.ref b6, .int 0, .ref b7, .int 0])), (o0, .inl (cy 1, 1, .inr (.inl ((fun _ => 0)))))] sz) [(o0, .inl (cy 1, 1, .inr (.inl ((fun _ => 0)))))] t) (va_A [(a0, .inr (8, [.ref a1, .ref aT])), (a1, .inr (5, [.ref a2, .ref b1, .ref b2, .ref b3, .ref b4, .ref b5, .int 0, .int 1, .int 0, .int 0, .int 0, .int 0])), (a2, .inr (2, [.ref b6, .int 0, .ref b7, .int 0])), (o0, .inl (cy 1, 1, .inr (.inl ((fun _ => 0)))))] sz)) (vx_X (fun _ : Unit => True) (fun (E : String) (_ : Unit) (t : State) => (False) ∧ tp_Post dC dI (va_A [(a0, .inr (8, [.ref a1, .ref aT])), (a1, .inr (5, [.ref a2, .ref b1, .ref b2, .ref b3, .ref b4, .ref b5, .int 0, .int 1, .int 0, .int 0, .int 0, .int 0])), (a2, .inr (2, [.ref b6, .int 0, .ref b7, .int 0])), (o0, .inl (cy 1, 1, .inr (.inl ((fun _ => 0)))))] sz) [] t) (va_A [(a0, .inr (8, [.ref a1, .ref aT])), (a1, .inr (5, [.ref a2, .ref b1, .ref b2, .ref b3, .ref b4, .ref b5, .int 0, .int 1, .int 0, .int 0, .int 0, .int 0])), (a2, .inr (2, [.ref b6, .int 0, .ref b7, .int 0])), (o0, .inl (cy 1, 1, .inr (.inl ((fun _ => 0)))))] sz)) 1 6 (va_A [(a0, .inr (8, [.ref a1, .ref aT])), (a1, .inr (5, [.ref a2, .ref b1, .ref b2, .ref b3, .ref b4, .ref b5, .int 0, .int 1, .int 0, .int 0, .int 0, .int 0])), (a2, .inr (2, [.ref b6, .int 0, .ref b7, .int 0])), (o0, .inl (cy 1, 1, .inr (.inl ((fun _ => 0)))))] sz) := by
  refine vx_ofWH (cc := cL_setRefresh) (maxL := 4) (ret := (some .int)) (hh := [(0, 9, 12, 21)]) (by decide) rfl ?_
  intro p e s m args below meth c s₁ B hml hv
  obtain ⟨rfl, hsz, hP, hK, hD0, hE, hZ⟩ := hv
  have hx := B.exec
  have hb := B.bytes
  have hr := B.returns
  have hts0 := atoms_spec (ws := tp_wW yL_setRefresh cL_setRefresh 4 (some .int) [(0, 9, 12, 21)]) B.pre
  have hts : ∀ w ∈ tp_all, w.before _ s = true := fun w h => hts0 w (List.mem_cons_of_mem _ h)
  have htb : c.exceptionTable.toList = tableOf [(0, 9, 12, 21)] := vx_table (x := yL_setRefresh) B (hts0 _ List.mem_cons_self)
  have hown : s.vm.findClass RL = some m.cls := findClass_of_methodNamed B.named
  have hlocks := B.notSynchronized
  subst hsz
  have hD := hD0.self (sz := s.heap.size)
  generalize hAe : va_A [(a0, .inr (8, [.ref a1, .ref aT])), (a1, .inr (5, [.ref a2, .ref b1, .ref b2, .ref b3, .ref b4, .ref b5, .int 0, .int 1, .int 0, .int 0, .int 0, .int 0])), (a2, .inr (2, [.ref b6, .int 0, .ref b7, .int 0])), (o0, .inl (cy 1, 1, .inr (.inl ((fun _ => 0)))))] s.heap.size = A at hD hZ ⊢
  have hA : ∀ q : Nat, s.heap.size ≤ q → A q := fun q h => by rw [← hAe]; exact Or.inr h
  have hS : va_S A s.heap s.heap [] := va_S.rf
  have hl9 := lv_entry ([.ref a0, .int x, .ref o0]) (n := 4) (Nat.le_of_ble_eq_true rfl)
  rw [lg_entry_eq]
  generalize (lg_sl ([.ref a0, .int x, .ref o0]) ++ List.replicate (4 - (lg_sl ([.ref a0, .int x, .ref o0])).length) Slot.unset).toArray = ls at hl9 ⊢
  have hl : lv_has ls 4 [(0, .ref a0), (1, .int x), (2, .ref o0)] := hl9
  refine lv_aload_n hx hb dL_setRefresh_0 rfl (lv_at hl 2 rfl) ?_
  refine lv_iconst (v := 0) hx hb dL_setRefresh_1 (by decide) ?_
  refine lv_aload_n hx hb dL_setRefresh_2 rfl (lv_at hl 0 rfl) ?_
  refine lv_iload_n hx hb dL_setRefresh_3 rfl (lv_at hl 1 rfl) ?_
  have hFc := va_free (wc := [(a0, .inr (8, [.ref a1, .ref aT])), (a1, .inr (5, [.ref a2, .ref b1, .ref b2, .ref b3, .ref b4, .ref b5, .int 0, .int 1, .int 0, .int 0, .int 0, .int 0])), (a2, .inr (2, [.ref b6, .int 0, .ref b7, .int 0]))]) hD hS hA [0, 1, 2] rfl
  refine vx_callv (vx_runV (As := [.int x]) (rest := [.int 0, .ref o0]) ⟨hx, hb, hml, hown, hts⟩ (tm_setRefresh_out l hst dC dI cy a0 a1 a2 aT b1 b2 b3 b4 b5 b6 b7 x s.heap.size (by first | assumption | exact tp_none _ | decide | omega)) (tp_cwV 1 hts tw_752 tw_753 tw_754 tw_38 tw_755 rfl rfl (by decide +kernel) ⟨Nat.le_of_ble_eq_true rfl, Nat.le_of_ble_eq_true rfl⟩) ⟨tp_blind, va_recv hK hP (ci := 8) (q0 := 0) rfl rfl, fun U hU hW => ⟨rfl, tp_pay hK hP hD hE hZ hS [0, 1, 2] (by decide) rfl hFc U hU hW⟩⟩ rfl rfl hl.1 rfl (lv_room (Nat.le_of_ble_eq_true rfl)) dL_setRefresh_4 ⟨(Nat.le_of_ble_eq_true rfl), (Nat.le_of_ble_eq_true rfl)⟩) hS (fun q _ h => hFc q h) hFc (fun q _ h => hFc q h) (fun E9 ce q9 u t H1 locs ht hvm hw hB hz1 hk1 hS hce hcv hcl => ?_) (fun u t H1 locs ht hvm hw hB hz1 hk1 hS => ?_)
  · obtain ⟨rfl, hP1, hD1⟩ := hB
    rw [ht] at hP1
    obtain ⟨hP, hD⟩ := va_join (wr := [(o0, .inl (cy 1, 1, .inr (.inl ((fun _ => 0)))))]) (w1 := []) hP hD [0, 1, 2] [3] rfl rfl (by decide) (by decide) hk1 hFc hP1 hD1
    generalize H1 = H at hP hS hce ⊢
    have hP : va_P (dC, dI) vwCl [(o0, .inl (cy 1, 1, .inr (.inl ((fun _ => 0)))))] _ := hP
    have hD : va_D A [(o0, .inl (cy 1, 1, .inr (.inl ((fun _ => 0)))))] := hD
    refine vx_catch (own := RL) (name := "java/lang/IllegalArgumentException") hown [] { startPc := 0, endPc := 9, handlerPc := 12, catchType := 21 } [] htb (fun z hz => by cases hz) (by decide) (by decide) (hts _ tw_701) (va_Nw.use rfl (hE.2.2.2.2.2.1 _ (List.mem_of_getElem? (i := 1) rfl))) hce hcv hcl ?_
    refine lv_astore_n (lv' := [(3, .ref q9), (0, .ref a0), (1, .int x), (2, .ref o0)]) hx hb dL_setRefresh_12 rfl hl (by decide) rfl (fun ls hl => ?_)
    refine lv_iconst (v := 1) hx hb dL_setRefresh_13 (by decide) ?_
    refine W.widen (k := 1) (n := 6) (Nat.le_of_ble_eq_true rfl) (Nat.le_of_ble_eq_true rfl) ?_
    refine vx_ret ?_
    have hP9 := hP.sub (ws' := [(o0, .inl (cy 1, 1, .inr (.inl ((fun _ => 0)))))]) [0] rfl
    have hD9 := hD.sub (ws' := [(o0, .inl (cy 1, 1, .inr (.inl ((fun _ => 0)))))]) [0] (by decide) rfl
    exact W.iret (v := 1) hx hb hr (fun t ht hW => ⟨⟨1, 1, rfl, rfl, ⟨(by first | exact pk_uLs | rfl | assumption), by rw [ht]; exact hP9, hD9⟩⟩, hS.F ht⟩) hS.2.2 dL_setRefresh_14
  · exact hw.elim
set_option maxRecDepth 100000 in
set_option maxHeartbeats 4000000 in
/-- step -/
theorem tm_L_step_in (l : Launch) (hst : l.stackTraces = false) (dC : Nat → ClassId) (dI : Nat → Nat → Nat) (cy : Nat → ClassId) (a0 : Nat) (a1 : Nat) (a2 : Nat) (aT : Nat) (b1 : Nat) (b2 : Nat) (b3 : Nat) (b4 : Nat) (b5 : Nat) (b6 : Nat) (b7 : Nat) (o0 : Nat) (n : Nat) (sz : Nat) (hc : (1 : Int32) ≤ nI n ∧ nI n ≤ 60) (hn : n ≤ 60) : vx_Met l yL_step (tp_wW yL_step cL_step 4 (some .int) [(0, 9, 12, 21)]) ({ frames := 3, cells := 0, slots := 0, locals := 70 }) (va_Pc [.ref a0, .int (nI n), .ref o0] (tp_Pre dC dI cy [(a0, .inr (8, [.ref a1, .ref aT])), (a1, .inr (5, [.ref a2, .ref b1, .ref b2, .ref b3, .ref b4, .ref b5, .int 0, .int 1, .int 0, .int 0, .int 0, .int 0])), (a2, .inr (2, [.ref b6, .int 0, .ref b7, .int 0])), (o0, .inl (cy 1, 1, .inr (.inl ((fun _ => 0)))))] sz)) (va_Qi (fun (r u : Int32) => r = u) (fun (u : Int32) (t : State) => ∃ (g : Nat → Int64), (u = 0) ∧ (g (0 : Int32).toNatClampNeg = (nI n).toInt64) ∧ tp_Post dC dI (va_A [(a0, .inr (8, [.ref a1, .ref aT])), (a1, .inr (5, [.ref a2, .ref b1, .ref b2, .ref b3, .ref b4, .ref b5, .int 0, .int 1, .int 0, .int 0, .int 0, .int 0])), (a2, .inr (2, [.ref b6, .int 0, .ref b7, .int 0])), (o0, .inl (cy 1, 1, .inr (.inl ((fun _ => 0)))))] sz) [(o0, .inl (cy 1, 1, .inr (.inl g)))] t) (va_A [(a0, .inr (8, [.ref a1, .ref aT])), (a1, .inr (5, [.ref a2, .ref b1, .ref b2, .ref b3, .ref b4, .ref b5, .int 0, .int 1, .int 0, .int 0, .int 0, .int 0])), (a2, .inr (2, [.ref b6, .int 0, .ref b7, .int 0])), (o0, .inl (cy 1, 1, .inr (.inl ((fun _ => 0)))))] sz)) (vx_X (fun _ : Unit => True) (fun (E : String) (_ : Unit) (t : State) => (False) ∧ tp_Post dC dI (va_A [(a0, .inr (8, [.ref a1, .ref aT])), (a1, .inr (5, [.ref a2, .ref b1, .ref b2, .ref b3, .ref b4, .ref b5, .int 0, .int 1, .int 0, .int 0, .int 0, .int 0])), (a2, .inr (2, [.ref b6, .int 0, .ref b7, .int 0])), (o0, .inl (cy 1, 1, .inr (.inl ((fun _ => 0)))))] sz) [] t) (va_A [(a0, .inr (8, [.ref a1, .ref aT])), (a1, .inr (5, [.ref a2, .ref b1, .ref b2, .ref b3, .ref b4, .ref b5, .int 0, .int 1, .int 0, .int 0, .int 0, .int 0])), (a2, .inr (2, [.ref b6, .int 0, .ref b7, .int 0])), (o0, .inl (cy 1, 1, .inr (.inl ((fun _ => 0)))))] sz)) 0 0 (va_A [(a0, .inr (8, [.ref a1, .ref aT])), (a1, .inr (5, [.ref a2, .ref b1, .ref b2, .ref b3, .ref b4, .ref b5, .int 0, .int 1, .int 0, .int 0, .int 0, .int 0])), (a2, .inr (2, [.ref b6, .int 0, .ref b7, .int 0])), (o0, .inl (cy 1, 1, .inr (.inl ((fun _ => 0)))))] sz) := by
  refine vx_ofWH (cc := cL_step) (maxL := 4) (ret := (some .int)) (hh := [(0, 9, 12, 21)]) (by decide) rfl ?_
  intro p e s m args below meth c s₁ B hml hv
  obtain ⟨rfl, hsz, hP, hK, hD0, hE, hZ⟩ := hv
  have hx := B.exec
  have hb := B.bytes
  have hr := B.returns
  have hts0 := atoms_spec (ws := tp_wW yL_step cL_step 4 (some .int) [(0, 9, 12, 21)]) B.pre
  have hts : ∀ w ∈ tp_all, w.before _ s = true := fun w h => hts0 w (List.mem_cons_of_mem _ h)
  have htb : c.exceptionTable.toList = tableOf [(0, 9, 12, 21)] := vx_table (x := yL_step) B (hts0 _ List.mem_cons_self)
  have hown : s.vm.findClass RL = some m.cls := findClass_of_methodNamed B.named
  have hlocks := B.notSynchronized
  subst hsz
  have hD := hD0.self (sz := s.heap.size)
  generalize hAe : va_A [(a0, .inr (8, [.ref a1, .ref aT])), (a1, .inr (5, [.ref a2, .ref b1, .ref b2, .ref b3, .ref b4, .ref b5, .int 0, .int 1, .int 0, .int 0, .int 0, .int 0])), (a2, .inr (2, [.ref b6, .int 0, .ref b7, .int 0])), (o0, .inl (cy 1, 1, .inr (.inl ((fun _ => 0)))))] s.heap.size = A at hD hZ ⊢
  have hA : ∀ q : Nat, s.heap.size ≤ q → A q := fun q h => by rw [← hAe]; exact Or.inr h
  have hS : va_S A s.heap s.heap [] := va_S.rf
  have hl9 := lv_entry ([.ref a0, .int (nI n), .ref o0]) (n := 4) (Nat.le_of_ble_eq_true rfl)
  rw [lg_entry_eq]
  generalize (lg_sl ([.ref a0, .int (nI n), .ref o0]) ++ List.replicate (4 - (lg_sl ([.ref a0, .int (nI n), .ref o0])).length) Slot.unset).toArray = ls at hl9 ⊢
  have hl : lv_has ls 4 [(0, .ref a0), (1, .int (nI n)), (2, .ref o0)] := hl9
  refine lv_aload_n hx hb dL_step_0 rfl (lv_at hl 2 rfl) ?_
  refine lv_iconst (v := 0) hx hb dL_step_1 (by decide) ?_
  refine lv_aload_n hx hb dL_step_2 rfl (lv_at hl 0 rfl) ?_
  refine lv_iload_n hx hb dL_step_3 rfl (lv_at hl 1 rfl) ?_
  have hFc := va_free (wc := [(a0, .inr (8, [.ref a1, .ref aT])), (a1, .inr (5, [.ref a2, .ref b1, .ref b2, .ref b3, .ref b4, .ref b5, .int 0, .int 1, .int 0, .int 0, .int 0, .int 0])), (a2, .inr (2, [.ref b6, .int 0, .ref b7, .int 0]))]) hD hS hA [0, 1, 2] rfl
  refine va_calli (va_runV (As := [.int (nI n)]) (rest := [.int 0, .ref o0]) ⟨hx, hb, hml, hown, hts⟩ (tm_step_in l hst dC dI cy a0 a1 a2 aT b1 b2 b3 b4 b5 b6 b7 n s.heap.size (by first | assumption | exact tp_none _ | decide | omega) (by first | assumption | exact tp_none _ | decide | omega)) (tp_cwV 1 hts tw_786 tw_787 tw_788 tw_38 tw_789 rfl rfl (by decide +kernel) ⟨Nat.le_of_ble_eq_true rfl, Nat.le_of_ble_eq_true rfl⟩) ⟨tp_blind, va_recv hK hP (ci := 8) (q0 := 0) rfl rfl, fun U hU hW => ⟨rfl, tp_pay hK hP hD hE hZ hS [0, 1, 2] (by decide) rfl hFc U hU hW⟩⟩ rfl rfl hl.1 rfl (lv_room (Nat.le_of_ble_eq_true rfl)) dL_step_4 ⟨(Nat.le_of_ble_eq_true rfl), (Nat.le_of_ble_eq_true rfl)⟩) hS (fun q _ h => hFc q h) hFc (fun r_1 u t H1 locs ht hvm hw hB hz1 hk1 hS => ?_)
  obtain rfl := hw
  obtain ⟨f_2, hP1, hD1⟩ := hB
  subst f_2
  rw [ht] at hP1
  obtain ⟨hP, hD⟩ := va_join (wr := [(o0, .inl (cy 1, 1, .inr (.inl ((fun _ => 0)))))]) (w1 := []) hP hD [0, 1, 2] [3] rfl rfl (by decide) (by decide) hk1 hFc hP1 hD1
  generalize H1 = H at hP hS ⊢
  have hP : va_P (dC, dI) vwCl [(o0, .inl (cy 1, 1, .inr (.inl ((fun _ => 0)))))] _ := hP
  have hD : va_D A [(o0, .inl (cy 1, 1, .inr (.inl ((fun _ => 0)))))] := hD
  refine lv_i2l (v := (nI n).toInt64) hx hb dL_step_7 rfl ?_
  refine va_last hx hb hK hP hD hS 0 1 rfl rfl (by unfold vp_in; decide) dL_step_8 (fun H locs hP hD hS => ?_)
  have hP : va_P (dC, dI) vwCl [(o0, .inl (cy 1, 1, .inr (.inl (vp_updL ((fun _ => 0)) (0 : Int32).toNatClampNeg ((nI n).toInt64)))))] _ := hP
  have hD : va_D A [(o0, .inl (cy 1, 1, .inr (.inl (vp_updL ((fun _ => 0)) (0 : Int32).toNatClampNeg ((nI n).toInt64)))))] := hD
  refine lv_goto (tgt := 15) hx hb dL_step_9 (by decide) ?_
  refine lv_iconst (v := 0) hx hb dL_step_15 (by decide) ?_
  refine W.widen (k := 0) (n := 0) (Nat.le_of_ble_eq_true rfl) (Nat.le_of_ble_eq_true rfl) ?_
  refine vx_ret ?_
  have hP9 := hP.sub (ws' := [(o0, .inl (cy 1, 1, .inr (.inl (vp_updL ((fun _ => 0)) (0 : Int32).toNatClampNeg ((nI n).toInt64)))))]) [0] rfl
  have hD9 := hD.sub (ws' := [(o0, .inl (cy 1, 1, .inr (.inl (vp_updL ((fun _ => 0)) (0 : Int32).toNatClampNeg ((nI n).toInt64)))))]) [0] (by decide) rfl
  exact W.iret (v := 0) hx hb hr (fun t ht hW => ⟨⟨0, 0, rfl, rfl, ⟨(vp_updL ((fun _ => 0)) (0 : Int32).toNatClampNeg ((nI n).toInt64)), (by first | exact pk_uLs | rfl | assumption), (by first | exact pk_uLs | rfl | assumption), by rw [ht]; exact hP9, hD9⟩⟩, hS.F ht⟩) hS.2.2 dL_step_16
set_option maxRecDepth 100000 in
set_option maxHeartbeats 4000000 in
/-- step refused -/
theorem tm_L_step_out (l : Launch) (hst : l.stackTraces = false) (dC : Nat → ClassId) (dI : Nat → Nat → Nat) (cy : Nat → ClassId) (a0 : Nat) (a1 : Nat) (a2 : Nat) (aT : Nat) (b1 : Nat) (b2 : Nat) (b3 : Nat) (b4 : Nat) (b5 : Nat) (b6 : Nat) (b7 : Nat) (o0 : Nat) (x : Int32) (sz : Nat) (hc : ¬ ((1 : Int32) ≤ x ∧ x ≤ 60)) : vx_Met l yL_step (tp_wW yL_step cL_step 4 (some .int) [(0, 9, 12, 21)]) ({ frames := 9, cells := 1, slots := 6, locals := 144 }) (va_Pc [.ref a0, .int x, .ref o0] (tp_Pre dC dI cy [(a0, .inr (8, [.ref a1, .ref aT])), (a1, .inr (5, [.ref a2, .ref b1, .ref b2, .ref b3, .ref b4, .ref b5, .int 0, .int 1, .int 0, .int 0, .int 0, .int 0])), (a2, .inr (2, [.ref b6, .int 0, .ref b7, .int 0])), (o0, .inl (cy 1, 1, .inr (.inl ((fun _ => 0)))))] sz)) (va_Qi (fun (r u : Int32) => r = u) (fun (u : Int32) (t : State) => (u = 1) ∧ tp_Post dC dI (va_A [(a0, .inr (8, [.ref a1, .ref aT])), (a1, .inr (5, [.ref a2, .ref b1, .ref b2, .ref b3, .ref b4, .ref b5, .int 0, .int 1, .int 0, .int 0, .int 0, .int 0])), (a2, .inr (2, [.ref b6, .int 0, .ref b7, .int 0])), (o0, .inl (cy 1, 1, .inr (.inl ((fun _ => 0)))))] sz) [(o0, .inl (cy 1, 1, .inr (.inl ((fun _ => 0)))))] t) (va_A [(a0, .inr (8, [.ref a1, .ref aT])), (a1, .inr (5, [.ref a2, .ref b1, .ref b2, .ref b3, .ref b4, .ref b5, .int 0, .int 1, .int 0, .int 0, .int 0, .int 0])), (a2, .inr (2, [.ref b6, .int 0, .ref b7, .int 0])), (o0, .inl (cy 1, 1, .inr (.inl ((fun _ => 0)))))] sz)) (vx_X (fun _ : Unit => True) (fun (E : String) (_ : Unit) (t : State) => (False) ∧ tp_Post dC dI (va_A [(a0, .inr (8, [.ref a1, .ref aT])), (a1, .inr (5, [.ref a2, .ref b1, .ref b2, .ref b3, .ref b4, .ref b5, .int 0, .int 1, .int 0, .int 0, .int 0, .int 0])), (a2, .inr (2, [.ref b6, .int 0, .ref b7, .int 0])), (o0, .inl (cy 1, 1, .inr (.inl ((fun _ => 0)))))] sz) [] t) (va_A [(a0, .inr (8, [.ref a1, .ref aT])), (a1, .inr (5, [.ref a2, .ref b1, .ref b2, .ref b3, .ref b4, .ref b5, .int 0, .int 1, .int 0, .int 0, .int 0, .int 0])), (a2, .inr (2, [.ref b6, .int 0, .ref b7, .int 0])), (o0, .inl (cy 1, 1, .inr (.inl ((fun _ => 0)))))] sz)) 1 6 (va_A [(a0, .inr (8, [.ref a1, .ref aT])), (a1, .inr (5, [.ref a2, .ref b1, .ref b2, .ref b3, .ref b4, .ref b5, .int 0, .int 1, .int 0, .int 0, .int 0, .int 0])), (a2, .inr (2, [.ref b6, .int 0, .ref b7, .int 0])), (o0, .inl (cy 1, 1, .inr (.inl ((fun _ => 0)))))] sz) := by
  refine vx_ofWH (cc := cL_step) (maxL := 4) (ret := (some .int)) (hh := [(0, 9, 12, 21)]) (by decide) rfl ?_
  intro p e s m args below meth c s₁ B hml hv
  obtain ⟨rfl, hsz, hP, hK, hD0, hE, hZ⟩ := hv
  have hx := B.exec
  have hb := B.bytes
  have hr := B.returns
  have hts0 := atoms_spec (ws := tp_wW yL_step cL_step 4 (some .int) [(0, 9, 12, 21)]) B.pre
  have hts : ∀ w ∈ tp_all, w.before _ s = true := fun w h => hts0 w (List.mem_cons_of_mem _ h)
  have htb : c.exceptionTable.toList = tableOf [(0, 9, 12, 21)] := vx_table (x := yL_step) B (hts0 _ List.mem_cons_self)
  have hown : s.vm.findClass RL = some m.cls := findClass_of_methodNamed B.named
  have hlocks := B.notSynchronized
  subst hsz
  have hD := hD0.self (sz := s.heap.size)
  generalize hAe : va_A [(a0, .inr (8, [.ref a1, .ref aT])), (a1, .inr (5, [.ref a2, .ref b1, .ref b2, .ref b3, .ref b4, .ref b5, .int 0, .int 1, .int 0, .int 0, .int 0, .int 0])), (a2, .inr (2, [.ref b6, .int 0, .ref b7, .int 0])), (o0, .inl (cy 1, 1, .inr (.inl ((fun _ => 0)))))] s.heap.size = A at hD hZ ⊢
  have hA : ∀ q : Nat, s.heap.size ≤ q → A q := fun q h => by rw [← hAe]; exact Or.inr h
  have hS : va_S A s.heap s.heap [] := va_S.rf
  have hl9 := lv_entry ([.ref a0, .int x, .ref o0]) (n := 4) (Nat.le_of_ble_eq_true rfl)
  rw [lg_entry_eq]
  generalize (lg_sl ([.ref a0, .int x, .ref o0]) ++ List.replicate (4 - (lg_sl ([.ref a0, .int x, .ref o0])).length) Slot.unset).toArray = ls at hl9 ⊢
  have hl : lv_has ls 4 [(0, .ref a0), (1, .int x), (2, .ref o0)] := hl9
  refine lv_aload_n hx hb dL_step_0 rfl (lv_at hl 2 rfl) ?_
  refine lv_iconst (v := 0) hx hb dL_step_1 (by decide) ?_
  refine lv_aload_n hx hb dL_step_2 rfl (lv_at hl 0 rfl) ?_
  refine lv_iload_n hx hb dL_step_3 rfl (lv_at hl 1 rfl) ?_
  have hFc := va_free (wc := [(a0, .inr (8, [.ref a1, .ref aT])), (a1, .inr (5, [.ref a2, .ref b1, .ref b2, .ref b3, .ref b4, .ref b5, .int 0, .int 1, .int 0, .int 0, .int 0, .int 0])), (a2, .inr (2, [.ref b6, .int 0, .ref b7, .int 0]))]) hD hS hA [0, 1, 2] rfl
  refine vx_callv (vx_runV (As := [.int x]) (rest := [.int 0, .ref o0]) ⟨hx, hb, hml, hown, hts⟩ (tm_step_out l hst dC dI cy a0 a1 a2 aT b1 b2 b3 b4 b5 b6 b7 x s.heap.size (by first | assumption | exact tp_none _ | decide | omega)) (tp_cwV 1 hts tw_786 tw_787 tw_788 tw_38 tw_789 rfl rfl (by decide +kernel) ⟨Nat.le_of_ble_eq_true rfl, Nat.le_of_ble_eq_true rfl⟩) ⟨tp_blind, va_recv hK hP (ci := 8) (q0 := 0) rfl rfl, fun U hU hW => ⟨rfl, tp_pay hK hP hD hE hZ hS [0, 1, 2] (by decide) rfl hFc U hU hW⟩⟩ rfl rfl hl.1 rfl (lv_room (Nat.le_of_ble_eq_true rfl)) dL_step_4 ⟨(Nat.le_of_ble_eq_true rfl), (Nat.le_of_ble_eq_true rfl)⟩) hS (fun q _ h => hFc q h) hFc (fun q _ h => hFc q h) (fun E9 ce q9 u t H1 locs ht hvm hw hB hz1 hk1 hS hce hcv hcl => ?_) (fun u t H1 locs ht hvm hw hB hz1 hk1 hS => ?_)
  · obtain ⟨rfl, hP1, hD1⟩ := hB
    rw [ht] at hP1
    obtain ⟨hP, hD⟩ := va_join (wr := [(o0, .inl (cy 1, 1, .inr (.inl ((fun _ => 0)))))]) (w1 := []) hP hD [0, 1, 2] [3] rfl rfl (by decide) (by decide) hk1 hFc hP1 hD1
    generalize H1 = H at hP hS hce ⊢
    have hP : va_P (dC, dI) vwCl [(o0, .inl (cy 1, 1, .inr (.inl ((fun _ => 0)))))] _ := hP
    have hD : va_D A [(o0, .inl (cy 1, 1, .inr (.inl ((fun _ => 0)))))] := hD
    refine vx_catch (own := RL) (name := "java/lang/IllegalArgumentException") hown [] { startPc := 0, endPc := 9, handlerPc := 12, catchType := 21 } [] htb (fun z hz => by cases hz) (by decide) (by decide) (hts _ tw_701) (va_Nw.use rfl (hE.2.2.2.2.2.1 _ (List.mem_of_getElem? (i := 1) rfl))) hce hcv hcl ?_
    refine lv_astore_n (lv' := [(3, .ref q9), (0, .ref a0), (1, .int x), (2, .ref o0)]) hx hb dL_step_12 rfl hl (by decide) rfl (fun ls hl => ?_)
    refine lv_iconst (v := 1) hx hb dL_step_13 (by decide) ?_
    refine W.widen (k := 1) (n := 6) (Nat.le_of_ble_eq_true rfl) (Nat.le_of_ble_eq_true rfl) ?_
    refine vx_ret ?_
    have hP9 := hP.sub (ws' := [(o0, .inl (cy 1, 1, .inr (.inl ((fun _ => 0)))))]) [0] rfl
    have hD9 := hD.sub (ws' := [(o0, .inl (cy 1, 1, .inr (.inl ((fun _ => 0)))))]) [0] (by decide) rfl
    exact W.iret (v := 1) hx hb hr (fun t ht hW => ⟨⟨1, 1, rfl, rfl, ⟨(by first | exact pk_uLs | rfl | assumption), by rw [ht]; exact hP9, hD9⟩⟩, hS.F ht⟩) hS.2.2 dL_step_14
  · exact hw.elim
set_option maxRecDepth 100000 in
set_option maxHeartbeats 4000000 in
/-- emptyIn -/
theorem tm_L_emptyIn_in (l : Launch) (hst : l.stackTraces = false) (dC : Nat → ClassId) (dI : Nat → Nat → Nat) (cy : Nat → ClassId) (a0 : Nat) (a1 : Nat) (a2 : Nat) (aT : Nat) (b1 : Nat) (b2 : Nat) (b3 : Nat) (b4 : Nat) (b5 : Nat) (b6 : Nat) (b7 : Nat) (o0 : Nat) (x : Int32) (sz : Nat) (hc : (1 : Int32) ≤ x ∧ x ≤ 60) : vx_Met l yL_emptyIn (tp_wW yL_emptyIn cL_emptyIn 4 (some .int) [(0, 9, 12, 21)]) ({ frames := 3, cells := 0, slots := 0, locals := 64 }) (va_Pc [.ref a0, .int x, .ref o0] (tp_Pre dC dI cy [(a0, .inr (8, [.ref a1, .ref aT])), (a1, .inr (5, [.ref a2, .ref b1, .ref b2, .ref b3, .ref b4, .ref b5, .int 0, .int 1, .int 0, .int 0, .int 0, .int 0])), (a2, .inr (2, [.ref b6, .int 0, .ref b7, .int 0])), (o0, .inl (cy 1, 1, .inr (.inl ((fun _ => 0)))))] sz)) (va_Qi (fun (r u : Int32) => r = u) (fun (u : Int32) (t : State) => ∃ (g : Nat → Int64), (u = 0) ∧ (g (0 : Int32).toNatClampNeg = 0) ∧ tp_Post dC dI (va_A [(a0, .inr (8, [.ref a1, .ref aT])), (a1, .inr (5, [.ref a2, .ref b1, .ref b2, .ref b3, .ref b4, .ref b5, .int 0, .int 1, .int 0, .int 0, .int 0, .int 0])), (a2, .inr (2, [.ref b6, .int 0, .ref b7, .int 0])), (o0, .inl (cy 1, 1, .inr (.inl ((fun _ => 0)))))] sz) [(o0, .inl (cy 1, 1, .inr (.inl g)))] t) (va_A [(a0, .inr (8, [.ref a1, .ref aT])), (a1, .inr (5, [.ref a2, .ref b1, .ref b2, .ref b3, .ref b4, .ref b5, .int 0, .int 1, .int 0, .int 0, .int 0, .int 0])), (a2, .inr (2, [.ref b6, .int 0, .ref b7, .int 0])), (o0, .inl (cy 1, 1, .inr (.inl ((fun _ => 0)))))] sz)) (vx_X (fun _ : Unit => True) (fun (E : String) (_ : Unit) (t : State) => (False) ∧ tp_Post dC dI (va_A [(a0, .inr (8, [.ref a1, .ref aT])), (a1, .inr (5, [.ref a2, .ref b1, .ref b2, .ref b3, .ref b4, .ref b5, .int 0, .int 1, .int 0, .int 0, .int 0, .int 0])), (a2, .inr (2, [.ref b6, .int 0, .ref b7, .int 0])), (o0, .inl (cy 1, 1, .inr (.inl ((fun _ => 0)))))] sz) [] t) (va_A [(a0, .inr (8, [.ref a1, .ref aT])), (a1, .inr (5, [.ref a2, .ref b1, .ref b2, .ref b3, .ref b4, .ref b5, .int 0, .int 1, .int 0, .int 0, .int 0, .int 0])), (a2, .inr (2, [.ref b6, .int 0, .ref b7, .int 0])), (o0, .inl (cy 1, 1, .inr (.inl ((fun _ => 0)))))] sz)) 0 0 (va_A [(a0, .inr (8, [.ref a1, .ref aT])), (a1, .inr (5, [.ref a2, .ref b1, .ref b2, .ref b3, .ref b4, .ref b5, .int 0, .int 1, .int 0, .int 0, .int 0, .int 0])), (a2, .inr (2, [.ref b6, .int 0, .ref b7, .int 0])), (o0, .inl (cy 1, 1, .inr (.inl ((fun _ => 0)))))] sz) := by
  refine vx_ofWH (cc := cL_emptyIn) (maxL := 4) (ret := (some .int)) (hh := [(0, 9, 12, 21)]) (by decide) rfl ?_
  intro p e s m args below meth c s₁ B hml hv
  obtain ⟨rfl, hsz, hP, hK, hD0, hE, hZ⟩ := hv
  have hx := B.exec
  have hb := B.bytes
  have hr := B.returns
  have hts0 := atoms_spec (ws := tp_wW yL_emptyIn cL_emptyIn 4 (some .int) [(0, 9, 12, 21)]) B.pre
  have hts : ∀ w ∈ tp_all, w.before _ s = true := fun w h => hts0 w (List.mem_cons_of_mem _ h)
  have htb : c.exceptionTable.toList = tableOf [(0, 9, 12, 21)] := vx_table (x := yL_emptyIn) B (hts0 _ List.mem_cons_self)
  have hown : s.vm.findClass RL = some m.cls := findClass_of_methodNamed B.named
  have hlocks := B.notSynchronized
  subst hsz
  have hD := hD0.self (sz := s.heap.size)
  generalize hAe : va_A [(a0, .inr (8, [.ref a1, .ref aT])), (a1, .inr (5, [.ref a2, .ref b1, .ref b2, .ref b3, .ref b4, .ref b5, .int 0, .int 1, .int 0, .int 0, .int 0, .int 0])), (a2, .inr (2, [.ref b6, .int 0, .ref b7, .int 0])), (o0, .inl (cy 1, 1, .inr (.inl ((fun _ => 0)))))] s.heap.size = A at hD hZ ⊢
  have hA : ∀ q : Nat, s.heap.size ≤ q → A q := fun q h => by rw [← hAe]; exact Or.inr h
  have hS : va_S A s.heap s.heap [] := va_S.rf
  have hl9 := lv_entry ([.ref a0, .int x, .ref o0]) (n := 4) (Nat.le_of_ble_eq_true rfl)
  rw [lg_entry_eq]
  generalize (lg_sl ([.ref a0, .int x, .ref o0]) ++ List.replicate (4 - (lg_sl ([.ref a0, .int x, .ref o0])).length) Slot.unset).toArray = ls at hl9 ⊢
  have hl : lv_has ls 4 [(0, .ref a0), (1, .int x), (2, .ref o0)] := hl9
  refine lv_aload_n hx hb dL_emptyIn_0 rfl (lv_at hl 2 rfl) ?_
  refine lv_iconst (v := 0) hx hb dL_emptyIn_1 (by decide) ?_
  refine lv_aload_n hx hb dL_emptyIn_2 rfl (lv_at hl 0 rfl) ?_
  refine lv_iload_n hx hb dL_emptyIn_3 rfl (lv_at hl 1 rfl) ?_
  have hFc := va_free (wc := [(a0, .inr (8, [.ref a1, .ref aT])), (a1, .inr (5, [.ref a2, .ref b1, .ref b2, .ref b3, .ref b4, .ref b5, .int 0, .int 1, .int 0, .int 0, .int 0, .int 0])), (a2, .inr (2, [.ref b6, .int 0, .ref b7, .int 0]))]) hD hS hA [0, 1, 2] rfl
  refine va_calli (va_runV (As := [.int x]) (rest := [.int 0, .ref o0]) ⟨hx, hb, hml, hown, hts⟩ (tm_emptyIn_in l hst dC dI cy a0 a1 a2 aT b1 b2 b3 b4 b5 b6 b7 x s.heap.size (by first | assumption | exact tp_none _ | decide | omega)) (tp_cwV 1 hts tw_1108 tw_1109 tw_1110 tw_38 tw_1111 rfl rfl (by decide +kernel) ⟨Nat.le_of_ble_eq_true rfl, Nat.le_of_ble_eq_true rfl⟩) ⟨tp_blind, va_recv hK hP (ci := 8) (q0 := 0) rfl rfl, fun U hU hW => ⟨rfl, tp_pay hK hP hD hE hZ hS [0, 1, 2] (by decide) rfl hFc U hU hW⟩⟩ rfl rfl hl.1 rfl (lv_room (Nat.le_of_ble_eq_true rfl)) dL_emptyIn_4 ⟨(Nat.le_of_ble_eq_true rfl), (Nat.le_of_ble_eq_true rfl)⟩) hS (fun q _ h => hFc q h) hFc (fun r_1 u t H1 locs ht hvm hw hB hz1 hk1 hS => ?_)
  obtain rfl := hw
  obtain ⟨f_2, hP1, hD1⟩ := hB
  subst f_2
  rw [ht] at hP1
  obtain ⟨hP, hD⟩ := va_join (wr := [(o0, .inl (cy 1, 1, .inr (.inl ((fun _ => 0)))))]) (w1 := []) hP hD [0, 1, 2] [3] rfl rfl (by decide) (by decide) hk1 hFc hP1 hD1
  generalize H1 = H at hP hS ⊢
  have hP : va_P (dC, dI) vwCl [(o0, .inl (cy 1, 1, .inr (.inl ((fun _ => 0)))))] _ := hP
  have hD : va_D A [(o0, .inl (cy 1, 1, .inr (.inl ((fun _ => 0)))))] := hD
  refine lv_i2l (v := 0) hx hb dL_emptyIn_7 (by decide) ?_
  refine va_last hx hb hK hP hD hS 0 1 rfl rfl (by unfold vp_in; decide) dL_emptyIn_8 (fun H locs hP hD hS => ?_)
  have hP : va_P (dC, dI) vwCl [(o0, .inl (cy 1, 1, .inr (.inl (vp_updL ((fun _ => 0)) (0 : Int32).toNatClampNeg 0))))] _ := hP
  have hD : va_D A [(o0, .inl (cy 1, 1, .inr (.inl (vp_updL ((fun _ => 0)) (0 : Int32).toNatClampNeg 0))))] := hD
  refine lv_goto (tgt := 15) hx hb dL_emptyIn_9 (by decide) ?_
  refine lv_iconst (v := 0) hx hb dL_emptyIn_15 (by decide) ?_
  refine W.widen (k := 0) (n := 0) (Nat.le_of_ble_eq_true rfl) (Nat.le_of_ble_eq_true rfl) ?_
  refine vx_ret ?_
  have hP9 := hP.sub (ws' := [(o0, .inl (cy 1, 1, .inr (.inl (vp_updL ((fun _ => 0)) (0 : Int32).toNatClampNeg 0))))]) [0] rfl
  have hD9 := hD.sub (ws' := [(o0, .inl (cy 1, 1, .inr (.inl (vp_updL ((fun _ => 0)) (0 : Int32).toNatClampNeg 0))))]) [0] (by decide) rfl
  exact W.iret (v := 0) hx hb hr (fun t ht hW => ⟨⟨0, 0, rfl, rfl, ⟨(vp_updL ((fun _ => 0)) (0 : Int32).toNatClampNeg 0), (by first | exact pk_uLs | rfl | assumption), (by first | exact pk_uLs | rfl | assumption), by rw [ht]; exact hP9, hD9⟩⟩, hS.F ht⟩) hS.2.2 dL_emptyIn_16
set_option maxRecDepth 100000 in
set_option maxHeartbeats 4000000 in
/-- emptyIn refused -/
theorem tm_L_emptyIn_out (l : Launch) (hst : l.stackTraces = false) (dC : Nat → ClassId) (dI : Nat → Nat → Nat) (cy : Nat → ClassId) (a0 : Nat) (a1 : Nat) (a2 : Nat) (aT : Nat) (b1 : Nat) (b2 : Nat) (b3 : Nat) (b4 : Nat) (b5 : Nat) (b6 : Nat) (b7 : Nat) (o0 : Nat) (x : Int32) (sz : Nat) (hc : ¬ ((1 : Int32) ≤ x ∧ x ≤ 60)) : vx_Met l yL_emptyIn (tp_wW yL_emptyIn cL_emptyIn 4 (some .int) [(0, 9, 12, 21)]) ({ frames := 9, cells := 1, slots := 6, locals := 144 }) (va_Pc [.ref a0, .int x, .ref o0] (tp_Pre dC dI cy [(a0, .inr (8, [.ref a1, .ref aT])), (a1, .inr (5, [.ref a2, .ref b1, .ref b2, .ref b3, .ref b4, .ref b5, .int 0, .int 1, .int 0, .int 0, .int 0, .int 0])), (a2, .inr (2, [.ref b6, .int 0, .ref b7, .int 0])), (o0, .inl (cy 1, 1, .inr (.inl ((fun _ => 0)))))] sz)) (va_Qi (fun (r u : Int32) => r = u) (fun (u : Int32) (t : State) => (u = 1) ∧ tp_Post dC dI (va_A [(a0, .inr (8, [.ref a1, .ref aT])), (a1, .inr (5, [.ref a2, .ref b1, .ref b2, .ref b3, .ref b4, .ref b5, .int 0, .int 1, .int 0, .int 0, .int 0, .int 0])), (a2, .inr (2, [.ref b6, .int 0, .ref b7, .int 0])), (o0, .inl (cy 1, 1, .inr (.inl ((fun _ => 0)))))] sz) [(o0, .inl (cy 1, 1, .inr (.inl ((fun _ => 0)))))] t) (va_A [(a0, .inr (8, [.ref a1, .ref aT])), (a1, .inr (5, [.ref a2, .ref b1, .ref b2, .ref b3, .ref b4, .ref b5, .int 0, .int 1, .int 0, .int 0, .int 0, .int 0])), (a2, .inr (2, [.ref b6, .int 0, .ref b7, .int 0])), (o0, .inl (cy 1, 1, .inr (.inl ((fun _ => 0)))))] sz)) (vx_X (fun _ : Unit => True) (fun (E : String) (_ : Unit) (t : State) => (False) ∧ tp_Post dC dI (va_A [(a0, .inr (8, [.ref a1, .ref aT])), (a1, .inr (5, [.ref a2, .ref b1, .ref b2, .ref b3, .ref b4, .ref b5, .int 0, .int 1, .int 0, .int 0, .int 0, .int 0])), (a2, .inr (2, [.ref b6, .int 0, .ref b7, .int 0])), (o0, .inl (cy 1, 1, .inr (.inl ((fun _ => 0)))))] sz) [] t) (va_A [(a0, .inr (8, [.ref a1, .ref aT])), (a1, .inr (5, [.ref a2, .ref b1, .ref b2, .ref b3, .ref b4, .ref b5, .int 0, .int 1, .int 0, .int 0, .int 0, .int 0])), (a2, .inr (2, [.ref b6, .int 0, .ref b7, .int 0])), (o0, .inl (cy 1, 1, .inr (.inl ((fun _ => 0)))))] sz)) 1 6 (va_A [(a0, .inr (8, [.ref a1, .ref aT])), (a1, .inr (5, [.ref a2, .ref b1, .ref b2, .ref b3, .ref b4, .ref b5, .int 0, .int 1, .int 0, .int 0, .int 0, .int 0])), (a2, .inr (2, [.ref b6, .int 0, .ref b7, .int 0])), (o0, .inl (cy 1, 1, .inr (.inl ((fun _ => 0)))))] sz) := by
  refine vx_ofWH (cc := cL_emptyIn) (maxL := 4) (ret := (some .int)) (hh := [(0, 9, 12, 21)]) (by decide) rfl ?_
  intro p e s m args below meth c s₁ B hml hv
  obtain ⟨rfl, hsz, hP, hK, hD0, hE, hZ⟩ := hv
  have hx := B.exec
  have hb := B.bytes
  have hr := B.returns
  have hts0 := atoms_spec (ws := tp_wW yL_emptyIn cL_emptyIn 4 (some .int) [(0, 9, 12, 21)]) B.pre
  have hts : ∀ w ∈ tp_all, w.before _ s = true := fun w h => hts0 w (List.mem_cons_of_mem _ h)
  have htb : c.exceptionTable.toList = tableOf [(0, 9, 12, 21)] := vx_table (x := yL_emptyIn) B (hts0 _ List.mem_cons_self)
  have hown : s.vm.findClass RL = some m.cls := findClass_of_methodNamed B.named
  have hlocks := B.notSynchronized
  subst hsz
  have hD := hD0.self (sz := s.heap.size)
  generalize hAe : va_A [(a0, .inr (8, [.ref a1, .ref aT])), (a1, .inr (5, [.ref a2, .ref b1, .ref b2, .ref b3, .ref b4, .ref b5, .int 0, .int 1, .int 0, .int 0, .int 0, .int 0])), (a2, .inr (2, [.ref b6, .int 0, .ref b7, .int 0])), (o0, .inl (cy 1, 1, .inr (.inl ((fun _ => 0)))))] s.heap.size = A at hD hZ ⊢
  have hA : ∀ q : Nat, s.heap.size ≤ q → A q := fun q h => by rw [← hAe]; exact Or.inr h
  have hS : va_S A s.heap s.heap [] := va_S.rf
  have hl9 := lv_entry ([.ref a0, .int x, .ref o0]) (n := 4) (Nat.le_of_ble_eq_true rfl)
  rw [lg_entry_eq]
  generalize (lg_sl ([.ref a0, .int x, .ref o0]) ++ List.replicate (4 - (lg_sl ([.ref a0, .int x, .ref o0])).length) Slot.unset).toArray = ls at hl9 ⊢
  have hl : lv_has ls 4 [(0, .ref a0), (1, .int x), (2, .ref o0)] := hl9
  refine lv_aload_n hx hb dL_emptyIn_0 rfl (lv_at hl 2 rfl) ?_
  refine lv_iconst (v := 0) hx hb dL_emptyIn_1 (by decide) ?_
  refine lv_aload_n hx hb dL_emptyIn_2 rfl (lv_at hl 0 rfl) ?_
  refine lv_iload_n hx hb dL_emptyIn_3 rfl (lv_at hl 1 rfl) ?_
  have hFc := va_free (wc := [(a0, .inr (8, [.ref a1, .ref aT])), (a1, .inr (5, [.ref a2, .ref b1, .ref b2, .ref b3, .ref b4, .ref b5, .int 0, .int 1, .int 0, .int 0, .int 0, .int 0])), (a2, .inr (2, [.ref b6, .int 0, .ref b7, .int 0]))]) hD hS hA [0, 1, 2] rfl
  refine vx_callv (vx_runV (As := [.int x]) (rest := [.int 0, .ref o0]) ⟨hx, hb, hml, hown, hts⟩ (tm_emptyIn_out l hst dC dI cy a0 a1 a2 aT b1 b2 b3 b4 b5 b6 b7 x s.heap.size (by first | assumption | exact tp_none _ | decide | omega)) (tp_cwV 1 hts tw_1108 tw_1109 tw_1110 tw_38 tw_1111 rfl rfl (by decide +kernel) ⟨Nat.le_of_ble_eq_true rfl, Nat.le_of_ble_eq_true rfl⟩) ⟨tp_blind, va_recv hK hP (ci := 8) (q0 := 0) rfl rfl, fun U hU hW => ⟨rfl, tp_pay hK hP hD hE hZ hS [0, 1, 2] (by decide) rfl hFc U hU hW⟩⟩ rfl rfl hl.1 rfl (lv_room (Nat.le_of_ble_eq_true rfl)) dL_emptyIn_4 ⟨(Nat.le_of_ble_eq_true rfl), (Nat.le_of_ble_eq_true rfl)⟩) hS (fun q _ h => hFc q h) hFc (fun q _ h => hFc q h) (fun E9 ce q9 u t H1 locs ht hvm hw hB hz1 hk1 hS hce hcv hcl => ?_) (fun u t H1 locs ht hvm hw hB hz1 hk1 hS => ?_)
  · obtain ⟨rfl, hP1, hD1⟩ := hB
    rw [ht] at hP1
    obtain ⟨hP, hD⟩ := va_join (wr := [(o0, .inl (cy 1, 1, .inr (.inl ((fun _ => 0)))))]) (w1 := []) hP hD [0, 1, 2] [3] rfl rfl (by decide) (by decide) hk1 hFc hP1 hD1
    generalize H1 = H at hP hS hce ⊢
    have hP : va_P (dC, dI) vwCl [(o0, .inl (cy 1, 1, .inr (.inl ((fun _ => 0)))))] _ := hP
    have hD : va_D A [(o0, .inl (cy 1, 1, .inr (.inl ((fun _ => 0)))))] := hD
    refine vx_catch (own := RL) (name := "java/lang/IllegalArgumentException") hown [] { startPc := 0, endPc := 9, handlerPc := 12, catchType := 21 } [] htb (fun z hz => by cases hz) (by decide) (by decide) (hts _ tw_701) (va_Nw.use rfl (hE.2.2.2.2.2.1 _ (List.mem_of_getElem? (i := 1) rfl))) hce hcv hcl ?_
    refine lv_astore_n (lv' := [(3, .ref q9), (0, .ref a0), (1, .int x), (2, .ref o0)]) hx hb dL_emptyIn_12 rfl hl (by decide) rfl (fun ls hl => ?_)
    refine lv_iconst (v := 1) hx hb dL_emptyIn_13 (by decide) ?_
    refine W.widen (k := 1) (n := 6) (Nat.le_of_ble_eq_true rfl) (Nat.le_of_ble_eq_true rfl) ?_
    refine vx_ret ?_
    have hP9 := hP.sub (ws' := [(o0, .inl (cy 1, 1, .inr (.inl ((fun _ => 0)))))]) [0] rfl
    have hD9 := hD.sub (ws' := [(o0, .inl (cy 1, 1, .inr (.inl ((fun _ => 0)))))]) [0] (by decide) rfl
    exact W.iret (v := 1) hx hb hr (fun t ht hW => ⟨⟨1, 1, rfl, rfl, ⟨(by first | exact pk_uLs | rfl | assumption), by rw [ht]; exact hP9, hD9⟩⟩, hS.F ht⟩) hS.2.2 dL_emptyIn_14
  · exact hw.elim

theorem tw_741 : Cond.fieldLink RX4 21 "Turnpike$Signal" "phase" "I" ∈ tp_all := tp_mem 741 (by decide +kernel) rfl
theorem tw_738 : Cond.fieldLink RX4 25 "Turnpike$Signal" "phases" "I" ∈ tp_all := tp_mem 738 (by decide +kernel) rfl
theorem tw_244 : Cond.code yX4_isOn cX4_isOn 1 (some .boolean) ∈ tp_all := tp_mem 244 (by decide +kernel) rfl
theorem tw_240 : Cond.methodLink RX4 31 yX4_isOn ∈ tp_all := tp_mem 240 (by decide +kernel) rfl
theorem tw_242 : Cond.instanceMethod yX4_isOn ∈ tp_all := tp_mem 242 (by decide +kernel) rfl
theorem tw_5 : Cond.selects RX4 yX4_isOn yX4_isOn ∈ tp_all := tp_mem 5 (by decide +kernel) rfl
theorem tw_27 : Cond.initialized RX4 ∈ tp_all := tp_mem 27 (by decide +kernel) rfl
theorem tw_735 : Cond.fieldLink RX4 9 "Turnpike$Signal" "links" "[I" ∈ tp_all := tp_mem 735 (by decide +kernel) rfl
theorem tw_239 : Cond.code yX4_linksOn cX4_linksOn 1 (some .int) ∈ tp_all := tp_mem 239 (by decide +kernel) rfl
theorem tw_268 : Cond.methodLink RX4 35 yX4_linksOn ∈ tp_all := tp_mem 268 (by decide +kernel) rfl
theorem tw_237 : Cond.instanceMethod yX4_linksOn ∈ tp_all := tp_mem 237 (by decide +kernel) rfl
theorem tw_238 : Cond.selects RX4 yX4_linksOn yX4_linksOn ∈ tp_all := tp_mem 238 (by decide +kernel) rfl
theorem tw_743 : Cond.fieldLink RX4 28 "Turnpike$Signal" "ticks" "I" ∈ tp_all := tp_mem 743 (by decide +kernel) rfl
theorem tw_737 : Cond.fieldLink RX4 18 "Turnpike$Signal" "greatest" "[I" ∈ tp_all := tp_mem 737 (by decide +kernel) rfl
theorem tw_736 : Cond.fieldLink RX4 15 "Turnpike$Signal" "least" "[I" ∈ tp_all := tp_mem 736 (by decide +kernel) rfl
theorem tw_764 : Cond.fieldLink RX0 13 "Turnpike$Flow" "from" "I" ∈ tp_all := tp_mem 764 (by decide +kernel) rfl
theorem tw_766 : Cond.fieldLink RX0 16 "Turnpike$Flow" "to" "I" ∈ tp_all := tp_mem 766 (by decide +kernel) rfl
theorem tw_768 : Cond.fieldLink RX0 19 "Turnpike$Flow" "kind" "I" ∈ tp_all := tp_mem 768 (by decide +kernel) rfl
theorem tw_770 : Cond.fieldLink RX0 22 "Turnpike$Flow" "start" "I" ∈ tp_all := tp_mem 770 (by decide +kernel) rfl
theorem tw_772 : Cond.fieldLink RX0 7 "Turnpike$Flow" "period" "I" ∈ tp_all := tp_mem 772 (by decide +kernel) rfl
theorem tw_774 : Cond.fieldLink RX0 25 "Turnpike$Flow" "most" "I" ∈ tp_all := tp_mem 774 (by decide +kernel) rfl
theorem tw_778 : Cond.fieldLink RX0 28 "Turnpike$Flow" "arrived" "I" ∈ tp_all := tp_mem 778 (by decide +kernel) rfl
theorem tw_782 : Cond.fieldLink RX0 31 "Turnpike$Flow" "sumOfTrips" "I" ∈ tp_all := tp_mem 782 (by decide +kernel) rfl
theorem tw_784 : Cond.fieldLink RX0 34 "Turnpike$Flow" "sumOfDelays" "I" ∈ tp_all := tp_mem 784 (by decide +kernel) rfl
theorem tw_786 : Cond.fieldLink RX0 37 "Turnpike$Flow" "longestTrip" "I" ∈ tp_all := tp_mem 786 (by decide +kernel) rfl
theorem tw_291 : Cond.methodLink RX0 40 yJ9_max_7cf53 ∈ tp_all := tp_mem 291 (by decide +kernel) rfl
theorem tw_818 : Cond.fieldLink RX7 15 "Turnpike$Vehicle" "flow" "I" ∈ tp_all := tp_mem 818 (by decide +kernel) rfl
theorem tw_820 : Cond.fieldLink RX7 19 "Turnpike$Vehicle" "to" "I" ∈ tp_all := tp_mem 820 (by decide +kernel) rfl
theorem tw_823 : Cond.fieldLink RX7 22 "Turnpike$Vehicle" "kind" "I" ∈ tp_all := tp_mem 823 (by decide +kernel) rfl
theorem tw_825 : Cond.fieldLink RX7 25 "Turnpike$Vehicle" "state" "I" ∈ tp_all := tp_mem 825 (by decide +kernel) rfl
theorem tw_828 : Cond.fieldLink RX7 28 "Turnpike$Vehicle" "start" "I" ∈ tp_all := tp_mem 828 (by decide +kernel) rfl
theorem tw_829 : Cond.fieldLink RX7 31 "Turnpike$Vehicle" "link" "I" ∈ tp_all := tp_mem 829 (by decide +kernel) rfl
theorem tw_831 : Cond.fieldLink RX7 34 "Turnpike$Vehicle" "end" "I" ∈ tp_all := tp_mem 831 (by decide +kernel) rfl
theorem tw_834 : Cond.fieldLink RX7 37 "Turnpike$Vehicle" "gone" "I" ∈ tp_all := tp_mem 834 (by decide +kernel) rfl
theorem tw_837 : Cond.fieldLink RX7 40 "Turnpike$Vehicle" "driven" "I" ∈ tp_all := tp_mem 837 (by decide +kernel) rfl
theorem tw_838 : Cond.fieldLink RX7 43 "Turnpike$Vehicle" "trip" "I" ∈ tp_all := tp_mem 838 (by decide +kernel) rfl
theorem tw_841 : Cond.fieldLink RX7 46 "Turnpike$Vehicle" "delay" "I" ∈ tp_all := tp_mem 841 (by decide +kernel) rfl
theorem tw_844 : Cond.fieldLink RX7 49 "Turnpike$Vehicle" "wayLinks" "I" ∈ tp_all := tp_mem 844 (by decide +kernel) rfl
theorem tw_845 : Cond.fieldLink RX7 9 "Turnpike$Vehicle" "way" "[I" ∈ tp_all := tp_mem 845 (by decide +kernel) rfl
theorem dX4_isOn_0 : decode cX4_isOn 0 = .ok (.aload_n 0, 1) := by decide +kernel
theorem dX4_isOn_1 : decode cX4_isOn 1 = .ok (.getfield 21, 3) := by decide +kernel
theorem dX4_isOn_4 : decode cX4_isOn 4 = .ok (.ifCond .lt 18, 3) := by decide +kernel
theorem dX4_isOn_22 : decode cX4_isOn 22 = .ok (.iconst 0, 1) := by decide +kernel
theorem dX4_isOn_23 : decode cX4_isOn 23 = .ok (.ireturn, 1) := by decide +kernel
theorem dX4_isOn_7 : decode cX4_isOn 7 = .ok (.aload_n 0, 1) := by decide +kernel
theorem dX4_isOn_8 : decode cX4_isOn 8 = .ok (.getfield 21, 3) := by decide +kernel
theorem dX4_isOn_11 : decode cX4_isOn 11 = .ok (.aload_n 0, 1) := by decide +kernel
theorem dX4_isOn_12 : decode cX4_isOn 12 = .ok (.getfield 25, 3) := by decide +kernel
theorem dX4_isOn_15 : decode cX4_isOn 15 = .ok (.if_icmp .ge 7, 3) := by decide +kernel
theorem dX4_isOn_18 : decode cX4_isOn 18 = .ok (.iconst 1, 1) := by decide +kernel
theorem dX4_isOn_19 : decode cX4_isOn 19 = .ok (.goto 4, 3) := by decide +kernel
theorem dX4_linksOn_0 : decode cX4_linksOn 0 = .ok (.aload_n 0, 1) := by decide +kernel
theorem dX4_linksOn_1 : decode cX4_linksOn 1 = .ok (.invokevirtual 31, 3) := by decide +kernel
theorem dX4_linksOn_4 : decode cX4_linksOn 4 = .ok (.ifCond .eq 15, 3) := by decide +kernel
theorem dX4_linksOn_19 : decode cX4_linksOn 19 = .ok (.iconst 0, 1) := by decide +kernel
theorem dX4_linksOn_20 : decode cX4_linksOn 20 = .ok (.ireturn, 1) := by decide +kernel
theorem dX4_linksOn_7 : decode cX4_linksOn 7 = .ok (.aload_n 0, 1) := by decide +kernel
theorem dX4_linksOn_8 : decode cX4_linksOn 8 = .ok (.getfield 9, 3) := by decide +kernel
theorem dX4_linksOn_11 : decode cX4_linksOn 11 = .ok (.aload_n 0, 1) := by decide +kernel
theorem dX4_linksOn_12 : decode cX4_linksOn 12 = .ok (.getfield 21, 3) := by decide +kernel
theorem dX4_linksOn_15 : decode cX4_linksOn 15 = .ok (.iaload, 1) := by decide +kernel
theorem dX4_linksOn_16 : decode cX4_linksOn 16 = .ok (.goto 4, 3) := by decide +kernel
theorem dX4_isGreen_0 : decode cX4_isGreen 0 = .ok (.aload_n 0, 1) := by decide +kernel
theorem dX4_isGreen_1 : decode cX4_isGreen 1 = .ok (.getfield 25, 3) := by decide +kernel
theorem dX4_isGreen_4 : decode cX4_isGreen 4 = .ok (.ifCond .eq 15, 3) := by decide +kernel
theorem dX4_isGreen_19 : decode cX4_isGreen 19 = .ok (.iconst 1, 1) := by decide +kernel
theorem dX4_isGreen_20 : decode cX4_isGreen 20 = .ok (.goto 4, 3) := by decide +kernel
theorem dX4_isGreen_24 : decode cX4_isGreen 24 = .ok (.ireturn, 1) := by decide +kernel
theorem dX4_isGreen_7 : decode cX4_isGreen 7 = .ok (.aload_n 0, 1) := by decide +kernel
theorem dX4_isGreen_8 : decode cX4_isGreen 8 = .ok (.invokevirtual 35, 3) := by decide +kernel
theorem dX4_isGreen_11 : decode cX4_isGreen 11 = .ok (.iload_n 1, 1) := by decide +kernel
theorem dX4_isGreen_12 : decode cX4_isGreen 12 = .ok (.ishr, 1) := by decide +kernel
theorem dX4_isGreen_13 : decode cX4_isGreen 13 = .ok (.iconst 1, 1) := by decide +kernel
theorem dX4_isGreen_14 : decode cX4_isGreen 14 = .ok (.iand, 1) := by decide +kernel
theorem dX4_isGreen_15 : decode cX4_isGreen 15 = .ok (.iconst 1, 1) := by decide +kernel
theorem dX4_isGreen_16 : decode cX4_isGreen 16 = .ok (.if_icmp .ne 7, 3) := by decide +kernel
theorem dX4_isGreen_23 : decode cX4_isGreen 23 = .ok (.iconst 0, 1) := by decide +kernel
theorem dX4_playTick_0 : decode cX4_playTick 0 = .ok (.aload_n 0, 1) := by decide +kernel
theorem dX4_playTick_1 : decode cX4_playTick 1 = .ok (.dup, 1) := by decide +kernel
theorem dX4_playTick_2 : decode cX4_playTick 2 = .ok (.getfield 28, 3) := by decide +kernel
theorem dX4_playTick_5 : decode cX4_playTick 5 = .ok (.iconst 1, 1) := by decide +kernel
theorem dX4_playTick_6 : decode cX4_playTick 6 = .ok (.iadd, 1) := by decide +kernel
theorem dX4_playTick_7 : decode cX4_playTick 7 = .ok (.putfield 28, 3) := by decide +kernel
theorem dX4_playTick_10 : decode cX4_playTick 10 = .ok (.aload_n 0, 1) := by decide +kernel
theorem dX4_playTick_11 : decode cX4_playTick 11 = .ok (.invokevirtual 31, 3) := by decide +kernel
theorem dX4_playTick_14 : decode cX4_playTick 14 = .ok (.ifCond .eq 39, 3) := by decide +kernel
theorem dX4_playTick_53 : decode cX4_playTick 53 = .ok (.aload_n 0, 1) := by decide +kernel
theorem dX4_playTick_54 : decode cX4_playTick 54 = .ok (.aload_n 0, 1) := by decide +kernel
theorem dX4_playTick_55 : decode cX4_playTick 55 = .ok (.getfield 21, 3) := by decide +kernel
theorem dX4_playTick_58 : decode cX4_playTick 58 = .ok (.iconst 1, 1) := by decide +kernel
theorem dX4_playTick_59 : decode cX4_playTick 59 = .ok (.iadd, 1) := by decide +kernel
theorem dX4_playTick_60 : decode cX4_playTick 60 = .ok (.aload_n 0, 1) := by decide +kernel
theorem dX4_playTick_61 : decode cX4_playTick 61 = .ok (.getfield 25, 3) := by decide +kernel
theorem dX4_playTick_64 : decode cX4_playTick 64 = .ok (.if_icmp .ge 12, 3) := by decide +kernel
theorem dX4_playTick_76 : decode cX4_playTick 76 = .ok (.iconst 0, 1) := by decide +kernel
theorem dX4_playTick_77 : decode cX4_playTick 77 = .ok (.putfield 21, 3) := by decide +kernel
theorem dX4_playTick_80 : decode cX4_playTick 80 = .ok (.aload_n 0, 1) := by decide +kernel
theorem dX4_playTick_81 : decode cX4_playTick 81 = .ok (.iconst 1, 1) := by decide +kernel
theorem dX4_playTick_82 : decode cX4_playTick 82 = .ok (.putfield 28, 3) := by decide +kernel
theorem dX4_playTick_85 : decode cX4_playTick 85 = .ok (.return_, 1) := by decide +kernel
theorem dX4_playTick_67 : decode cX4_playTick 67 = .ok (.aload_n 0, 1) := by decide +kernel
theorem dX4_playTick_68 : decode cX4_playTick 68 = .ok (.getfield 21, 3) := by decide +kernel
theorem dX4_playTick_71 : decode cX4_playTick 71 = .ok (.iconst 1, 1) := by decide +kernel
theorem dX4_playTick_72 : decode cX4_playTick 72 = .ok (.iadd, 1) := by decide +kernel
theorem dX4_playTick_73 : decode cX4_playTick 73 = .ok (.goto 4, 3) := by decide +kernel
theorem dX4_playTick_17 : decode cX4_playTick 17 = .ok (.aload_n 0, 1) := by decide +kernel
theorem dX4_playTick_18 : decode cX4_playTick 18 = .ok (.getfield 28, 3) := by decide +kernel
theorem dX4_playTick_21 : decode cX4_playTick 21 = .ok (.aload_n 0, 1) := by decide +kernel
theorem dX4_playTick_22 : decode cX4_playTick 22 = .ok (.getfield 18, 3) := by decide +kernel
theorem dX4_playTick_25 : decode cX4_playTick 25 = .ok (.aload_n 0, 1) := by decide +kernel
theorem dX4_playTick_26 : decode cX4_playTick 26 = .ok (.getfield 21, 3) := by decide +kernel
theorem dX4_playTick_29 : decode cX4_playTick 29 = .ok (.iaload, 1) := by decide +kernel
theorem dX4_playTick_30 : decode cX4_playTick 30 = .ok (.if_icmp .gt 23, 3) := by decide +kernel
theorem dX4_playTick_33 : decode cX4_playTick 33 = .ok (.aload_n 0, 1) := by decide +kernel
theorem dX4_playTick_34 : decode cX4_playTick 34 = .ok (.getfield 28, 3) := by decide +kernel
theorem dX4_playTick_37 : decode cX4_playTick 37 = .ok (.aload_n 0, 1) := by decide +kernel
theorem dX4_playTick_38 : decode cX4_playTick 38 = .ok (.getfield 15, 3) := by decide +kernel
theorem dX4_playTick_41 : decode cX4_playTick 41 = .ok (.aload_n 0, 1) := by decide +kernel
theorem dX4_playTick_42 : decode cX4_playTick 42 = .ok (.getfield 21, 3) := by decide +kernel
theorem dX4_playTick_45 : decode cX4_playTick 45 = .ok (.iaload, 1) := by decide +kernel
theorem dX4_playTick_46 : decode cX4_playTick 46 = .ok (.if_icmp .le 39, 3) := by decide +kernel
theorem dX4_playTick_49 : decode cX4_playTick 49 = .ok (.iload_n 1, 1) := by decide +kernel
theorem dX4_playTick_50 : decode cX4_playTick 50 = .ok (.ifCond .ne 35, 3) := by decide +kernel
theorem dX4_append_0 : decode cX4_append 0 = .ok (.aload_n 0, 1) := by decide +kernel
theorem dX4_append_1 : decode cX4_append 1 = .ok (.getfield 25, 3) := by decide +kernel
theorem dX4_append_4 : decode cX4_append 4 = .ok (.iconst 4, 1) := by decide +kernel
theorem dX4_append_5 : decode cX4_append 5 = .ok (.if_icmp .lt 5, 3) := by decide +kernel
theorem dX4_append_10 : decode cX4_append 10 = .ok (.aload_n 0, 1) := by decide +kernel
theorem dX4_append_11 : decode cX4_append 11 = .ok (.getfield 9, 3) := by decide +kernel
theorem dX4_append_14 : decode cX4_append 14 = .ok (.aload_n 0, 1) := by decide +kernel
theorem dX4_append_15 : decode cX4_append 15 = .ok (.getfield 25, 3) := by decide +kernel
theorem dX4_append_18 : decode cX4_append 18 = .ok (.iload_n 1, 1) := by decide +kernel
theorem dX4_append_19 : decode cX4_append 19 = .ok (.iastore, 1) := by decide +kernel
theorem dX4_append_20 : decode cX4_append 20 = .ok (.aload_n 0, 1) := by decide +kernel
theorem dX4_append_21 : decode cX4_append 21 = .ok (.getfield 15, 3) := by decide +kernel
theorem dX4_append_24 : decode cX4_append 24 = .ok (.aload_n 0, 1) := by decide +kernel
theorem dX4_append_25 : decode cX4_append 25 = .ok (.getfield 25, 3) := by decide +kernel
theorem dX4_append_28 : decode cX4_append 28 = .ok (.iload_n 2, 1) := by decide +kernel
theorem dX4_append_29 : decode cX4_append 29 = .ok (.iastore, 1) := by decide +kernel
theorem dX4_append_30 : decode cX4_append 30 = .ok (.aload_n 0, 1) := by decide +kernel
theorem dX4_append_31 : decode cX4_append 31 = .ok (.getfield 18, 3) := by decide +kernel
theorem dX4_append_34 : decode cX4_append 34 = .ok (.aload_n 0, 1) := by decide +kernel
theorem dX4_append_35 : decode cX4_append 35 = .ok (.getfield 25, 3) := by decide +kernel
theorem dX4_append_38 : decode cX4_append 38 = .ok (.iload_n 3, 1) := by decide +kernel
theorem dX4_append_39 : decode cX4_append 39 = .ok (.iastore, 1) := by decide +kernel
theorem dX4_append_40 : decode cX4_append 40 = .ok (.aload_n 0, 1) := by decide +kernel
theorem dX4_append_41 : decode cX4_append 41 = .ok (.dup, 1) := by decide +kernel
theorem dX4_append_42 : decode cX4_append 42 = .ok (.getfield 25, 3) := by decide +kernel
theorem dX4_append_45 : decode cX4_append 45 = .ok (.dup_x1, 1) := by decide +kernel
theorem dX4_append_46 : decode cX4_append 46 = .ok (.iconst 1, 1) := by decide +kernel
theorem dX4_append_47 : decode cX4_append 47 = .ok (.iadd, 1) := by decide +kernel
theorem dX4_append_48 : decode cX4_append 48 = .ok (.putfield 25, 3) := by decide +kernel
theorem dX4_append_51 : decode cX4_append 51 = .ok (.ireturn, 1) := by decide +kernel
theorem dX0_tell_0 : decode cX0_tell 0 = .ok (.aload_n 0, 1) := by decide +kernel
theorem dX0_tell_1 : decode cX0_tell 1 = .ok (.iload_n 1, 1) := by decide +kernel
theorem dX0_tell_2 : decode cX0_tell 2 = .ok (.putfield 13, 3) := by decide +kernel
theorem dX0_tell_5 : decode cX0_tell 5 = .ok (.aload_n 0, 1) := by decide +kernel
theorem dX0_tell_6 : decode cX0_tell 6 = .ok (.iload_n 2, 1) := by decide +kernel
theorem dX0_tell_7 : decode cX0_tell 7 = .ok (.putfield 16, 3) := by decide +kernel
theorem dX0_tell_10 : decode cX0_tell 10 = .ok (.aload_n 0, 1) := by decide +kernel
theorem dX0_tell_11 : decode cX0_tell 11 = .ok (.iload_n 3, 1) := by decide +kernel
theorem dX0_tell_12 : decode cX0_tell 12 = .ok (.putfield 19, 3) := by decide +kernel
theorem dX0_tell_15 : decode cX0_tell 15 = .ok (.aload_n 0, 1) := by decide +kernel
theorem dX0_tell_16 : decode cX0_tell 16 = .ok (.iload 4, 2) := by decide +kernel
theorem dX0_tell_18 : decode cX0_tell 18 = .ok (.putfield 22, 3) := by decide +kernel
theorem dX0_tell_21 : decode cX0_tell 21 = .ok (.aload_n 0, 1) := by decide +kernel
theorem dX0_tell_22 : decode cX0_tell 22 = .ok (.iload 5, 2) := by decide +kernel
theorem dX0_tell_24 : decode cX0_tell 24 = .ok (.putfield 7, 3) := by decide +kernel
theorem dX0_tell_27 : decode cX0_tell 27 = .ok (.aload_n 0, 1) := by decide +kernel
theorem dX0_tell_28 : decode cX0_tell 28 = .ok (.iload 6, 2) := by decide +kernel
theorem dX0_tell_30 : decode cX0_tell 30 = .ok (.putfield 25, 3) := by decide +kernel
theorem dX0_tell_33 : decode cX0_tell 33 = .ok (.return_, 1) := by decide +kernel
theorem dX0_bringsIn_0 : decode cX0_bringsIn 0 = .ok (.iload_n 1, 1) := by decide +kernel
theorem dX0_bringsIn_1 : decode cX0_bringsIn 1 = .ok (.aload_n 0, 1) := by decide +kernel
theorem dX0_bringsIn_2 : decode cX0_bringsIn 2 = .ok (.getfield 22, 3) := by decide +kernel
theorem dX0_bringsIn_5 : decode cX0_bringsIn 5 = .ok (.if_icmp .lt 11, 3) := by decide +kernel
theorem dX0_bringsIn_16 : decode cX0_bringsIn 16 = .ok (.iconst 0, 1) := by decide +kernel
theorem dX0_bringsIn_17 : decode cX0_bringsIn 17 = .ok (.ireturn, 1) := by decide +kernel
theorem dX0_bringsIn_8 : decode cX0_bringsIn 8 = .ok (.aload_n 0, 1) := by decide +kernel
theorem dX0_bringsIn_9 : decode cX0_bringsIn 9 = .ok (.getfield 7, 3) := by decide +kernel
theorem dX0_bringsIn_12 : decode cX0_bringsIn 12 = .ok (.iconst 1, 1) := by decide +kernel
theorem dX0_bringsIn_13 : decode cX0_bringsIn 13 = .ok (.if_icmp .ge 5, 3) := by decide +kernel
theorem dX0_bringsIn_18 : decode cX0_bringsIn 18 = .ok (.iload_n 1, 1) := by decide +kernel
theorem dX0_bringsIn_19 : decode cX0_bringsIn 19 = .ok (.aload_n 0, 1) := by decide +kernel
theorem dX0_bringsIn_20 : decode cX0_bringsIn 20 = .ok (.getfield 22, 3) := by decide +kernel
theorem dX0_bringsIn_23 : decode cX0_bringsIn 23 = .ok (.isub, 1) := by decide +kernel
theorem dX0_bringsIn_24 : decode cX0_bringsIn 24 = .ok (.istore_n 2, 1) := by decide +kernel
theorem dX0_bringsIn_25 : decode cX0_bringsIn 25 = .ok (.iload_n 2, 1) := by decide +kernel
theorem dX0_bringsIn_26 : decode cX0_bringsIn 26 = .ok (.aload_n 0, 1) := by decide +kernel
theorem dX0_bringsIn_27 : decode cX0_bringsIn 27 = .ok (.getfield 7, 3) := by decide +kernel
theorem dX0_bringsIn_30 : decode cX0_bringsIn 30 = .ok (.irem, 1) := by decide +kernel
theorem dX0_bringsIn_31 : decode cX0_bringsIn 31 = .ok (.ifCond .ne 20, 3) := by decide +kernel
theorem dX0_bringsIn_51 : decode cX0_bringsIn 51 = .ok (.iconst 0, 1) := by decide +kernel
theorem dX0_bringsIn_52 : decode cX0_bringsIn 52 = .ok (.ireturn, 1) := by decide +kernel
theorem dX0_bringsIn_34 : decode cX0_bringsIn 34 = .ok (.iload_n 2, 1) := by decide +kernel
theorem dX0_bringsIn_35 : decode cX0_bringsIn 35 = .ok (.aload_n 0, 1) := by decide +kernel
theorem dX0_bringsIn_36 : decode cX0_bringsIn 36 = .ok (.getfield 7, 3) := by decide +kernel
theorem dX0_bringsIn_39 : decode cX0_bringsIn 39 = .ok (.idiv, 1) := by decide +kernel
theorem dX0_bringsIn_40 : decode cX0_bringsIn 40 = .ok (.aload_n 0, 1) := by decide +kernel
theorem dX0_bringsIn_41 : decode cX0_bringsIn 41 = .ok (.getfield 25, 3) := by decide +kernel
theorem dX0_bringsIn_44 : decode cX0_bringsIn 44 = .ok (.if_icmp .ge 7, 3) := by decide +kernel
theorem dX0_bringsIn_47 : decode cX0_bringsIn 47 = .ok (.iconst 1, 1) := by decide +kernel
theorem dX0_bringsIn_48 : decode cX0_bringsIn 48 = .ok (.goto 4, 3) := by decide +kernel
theorem dX0_countTrip_0 : decode cX0_countTrip 0 = .ok (.aload_n 0, 1) := by decide +kernel
theorem dX0_countTrip_1 : decode cX0_countTrip 1 = .ok (.dup, 1) := by decide +kernel
theorem dX0_countTrip_2 : decode cX0_countTrip 2 = .ok (.getfield 28, 3) := by decide +kernel
theorem dX0_countTrip_5 : decode cX0_countTrip 5 = .ok (.iconst 1, 1) := by decide +kernel
theorem dX0_countTrip_6 : decode cX0_countTrip 6 = .ok (.iadd, 1) := by decide +kernel
theorem dX0_countTrip_7 : decode cX0_countTrip 7 = .ok (.putfield 28, 3) := by decide +kernel
theorem dX0_countTrip_10 : decode cX0_countTrip 10 = .ok (.aload_n 0, 1) := by decide +kernel
theorem dX0_countTrip_11 : decode cX0_countTrip 11 = .ok (.dup, 1) := by decide +kernel
theorem dX0_countTrip_12 : decode cX0_countTrip 12 = .ok (.getfield 31, 3) := by decide +kernel
theorem dX0_countTrip_15 : decode cX0_countTrip 15 = .ok (.iload_n 1, 1) := by decide +kernel
theorem dX0_countTrip_16 : decode cX0_countTrip 16 = .ok (.iadd, 1) := by decide +kernel
theorem dX0_countTrip_17 : decode cX0_countTrip 17 = .ok (.putfield 31, 3) := by decide +kernel
theorem dX0_countTrip_20 : decode cX0_countTrip 20 = .ok (.aload_n 0, 1) := by decide +kernel
theorem dX0_countTrip_21 : decode cX0_countTrip 21 = .ok (.dup, 1) := by decide +kernel
theorem dX0_countTrip_22 : decode cX0_countTrip 22 = .ok (.getfield 34, 3) := by decide +kernel
theorem dX0_countTrip_25 : decode cX0_countTrip 25 = .ok (.iload_n 2, 1) := by decide +kernel
theorem dX0_countTrip_26 : decode cX0_countTrip 26 = .ok (.iadd, 1) := by decide +kernel
theorem dX0_countTrip_27 : decode cX0_countTrip 27 = .ok (.putfield 34, 3) := by decide +kernel
theorem dX0_countTrip_30 : decode cX0_countTrip 30 = .ok (.aload_n 0, 1) := by decide +kernel
theorem dX0_countTrip_31 : decode cX0_countTrip 31 = .ok (.aload_n 0, 1) := by decide +kernel
theorem dX0_countTrip_32 : decode cX0_countTrip 32 = .ok (.getfield 37, 3) := by decide +kernel
theorem dX0_countTrip_35 : decode cX0_countTrip 35 = .ok (.iload_n 1, 1) := by decide +kernel
theorem dX0_countTrip_36 : decode cX0_countTrip 36 = .ok (.invokestatic 40, 3) := by decide +kernel
theorem dX0_countTrip_39 : decode cX0_countTrip 39 = .ok (.putfield 37, 3) := by decide +kernel
theorem dX0_countTrip_42 : decode cX0_countTrip 42 = .ok (.return_, 1) := by decide +kernel
theorem dX7_come_0 : decode cX7_come 0 = .ok (.aload_n 0, 1) := by decide +kernel
theorem dX7_come_1 : decode cX7_come 1 = .ok (.iload_n 1, 1) := by decide +kernel
theorem dX7_come_2 : decode cX7_come 2 = .ok (.putfield 15, 3) := by decide +kernel
theorem dX7_come_5 : decode cX7_come 5 = .ok (.aload_n 0, 1) := by decide +kernel
theorem dX7_come_6 : decode cX7_come 6 = .ok (.iload_n 2, 1) := by decide +kernel
theorem dX7_come_7 : decode cX7_come 7 = .ok (.putfield 19, 3) := by decide +kernel
theorem dX7_come_10 : decode cX7_come 10 = .ok (.aload_n 0, 1) := by decide +kernel
theorem dX7_come_11 : decode cX7_come 11 = .ok (.iload_n 3, 1) := by decide +kernel
theorem dX7_come_12 : decode cX7_come 12 = .ok (.putfield 22, 3) := by decide +kernel
theorem dX7_come_15 : decode cX7_come 15 = .ok (.aload_n 0, 1) := by decide +kernel
theorem dX7_come_16 : decode cX7_come 16 = .ok (.iconst 0, 1) := by decide +kernel
theorem dX7_come_17 : decode cX7_come 17 = .ok (.putfield 25, 3) := by decide +kernel
theorem dX7_come_20 : decode cX7_come 20 = .ok (.aload_n 0, 1) := by decide +kernel
theorem dX7_come_21 : decode cX7_come 21 = .ok (.iload 4, 2) := by decide +kernel
theorem dX7_come_23 : decode cX7_come 23 = .ok (.putfield 28, 3) := by decide +kernel
theorem dX7_come_26 : decode cX7_come 26 = .ok (.aload_n 0, 1) := by decide +kernel
theorem dX7_come_27 : decode cX7_come 27 = .ok (.iconst (-1), 1) := by decide +kernel
theorem dX7_come_28 : decode cX7_come 28 = .ok (.putfield 31, 3) := by decide +kernel
theorem dX7_come_31 : decode cX7_come 31 = .ok (.aload_n 0, 1) := by decide +kernel
theorem dX7_come_32 : decode cX7_come 32 = .ok (.iconst (-1), 1) := by decide +kernel
theorem dX7_come_33 : decode cX7_come 33 = .ok (.putfield 34, 3) := by decide +kernel
theorem dX7_come_36 : decode cX7_come 36 = .ok (.aload_n 0, 1) := by decide +kernel
theorem dX7_come_37 : decode cX7_come 37 = .ok (.iconst 0, 1) := by decide +kernel
theorem dX7_come_38 : decode cX7_come 38 = .ok (.putfield 37, 3) := by decide +kernel
theorem dX7_come_41 : decode cX7_come 41 = .ok (.aload_n 0, 1) := by decide +kernel
theorem dX7_come_42 : decode cX7_come 42 = .ok (.iconst 0, 1) := by decide +kernel
theorem dX7_come_43 : decode cX7_come 43 = .ok (.putfield 40, 3) := by decide +kernel
theorem dX7_come_46 : decode cX7_come 46 = .ok (.aload_n 0, 1) := by decide +kernel
theorem dX7_come_47 : decode cX7_come 47 = .ok (.iconst (-1), 1) := by decide +kernel
theorem dX7_come_48 : decode cX7_come 48 = .ok (.putfield 43, 3) := by decide +kernel
theorem dX7_come_51 : decode cX7_come 51 = .ok (.aload_n 0, 1) := by decide +kernel
theorem dX7_come_52 : decode cX7_come 52 = .ok (.iconst (-1), 1) := by decide +kernel
theorem dX7_come_53 : decode cX7_come 53 = .ok (.putfield 46, 3) := by decide +kernel
theorem dX7_come_56 : decode cX7_come 56 = .ok (.aload_n 0, 1) := by decide +kernel
theorem dX7_come_57 : decode cX7_come 57 = .ok (.iconst 0, 1) := by decide +kernel
theorem dX7_come_58 : decode cX7_come 58 = .ok (.putfield 49, 3) := by decide +kernel
theorem dX7_come_61 : decode cX7_come 61 = .ok (.return_, 1) := by decide +kernel
theorem dX7_planOver_0 : decode cX7_planOver 0 = .ok (.aload_n 0, 1) := by decide +kernel
theorem dX7_planOver_1 : decode cX7_planOver 1 = .ok (.getfield 49, 3) := by decide +kernel
theorem dX7_planOver_4 : decode cX7_planOver 4 = .ok (.aload_n 0, 1) := by decide +kernel
theorem dX7_planOver_5 : decode cX7_planOver 5 = .ok (.getfield 9, 3) := by decide +kernel
theorem dX7_planOver_8 : decode cX7_planOver 8 = .ok (.arraylength, 1) := by decide +kernel
theorem dX7_planOver_9 : decode cX7_planOver 9 = .ok (.if_icmp .ge 23, 3) := by decide +kernel
theorem dX7_planOver_32 : decode cX7_planOver 32 = .ok (.return_, 1) := by decide +kernel
theorem dX7_planOver_12 : decode cX7_planOver 12 = .ok (.aload_n 0, 1) := by decide +kernel
theorem dX7_planOver_13 : decode cX7_planOver 13 = .ok (.getfield 9, 3) := by decide +kernel
theorem dX7_planOver_16 : decode cX7_planOver 16 = .ok (.aload_n 0, 1) := by decide +kernel
theorem dX7_planOver_17 : decode cX7_planOver 17 = .ok (.getfield 49, 3) := by decide +kernel
theorem dX7_planOver_20 : decode cX7_planOver 20 = .ok (.iload_n 1, 1) := by decide +kernel
theorem dX7_planOver_21 : decode cX7_planOver 21 = .ok (.iastore, 1) := by decide +kernel
theorem dX7_planOver_22 : decode cX7_planOver 22 = .ok (.aload_n 0, 1) := by decide +kernel
theorem dX7_planOver_23 : decode cX7_planOver 23 = .ok (.dup, 1) := by decide +kernel
theorem dX7_planOver_24 : decode cX7_planOver 24 = .ok (.getfield 49, 3) := by decide +kernel
theorem dX7_planOver_27 : decode cX7_planOver 27 = .ok (.iconst 1, 1) := by decide +kernel
theorem dX7_planOver_28 : decode cX7_planOver 28 = .ok (.iadd, 1) := by decide +kernel
theorem dX7_planOver_29 : decode cX7_planOver 29 = .ok (.putfield 49, 3) := by decide +kernel
theorem dX7_nextOfWay_0 : decode cX7_nextOfWay 0 = .ok (.aload_n 0, 1) := by decide +kernel
theorem dX7_nextOfWay_1 : decode cX7_nextOfWay 1 = .ok (.getfield 37, 3) := by decide +kernel
theorem dX7_nextOfWay_4 : decode cX7_nextOfWay 4 = .ok (.ifCond .lt 26, 3) := by decide +kernel
theorem dX7_nextOfWay_30 : decode cX7_nextOfWay 30 = .ok (.iconst (-1), 1) := by decide +kernel
theorem dX7_nextOfWay_31 : decode cX7_nextOfWay 31 = .ok (.ireturn, 1) := by decide +kernel
theorem dX7_nextOfWay_7 : decode cX7_nextOfWay 7 = .ok (.aload_n 0, 1) := by decide +kernel
theorem dX7_nextOfWay_8 : decode cX7_nextOfWay 8 = .ok (.getfield 37, 3) := by decide +kernel
theorem dX7_nextOfWay_11 : decode cX7_nextOfWay 11 = .ok (.aload_n 0, 1) := by decide +kernel
theorem dX7_nextOfWay_12 : decode cX7_nextOfWay 12 = .ok (.getfield 49, 3) := by decide +kernel
theorem dX7_nextOfWay_15 : decode cX7_nextOfWay 15 = .ok (.if_icmp .ge 15, 3) := by decide +kernel
theorem dX7_nextOfWay_18 : decode cX7_nextOfWay 18 = .ok (.aload_n 0, 1) := by decide +kernel
theorem dX7_nextOfWay_19 : decode cX7_nextOfWay 19 = .ok (.getfield 9, 3) := by decide +kernel
theorem dX7_nextOfWay_22 : decode cX7_nextOfWay 22 = .ok (.aload_n 0, 1) := by decide +kernel
theorem dX7_nextOfWay_23 : decode cX7_nextOfWay 23 = .ok (.getfield 37, 3) := by decide +kernel
theorem dX7_nextOfWay_26 : decode cX7_nextOfWay 26 = .ok (.iaload, 1) := by decide +kernel
theorem dX7_nextOfWay_27 : decode cX7_nextOfWay 27 = .ok (.goto 4, 3) := by decide +kernel
theorem dX7_goOnto_0 : decode cX7_goOnto 0 = .ok (.aload_n 0, 1) := by decide +kernel
theorem dX7_goOnto_1 : decode cX7_goOnto 1 = .ok (.iconst 1, 1) := by decide +kernel
theorem dX7_goOnto_2 : decode cX7_goOnto 2 = .ok (.putfield 25, 3) := by decide +kernel
theorem dX7_goOnto_5 : decode cX7_goOnto 5 = .ok (.aload_n 0, 1) := by decide +kernel
theorem dX7_goOnto_6 : decode cX7_goOnto 6 = .ok (.iload_n 1, 1) := by decide +kernel
theorem dX7_goOnto_7 : decode cX7_goOnto 7 = .ok (.putfield 31, 3) := by decide +kernel
theorem dX7_goOnto_10 : decode cX7_goOnto 10 = .ok (.aload_n 0, 1) := by decide +kernel
theorem dX7_goOnto_11 : decode cX7_goOnto 11 = .ok (.iload_n 3, 1) := by decide +kernel
theorem dX7_goOnto_12 : decode cX7_goOnto 12 = .ok (.iload_n 2, 1) := by decide +kernel
theorem dX7_goOnto_13 : decode cX7_goOnto 13 = .ok (.iadd, 1) := by decide +kernel
theorem dX7_goOnto_14 : decode cX7_goOnto 14 = .ok (.putfield 34, 3) := by decide +kernel
theorem dX7_goOnto_17 : decode cX7_goOnto 17 = .ok (.aload_n 0, 1) := by decide +kernel
theorem dX7_goOnto_18 : decode cX7_goOnto 18 = .ok (.dup, 1) := by decide +kernel
theorem dX7_goOnto_19 : decode cX7_goOnto 19 = .ok (.getfield 37, 3) := by decide +kernel
theorem dX7_goOnto_22 : decode cX7_goOnto 22 = .ok (.iconst 1, 1) := by decide +kernel
theorem dX7_goOnto_23 : decode cX7_goOnto 23 = .ok (.iadd, 1) := by decide +kernel
theorem dX7_goOnto_24 : decode cX7_goOnto 24 = .ok (.putfield 37, 3) := by decide +kernel
theorem dX7_goOnto_27 : decode cX7_goOnto 27 = .ok (.aload_n 0, 1) := by decide +kernel
theorem dX7_goOnto_28 : decode cX7_goOnto 28 = .ok (.dup, 1) := by decide +kernel
theorem dX7_goOnto_29 : decode cX7_goOnto 29 = .ok (.getfield 40, 3) := by decide +kernel
theorem dX7_goOnto_32 : decode cX7_goOnto 32 = .ok (.iload_n 2, 1) := by decide +kernel
theorem dX7_goOnto_33 : decode cX7_goOnto 33 = .ok (.iadd, 1) := by decide +kernel
theorem dX7_goOnto_34 : decode cX7_goOnto 34 = .ok (.putfield 40, 3) := by decide +kernel
theorem dX7_goOnto_37 : decode cX7_goOnto 37 = .ok (.return_, 1) := by decide +kernel
theorem dX7_arrive_0 : decode cX7_arrive 0 = .ok (.aload_n 0, 1) := by decide +kernel
theorem dX7_arrive_1 : decode cX7_arrive 1 = .ok (.iconst 2, 1) := by decide +kernel
theorem dX7_arrive_2 : decode cX7_arrive 2 = .ok (.putfield 25, 3) := by decide +kernel
theorem dX7_arrive_5 : decode cX7_arrive 5 = .ok (.aload_n 0, 1) := by decide +kernel
theorem dX7_arrive_6 : decode cX7_arrive 6 = .ok (.iconst (-1), 1) := by decide +kernel
theorem dX7_arrive_7 : decode cX7_arrive 7 = .ok (.putfield 31, 3) := by decide +kernel
theorem dX7_arrive_10 : decode cX7_arrive 10 = .ok (.aload_n 0, 1) := by decide +kernel
theorem dX7_arrive_11 : decode cX7_arrive 11 = .ok (.iconst (-1), 1) := by decide +kernel
theorem dX7_arrive_12 : decode cX7_arrive 12 = .ok (.putfield 34, 3) := by decide +kernel
theorem dX7_arrive_15 : decode cX7_arrive 15 = .ok (.aload_n 0, 1) := by decide +kernel
theorem dX7_arrive_16 : decode cX7_arrive 16 = .ok (.iload_n 1, 1) := by decide +kernel
theorem dX7_arrive_17 : decode cX7_arrive 17 = .ok (.aload_n 0, 1) := by decide +kernel
theorem dX7_arrive_18 : decode cX7_arrive 18 = .ok (.getfield 28, 3) := by decide +kernel
theorem dX7_arrive_21 : decode cX7_arrive 21 = .ok (.isub, 1) := by decide +kernel
theorem dX7_arrive_22 : decode cX7_arrive 22 = .ok (.putfield 43, 3) := by decide +kernel
theorem dX7_arrive_25 : decode cX7_arrive 25 = .ok (.aload_n 0, 1) := by decide +kernel
theorem dX7_arrive_26 : decode cX7_arrive 26 = .ok (.aload_n 0, 1) := by decide +kernel
theorem dX7_arrive_27 : decode cX7_arrive 27 = .ok (.getfield 43, 3) := by decide +kernel
theorem dX7_arrive_30 : decode cX7_arrive 30 = .ok (.aload_n 0, 1) := by decide +kernel
theorem dX7_arrive_31 : decode cX7_arrive 31 = .ok (.getfield 40, 3) := by decide +kernel
theorem dX7_arrive_34 : decode cX7_arrive 34 = .ok (.isub, 1) := by decide +kernel
theorem dX7_arrive_35 : decode cX7_arrive 35 = .ok (.putfield 46, 3) := by decide +kernel
theorem dX7_arrive_38 : decode cX7_arrive 38 = .ok (.return_, 1) := by decide +kernel
set_option maxRecDepth 100000 in
set_option maxHeartbeats 4000000 in
/-- Signal.isOn -/
theorem c_Signal_isOn (l : Launch) (dC : Nat → ClassId) (dI : Nat → Nat → Nat) (cy : Nat → ClassId) (L : Lay) (tr : Option Nat) (a : St) (κ : Kap) (τ : Tau) (n : Nat) (sz : Nat) (hT : TL L tr τ) (hi : n < 12) : Met l yX4_isOn (tp_w yX4_isOn cX4_isOn 1 (some .boolean)) ({ frames := 0, cells := 0, slots := 0, locals := 0 }) (va_Pc [.ref (L 8 n)] (mPre dC dI cy (TW cy L tr a κ τ) sz)) (va_Qi (fun (r u : Int32) => r = u) (fun (u : Int32) (t : State) => (u = S_on (a 8 n)) ∧ mw (dC, dI) vwCl (mA (TW cy L tr a κ τ) sz) (TW cy L tr a κ τ) t.heap) (mA (TW cy L tr a κ τ) sz)) (0) (0) (mA (TW cy L tr a κ τ) sz) := by
  refine Met.ofW (cc := cX4_isOn) (maxL := 1) (ret := (some .boolean)) (by decide) rfl ?_
  intro p e s m args below meth c s₁ B hml hv
  obtain ⟨rfl, hsz, hP, hK, hE⟩ := hv
  have hx := B.exec
  have hb := B.bytes
  have hr := B.returns
  have hts0 := atoms_spec (ws := tp_w yX4_isOn cX4_isOn 1 (some .boolean)) B.pre
  have hts : ∀ w ∈ tp_all, w.before _ s = true := fun w h => hts0 w (List.mem_cons_of_mem _ h)
  have hown : s.vm.findClass RX4 = some m.cls := findClass_of_methodNamed B.named
  have hlocks := B.notSynchronized
  subst hsz
  have hP := hP.self s.heap.size
  generalize hAe : mA (TW cy L tr a κ τ) s.heap.size = A at hP ⊢
  have hA : ∀ q : Nat, s.heap.size ≤ q → A q := fun q h => by rw [← hAe]; exact Or.inr h
  have hS : va_S A s.heap s.heap [] := va_S.rf
  have hl9 := lv_entry ([.ref (L 8 n)]) (n := 1) (Nat.le_of_ble_eq_true rfl)
  rw [lg_entry_eq]
  generalize (lg_sl ([.ref (L 8 n)]) ++ List.replicate (1 - (lg_sl ([.ref (L 8 n)])).length) Slot.unset).toArray = ls at hl9 ⊢
  have hl : lv_has ls 1 [(0, .ref (L 8 n))] := hl9
  refine lv_aload_n hx hb dX4_isOn_0 rfl (lv_at hl 0 rfl) ?_
  refine va_get (D := (dC, dI)) (ws := [(L 8 n, .inr (4, [.ref (L 9 n), .ref (L 10 n), .ref (L 11 n), .int ((a 8 n) 0), .int ((a 8 n) 1), .int ((a 8 n) 2)]))]) (ci := 4) (v := .int ((a 8 n) 1)) (C := RX4) (T := TX4) (N := 6) hx hb hts tl_X4 hown hK (hP.one (tw_mem (f := 8) (i := n) hi rfl)) 0 rfl rfl 4 (by decide) (hts _ tw_741) (fun _ h9 => h9) rfl dX4_isOn_1 ?_
  refine lv_if_lt (tgt := 22) hx hb dX4_isOn_4 (by decide) (fun c_1 => ?_) (fun c_1 => ?_)
  · refine lv_iconst (v := 0) hx hb dX4_isOn_22 (by decide) ?_
    refine W.widen (k := 0) (n := 0) (Nat.le_of_ble_eq_true rfl) (Nat.le_of_ble_eq_true rfl) ?_
    have g_1 : 0 = S_on (a 8 n) := by
      first | rfl | assumption | (simp only [S_on, if_pos c_1])
    exact W.zret (v := 0) hx hb hr rfl (fun t ht hW => ⟨⟨0, 0, rfl, rfl, ⟨g_1, by show mw _ _ _ _ t.heap; rw [ht]; exact hP⟩⟩, hS.F ht⟩) hS.2.2 dX4_isOn_23
  · refine lv_aload_n hx hb dX4_isOn_7 rfl (lv_at hl 0 rfl) ?_
    refine va_get (D := (dC, dI)) (ws := [(L 8 n, .inr (4, [.ref (L 9 n), .ref (L 10 n), .ref (L 11 n), .int ((a 8 n) 0), .int ((a 8 n) 1), .int ((a 8 n) 2)]))]) (ci := 4) (v := .int ((a 8 n) 1)) (C := RX4) (T := TX4) (N := 6) hx hb hts tl_X4 hown hK (hP.one (tw_mem (f := 8) (i := n) hi rfl)) 0 rfl rfl 4 (by decide) (hts _ tw_741) (fun _ h9 => h9) rfl dX4_isOn_8 ?_
    refine lv_aload_n hx hb dX4_isOn_11 rfl (lv_at hl 0 rfl) ?_
    refine va_get (D := (dC, dI)) (ws := [(L 8 n, .inr (4, [.ref (L 9 n), .ref (L 10 n), .ref (L 11 n), .int ((a 8 n) 0), .int ((a 8 n) 1), .int ((a 8 n) 2)]))]) (ci := 4) (v := .int ((a 8 n) 0)) (C := RX4) (T := TX4) (N := 6) hx hb hts tl_X4 hown hK (hP.one (tw_mem (f := 8) (i := n) hi rfl)) 0 rfl rfl 3 (by decide) (hts _ tw_738) (fun _ h9 => h9) rfl dX4_isOn_12 ?_
    refine lv_icmp_ge (tgt := 22) hx hb dX4_isOn_15 (by decide) (fun c_2 => ?_) (fun c_2 => ?_)
    · refine lv_iconst (v := 0) hx hb dX4_isOn_22 (by decide) ?_
      refine W.widen (k := 0) (n := 0) (Nat.le_of_ble_eq_true rfl) (Nat.le_of_ble_eq_true rfl) ?_
      have g_2 : 0 = S_on (a 8 n) := by
        first | rfl | assumption | (simp only [S_on, if_neg c_1, if_pos c_2])
      exact W.zret (v := 0) hx hb hr rfl (fun t ht hW => ⟨⟨0, 0, rfl, rfl, ⟨g_2, by show mw _ _ _ _ t.heap; rw [ht]; exact hP⟩⟩, hS.F ht⟩) hS.2.2 dX4_isOn_23
    · refine lv_iconst (v := 1) hx hb dX4_isOn_18 (by decide) ?_
      refine lv_goto (tgt := 23) hx hb dX4_isOn_19 (by decide) ?_
      refine W.widen (k := 0) (n := 0) (Nat.le_of_ble_eq_true rfl) (Nat.le_of_ble_eq_true rfl) ?_
      have g_3 : 1 = S_on (a 8 n) := by
        first | rfl | assumption | (simp only [S_on, if_neg c_1, if_neg c_2])
      exact W.zret (v := 1) hx hb hr rfl (fun t ht hW => ⟨⟨1, 1, rfl, rfl, ⟨g_3, by show mw _ _ _ _ t.heap; rw [ht]; exact hP⟩⟩, hS.F ht⟩) hS.2.2 dX4_isOn_23
set_option maxRecDepth 100000 in
set_option maxHeartbeats 4000000 in
/-- Signal.linksOn -/
theorem c_Signal_linksOn (l : Launch) (dC : Nat → ClassId) (dI : Nat → Nat → Nat) (cy : Nat → ClassId) (L : Lay) (tr : Option Nat) (a : St) (κ : Kap) (τ : Tau) (n : Nat) (sz : Nat) (hT : TL L tr τ) (hi : n < 12) (h4 : (a 8 n 0).toInt ≤ 4) : Met l yX4_linksOn (tp_w yX4_linksOn cX4_linksOn 1 (some .int)) ({ frames := 1, cells := 0, slots := 0, locals := 20 }) (va_Pc [.ref (L 8 n)] (mPre dC dI cy (TW cy L tr a κ τ) sz)) (va_Qi (fun (r u : Int32) => r = u) (fun (u : Int32) (t : State) => (u = S_links a n) ∧ mw (dC, dI) vwCl (mA (TW cy L tr a κ τ) sz) (TW cy L tr a κ τ) t.heap) (mA (TW cy L tr a κ τ) sz)) (0) (0) (mA (TW cy L tr a κ τ) sz) := by
  refine Met.ofW (cc := cX4_linksOn) (maxL := 1) (ret := (some .int)) (by decide) rfl ?_
  intro p e s m args below meth c s₁ B hml hv
  obtain ⟨rfl, hsz, hP, hK, hE⟩ := hv
  have hx := B.exec
  have hb := B.bytes
  have hr := B.returns
  have hts0 := atoms_spec (ws := tp_w yX4_linksOn cX4_linksOn 1 (some .int)) B.pre
  have hts : ∀ w ∈ tp_all, w.before _ s = true := fun w h => hts0 w (List.mem_cons_of_mem _ h)
  have hown : s.vm.findClass RX4 = some m.cls := findClass_of_methodNamed B.named
  have hlocks := B.notSynchronized
  subst hsz
  have hP := hP.self s.heap.size
  generalize hAe : mA (TW cy L tr a κ τ) s.heap.size = A at hP ⊢
  have hA : ∀ q : Nat, s.heap.size ≤ q → A q := fun q h => by rw [← hAe]; exact Or.inr h
  have hS : va_S A s.heap s.heap [] := va_S.rf
  have hl9 := lv_entry ([.ref (L 8 n)]) (n := 1) (Nat.le_of_ble_eq_true rfl)
  rw [lg_entry_eq]
  generalize (lg_sl ([.ref (L 8 n)]) ++ List.replicate (1 - (lg_sl ([.ref (L 8 n)])).length) Slot.unset).toArray = ls at hl9 ⊢
  have hl : lv_has ls 1 [(0, .ref (L 8 n))] := hl9
  refine lv_aload_n hx hb dX4_linksOn_0 rfl (lv_at hl 0 rfl) ?_
  have hFc := m_free (C := (TW cy L tr a κ τ)) hP hS hA (fun _ _ h => h)
  refine va_calli (va_runV (As := []) (rest := []) ⟨hx, hb, hml, hown, hts⟩ (c_Signal_isOn l dC dI cy L tr a κ τ n s.heap.size hT (by first | assumption | omega)) (tp_cwV 0 hts tw_240 tw_242 tw_5 tw_27 tw_244 rfl rfl (by decide +kernel) ⟨Nat.le_of_ble_eq_true rfl, Nat.le_of_ble_eq_true rfl⟩) ⟨m_blind, va_recv hK (hP.one (e := .inr (4, [.ref (L 9 n), .ref (L 10 n), .ref (L 11 n), .int ((a 8 n) 0), .int ((a 8 n) 1), .int ((a 8 n) 2)])) (tw_mem (f := 8) (i := n) hi rfl)) (ci := 4) (q0 := 0) rfl rfl, fun U hU hW => ⟨rfl, m_pay hK hP hE (fun _ _ h => h) U hU hW⟩⟩ rfl rfl hl.1 rfl (lv_room (Nat.le_of_ble_eq_true rfl)) dX4_linksOn_1 ⟨(Nat.le_of_ble_eq_true rfl), (Nat.le_of_ble_eq_true rfl)⟩) hS (fun q _ h => hFc q h) hFc (fun r_1 u t H1 locs ht hvm hw hB hz1 hk1 hS => ?_)
  obtain rfl := hw
  obtain ⟨f_1, hP1⟩ := hB
  subst f_1
  rw [ht] at hP1
  have hP : mw (dC, dI) vwCl A (TW cy L tr a κ τ) H1 := hP.join (fun _ _ h => h) hk1 hFc hP1 (fun _ _ h => Or.inl h)
  generalize H1 = H at hP hS ⊢
  clear hP1 hk1 hFc
  refine lv_if_eq (tgt := 19) hx hb dX4_linksOn_4 (by decide) (fun c_1 => ?_) (fun c_1 => ?_)
  · refine lv_iconst (v := 0) hx hb dX4_linksOn_19 (by decide) ?_
    refine W.widen (k := 0) (n := 0) (Nat.le_of_ble_eq_true rfl) (Nat.le_of_ble_eq_true rfl) ?_
    have g_1 : 0 = S_links a n := by
      first | rfl | assumption | (simp only [S_links, if_pos c_1])
    exact W.iret (v := 0) hx hb hr (fun t ht hW => ⟨⟨0, 0, rfl, rfl, ⟨g_1, by show mw _ _ _ _ t.heap; rw [ht]; exact hP⟩⟩, hS.F ht⟩) hS.2.2 dX4_linksOn_20
  · refine lv_aload_n hx hb dX4_linksOn_7 rfl (lv_at hl 0 rfl) ?_
    refine va_get (D := (dC, dI)) (ws := [(L 8 n, .inr (4, [.ref (L 9 n), .ref (L 10 n), .ref (L 11 n), .int ((a 8 n) 0), .int ((a 8 n) 1), .int ((a 8 n) 2)]))]) (ci := 4) (v := .ref (L 9 n)) (C := RX4) (T := TX4) (N := 6) hx hb hts tl_X4 hown hK (hP.one (tw_mem (f := 8) (i := n) hi rfl)) 0 rfl rfl 0 (by decide) (hts _ tw_735) (fun _ h9 => h9) rfl dX4_linksOn_8 ?_
    refine lv_aload_n hx hb dX4_linksOn_11 rfl (lv_at hl 0 rfl) ?_
    refine va_get (D := (dC, dI)) (ws := [(L 8 n, .inr (4, [.ref (L 9 n), .ref (L 10 n), .ref (L 11 n), .int ((a 8 n) 0), .int ((a 8 n) 1), .int ((a 8 n) 2)]))]) (ci := 4) (v := .int ((a 8 n) 1)) (C := RX4) (T := TX4) (N := 6) hx hb hts tl_X4 hown hK (hP.one (tw_mem (f := 8) (i := n) hi rfl)) 0 rfl rfl 4 (by decide) (hts _ tw_741) (fun _ h9 => h9) rfl dX4_linksOn_12 ?_
    have j_1 : ((a 8 n) 1 : Int32).toNatClampNeg = ((a 8 n) 1).toNatClampNeg := m_cl (m_nI (S_on_in c_1).1) (m_lt (S_on_in c_1).1 (S_on_in c_1).2 h4) (by decide)
    refine va_iald hx hb hK (ws := [(L 9 n, .inl (cy 0, 4, .inl (a 9 n)))]) (hP.one (tw_mem (f := 9) (i := n) hi rfl)) 0 0 rfl rfl (m_in (m_nI (S_on_in c_1).1) (m_lt (S_on_in c_1).1 (S_on_in c_1).2 h4) (by decide)) dX4_linksOn_15 ?_
    refine W.eq (g2 := F0 m 16 ls [.int ((a 9 n) (((a 8 n) 1).toNatClampNeg))]) (by first | (rw [j_1]; done) | (rw [j_1]; rfl)) ?_
    refine lv_goto (tgt := 20) hx hb dX4_linksOn_16 (by decide) ?_
    refine W.widen (k := 0) (n := 0) (Nat.le_of_ble_eq_true rfl) (Nat.le_of_ble_eq_true rfl) ?_
    have g_2 : ((a 9 n) (((a 8 n) 1).toNatClampNeg)) = S_links a n := by
      first | rfl | assumption | (simp only [S_links, if_neg c_1])
    exact W.iret (v := (a 9 n) (((a 8 n) 1).toNatClampNeg)) hx hb hr (fun t ht hW => ⟨⟨((a 9 n) (((a 8 n) 1).toNatClampNeg)), ((a 9 n) (((a 8 n) 1).toNatClampNeg)), rfl, rfl, ⟨g_2, by show mw _ _ _ _ t.heap; rw [ht]; exact hP⟩⟩, hS.F ht⟩) hS.2.2 dX4_linksOn_20
set_option maxRecDepth 100000 in
set_option maxHeartbeats 4000000 in
/-- Signal.isGreen -/
theorem c_Signal_isGreen (l : Launch) (dC : Nat → ClassId) (dI : Nat → Nat → Nat) (cy : Nat → ClassId) (L : Lay) (tr : Option Nat) (a : St) (κ : Kap) (τ : Tau) (n : Nat) (k : Int32) (sz : Nat) (hT : TL L tr τ) (hi : n < 12) (h4 : (a 8 n 0).toInt ≤ 4) : Met l yX4_isGreen (tp_w yX4_isGreen cX4_isGreen 2 (some .boolean)) ({ frames := 2, cells := 0, slots := 0, locals := 40 }) (va_Pc [.ref (L 8 n), .int k] (mPre dC dI cy (TW cy L tr a κ τ) sz)) (va_Qi (fun (r u : Int32) => r = u) (fun (u : Int32) (t : State) => (u = S_green a n k) ∧ mw (dC, dI) vwCl (mA (TW cy L tr a κ τ) sz) (TW cy L tr a κ τ) t.heap) (mA (TW cy L tr a κ τ) sz)) (0) (0) (mA (TW cy L tr a κ τ) sz) := by
  refine Met.ofW (cc := cX4_isGreen) (maxL := 2) (ret := (some .boolean)) (by decide) rfl ?_
  intro p e s m args below meth c s₁ B hml hv
  obtain ⟨rfl, hsz, hP, hK, hE⟩ := hv
  have hx := B.exec
  have hb := B.bytes
  have hr := B.returns
  have hts0 := atoms_spec (ws := tp_w yX4_isGreen cX4_isGreen 2 (some .boolean)) B.pre
  have hts : ∀ w ∈ tp_all, w.before _ s = true := fun w h => hts0 w (List.mem_cons_of_mem _ h)
  have hown : s.vm.findClass RX4 = some m.cls := findClass_of_methodNamed B.named
  have hlocks := B.notSynchronized
  subst hsz
  have hP := hP.self s.heap.size
  generalize hAe : mA (TW cy L tr a κ τ) s.heap.size = A at hP ⊢
  have hA : ∀ q : Nat, s.heap.size ≤ q → A q := fun q h => by rw [← hAe]; exact Or.inr h
  have hS : va_S A s.heap s.heap [] := va_S.rf
  have hl9 := lv_entry ([.ref (L 8 n), .int k]) (n := 2) (Nat.le_of_ble_eq_true rfl)
  rw [lg_entry_eq]
  generalize (lg_sl ([.ref (L 8 n), .int k]) ++ List.replicate (2 - (lg_sl ([.ref (L 8 n), .int k])).length) Slot.unset).toArray = ls at hl9 ⊢
  have hl : lv_has ls 2 [(0, .ref (L 8 n)), (1, .int k)] := hl9
  refine lv_aload_n hx hb dX4_isGreen_0 rfl (lv_at hl 0 rfl) ?_
  refine va_get (D := (dC, dI)) (ws := [(L 8 n, .inr (4, [.ref (L 9 n), .ref (L 10 n), .ref (L 11 n), .int ((a 8 n) 0), .int ((a 8 n) 1), .int ((a 8 n) 2)]))]) (ci := 4) (v := .int ((a 8 n) 0)) (C := RX4) (T := TX4) (N := 6) hx hb hts tl_X4 hown hK (hP.one (tw_mem (f := 8) (i := n) hi rfl)) 0 rfl rfl 3 (by decide) (hts _ tw_738) (fun _ h9 => h9) rfl dX4_isGreen_1 ?_
  refine lv_if_eq (tgt := 19) hx hb dX4_isGreen_4 (by decide) (fun c_1 => ?_) (fun c_1 => ?_)
  · refine lv_iconst (v := 1) hx hb dX4_isGreen_19 (by decide) ?_
    refine lv_goto (tgt := 24) hx hb dX4_isGreen_20 (by decide) ?_
    refine W.widen (k := 0) (n := 0) (Nat.le_of_ble_eq_true rfl) (Nat.le_of_ble_eq_true rfl) ?_
    have g_1 : 1 = S_green a n k := by
      first | rfl | assumption | (simp only [S_green, if_pos c_1])
    exact W.zret (v := 1) hx hb hr rfl (fun t ht hW => ⟨⟨1, 1, rfl, rfl, ⟨g_1, by show mw _ _ _ _ t.heap; rw [ht]; exact hP⟩⟩, hS.F ht⟩) hS.2.2 dX4_isGreen_24
  · refine lv_aload_n hx hb dX4_isGreen_7 rfl (lv_at hl 0 rfl) ?_
    have hFc := m_free (C := (TW cy L tr a κ τ)) hP hS hA (fun _ _ h => h)
    refine va_calli (va_runV (As := []) (rest := []) ⟨hx, hb, hml, hown, hts⟩ (c_Signal_linksOn l dC dI cy L tr a κ τ n s.heap.size hT hi h4) (tp_cwV 0 hts tw_268 tw_237 tw_238 tw_27 tw_239 rfl rfl (by decide +kernel) ⟨Nat.le_of_ble_eq_true rfl, Nat.le_of_ble_eq_true rfl⟩) ⟨m_blind, va_recv hK (hP.one (e := .inr (4, [.ref (L 9 n), .ref (L 10 n), .ref (L 11 n), .int ((a 8 n) 0), .int ((a 8 n) 1), .int ((a 8 n) 2)])) (tw_mem (f := 8) (i := n) hi rfl)) (ci := 4) (q0 := 0) rfl rfl, fun U hU hW => ⟨rfl, m_pay hK hP hE (fun _ _ h => h) U hU hW⟩⟩ rfl rfl hl.1 rfl (lv_room (Nat.le_of_ble_eq_true rfl)) dX4_isGreen_8 ⟨(Nat.le_of_ble_eq_true rfl), (Nat.le_of_ble_eq_true rfl)⟩) hS (fun q _ h => hFc q h) hFc (fun r_1 u t H1 locs ht hvm hw hB hz1 hk1 hS => ?_)
    obtain rfl := hw
    obtain ⟨f_1, hP1⟩ := hB
    subst f_1
    rw [ht] at hP1
    have hP : mw (dC, dI) vwCl A (TW cy L tr a κ τ) H1 := hP.join (fun _ _ h => h) hk1 hFc hP1 (fun _ _ h => Or.inl h)
    generalize H1 = H at hP hS ⊢
    clear hP1 hk1 hFc
    refine lv_iload_n hx hb dX4_isGreen_11 rfl (lv_at hl 1 rfl) ?_
    refine lv_ishr hx hb dX4_isGreen_12 ?_
    refine lv_iconst (v := 1) hx hb dX4_isGreen_13 (by decide) ?_
    refine lv_iand hx hb dX4_isGreen_14 ?_
    refine lv_iconst (v := 1) hx hb dX4_isGreen_15 (by decide) ?_
    refine lv_icmp_ne (tgt := 23) hx hb dX4_isGreen_16 (by decide) (fun c_2 => ?_) (fun c_2 => ?_)
    · refine lv_iconst (v := 0) hx hb dX4_isGreen_23 (by decide) ?_
      refine W.widen (k := 0) (n := 0) (Nat.le_of_ble_eq_true rfl) (Nat.le_of_ble_eq_true rfl) ?_
      have g_2 : 0 = S_green a n k := by
        first | rfl | assumption | (simp only [S_green, if_neg c_1, if_neg c_2])
      exact W.zret (v := 0) hx hb hr rfl (fun t ht hW => ⟨⟨0, 0, rfl, rfl, ⟨g_2, by show mw _ _ _ _ t.heap; rw [ht]; exact hP⟩⟩, hS.F ht⟩) hS.2.2 dX4_isGreen_24
    · refine lv_iconst (v := 1) hx hb dX4_isGreen_19 (by decide) ?_
      refine lv_goto (tgt := 24) hx hb dX4_isGreen_20 (by decide) ?_
      refine W.widen (k := 0) (n := 0) (Nat.le_of_ble_eq_true rfl) (Nat.le_of_ble_eq_true rfl) ?_
      have g_3 : 1 = S_green a n k := by
        first | rfl | assumption | (simp only [S_green, if_neg c_1, if_pos c_2])
      exact W.zret (v := 1) hx hb hr rfl (fun t ht hW => ⟨⟨1, 1, rfl, rfl, ⟨g_3, by show mw _ _ _ _ t.heap; rw [ht]; exact hP⟩⟩, hS.F ht⟩) hS.2.2 dX4_isGreen_24
set_option maxRecDepth 100000 in
set_option maxHeartbeats 4000000 in
/-- Signal.playTick -/
theorem c_Signal_playTick (l : Launch) (dC : Nat → ClassId) (dI : Nat → Nat → Nat) (cy : Nat → ClassId) (L : Lay) (tr : Option Nat) (a : St) (κ : Kap) (τ : Tau) (n : Nat) (h : Int32) (sz : Nat) (hT : TL L tr τ) (hi : n < 12) (h4 : (a 8 n 0).toInt ≤ 4) : Met l yX4_playTick (tp_w yX4_playTick cX4_playTick 2 none) ({ frames := 1, cells := 0, slots := 0, locals := 20 }) (va_Pc [.ref (L 8 n), .int h] (mPre dC dI cy (TW cy L tr a κ τ) sz)) (va_Qv (fun _ : Unit => True) (fun (_ : Unit) (t : State) => mw (dC, dI) vwCl (mA (TW cy L tr a κ τ) sz) (TW cy L tr (S_play a n h) κ τ) t.heap) (mA (TW cy L tr a κ τ) sz)) (0) (0) (mA (TW cy L tr a κ τ) sz) := by
  refine Met.ofW (cc := cX4_playTick) (maxL := 2) (ret := none) (by decide) rfl ?_
  intro p e s m args below meth c s₁ B hml hv
  obtain ⟨rfl, hsz, hP, hK, hE⟩ := hv
  have hx := B.exec
  have hb := B.bytes
  have hr := B.returns
  have hts0 := atoms_spec (ws := tp_w yX4_playTick cX4_playTick 2 none) B.pre
  have hts : ∀ w ∈ tp_all, w.before _ s = true := fun w h => hts0 w (List.mem_cons_of_mem _ h)
  have hown : s.vm.findClass RX4 = some m.cls := findClass_of_methodNamed B.named
  have hlocks := B.notSynchronized
  subst hsz
  have hP := hP.self s.heap.size
  generalize hAe : mA (TW cy L tr a κ τ) s.heap.size = A at hP ⊢
  have hA : ∀ q : Nat, s.heap.size ≤ q → A q := fun q h => by rw [← hAe]; exact Or.inr h
  have hS : va_S A s.heap s.heap [] := va_S.rf
  have hl9 := lv_entry ([.ref (L 8 n), .int h]) (n := 2) (Nat.le_of_ble_eq_true rfl)
  rw [lg_entry_eq]
  generalize (lg_sl ([.ref (L 8 n), .int h]) ++ List.replicate (2 - (lg_sl ([.ref (L 8 n), .int h])).length) Slot.unset).toArray = ls at hl9 ⊢
  have hl : lv_has ls 2 [(0, .ref (L 8 n)), (1, .int h)] := hl9
  refine lv_aload_n hx hb dX4_playTick_0 rfl (lv_at hl 0 rfl) ?_
  refine lv_dup hx hb dX4_playTick_1 rfl ?_
  refine va_get (D := (dC, dI)) (ws := [(L 8 n, .inr (4, [.ref (L 9 n), .ref (L 10 n), .ref (L 11 n), .int ((a 8 n) 0), .int ((a 8 n) 1), .int ((a 8 n) 2)]))]) (ci := 4) (v := .int ((a 8 n) 2)) (C := RX4) (T := TX4) (N := 6) hx hb hts tl_X4 hown hK (hP.one (tw_mem (f := 8) (i := n) hi rfl)) 0 rfl rfl 5 (by decide) (hts _ tw_743) (fun _ h9 => h9) rfl dX4_playTick_2 ?_
  refine lv_iconst (v := 1) hx hb dX4_playTick_5 (by decide) ?_
  refine lv_iadd hx hb dX4_playTick_6 ?_
  obtain ⟨ws9, k9, hPw, hDw, hk9, -, hbk⟩ := hP.cut (e := .inr (4, [.ref (L 9 n), .ref (L 10 n), .ref (L 11 n), .int ((a 8 n) 0), .int ((a 8 n) 1), .int ((a 8 n) 2)])) (tw_mem (f := 8) (i := n) hi rfl)
  refine va_put (D := (dC, dI)) (ci := 4) (v := .int (((a 8 n) 2) + 1)) (ty := .int) (C := RX4) (T := TX4) (N := 6) hx hb hts tl_X4 tyX4 tyX4_ok nmX4 hown hK hPw hDw hS k9 hk9 rfl 5 (by decide) (hts _ tw_743) (fun _ h9 => h9) rfl (by decide +kernel) rfl rfl (Nat.le_of_ble_eq_true rfl) dX4_playTick_7 (fun H locs hPw hDw hS => ?_)
  have hP : mw (dC, dI) vwCl A (TW cy L tr (S2 a 8 n (upd (a 8 n) 2 (((a 8 n) 2) + 1))) κ τ) H := (hbk _ _ hPw hDw).sub (tw_set (b := S2 a 8 n (upd (a 8 n) 2 (((a 8 n) 2) + 1))) (f := 8) (i := n) (x := upd (a 8 n) 2 (((a 8 n) 2) + 1)) hT hi (by decide) rfl)
  clear hbk hPw hDw hk9
  refine lv_aload_n hx hb dX4_playTick_10 rfl (lv_at hl 0 rfl) ?_
  obtain ⟨b1, eb1⟩ : ∃ z : St, z = S2 a 8 n (upd (a 8 n) 2 (((a 8 n) 2) + 1)) := ⟨_, rfl⟩
  rw [← eb1] at hP
  have hFc := m_free (C := (TW cy L tr b1 κ τ)) hP hS hA (fun _ _ h => h)
  refine va_calli (va_runV (As := []) (rest := []) ⟨hx, hb, hml, hown, hts⟩ (c_Signal_isOn l dC dI cy L tr b1 κ τ n H.size hT (by first | assumption | omega)) (tp_cwV 0 hts tw_240 tw_242 tw_5 tw_27 tw_244 rfl rfl (by decide +kernel) ⟨Nat.le_of_ble_eq_true rfl, Nat.le_of_ble_eq_true rfl⟩) ⟨m_blind, va_recv hK (hP.one (e := .inr (4, [.ref (L 9 n), .ref (L 10 n), .ref (L 11 n), .int ((b1 8 n) 0), .int ((b1 8 n) 1), .int ((b1 8 n) 2)])) (tw_mem (f := 8) (i := n) hi rfl)) (ci := 4) (q0 := 0) rfl rfl, fun U hU hW => ⟨rfl, m_pay hK hP hE (fun _ _ h => h) U hU hW⟩⟩ rfl rfl hl.1 rfl (lv_room (Nat.le_of_ble_eq_true rfl)) dX4_playTick_11 ⟨(Nat.le_of_ble_eq_true rfl), (Nat.le_of_ble_eq_true rfl)⟩) hS (fun q _ h => hFc q h) hFc (fun r_1 u t H1 locs ht hvm hw hB hz1 hk1 hS => ?_)
  obtain rfl := hw
  obtain ⟨f_1, hP1⟩ := hB
  subst f_1
  rw [ht] at hP1
  have hP : mw (dC, dI) vwCl A (TW cy L tr b1 κ τ) H1 := hP.join (fun _ _ h => h) hk1 hFc hP1 (fun _ _ h => Or.inl h)
  generalize H1 = H at hP hS ⊢
  clear hP1 hk1 hFc
  have h4b : (b1 8 n 0).toInt ≤ 4 := by rw [eb1, S2_eq]; exact h4
  refine lv_if_eq (tgt := 53) hx hb dX4_playTick_14 (by decide) (fun c_1 => ?_) (fun c_1 => ?_)
  · refine lv_aload_n hx hb dX4_playTick_53 rfl (lv_at hl 0 rfl) ?_
    refine lv_aload_n hx hb dX4_playTick_54 rfl (lv_at hl 0 rfl) ?_
    refine va_get (D := (dC, dI)) (ws := [(L 8 n, .inr (4, [.ref (L 9 n), .ref (L 10 n), .ref (L 11 n), .int ((b1 8 n) 0), .int ((b1 8 n) 1), .int ((b1 8 n) 2)]))]) (ci := 4) (v := .int ((b1 8 n) 1)) (C := RX4) (T := TX4) (N := 6) hx hb hts tl_X4 hown hK (hP.one (tw_mem (f := 8) (i := n) hi rfl)) 0 rfl rfl 4 (by decide) (hts _ tw_741) (fun _ h9 => h9) rfl dX4_playTick_55 ?_
    refine lv_iconst (v := 1) hx hb dX4_playTick_58 (by decide) ?_
    refine lv_iadd hx hb dX4_playTick_59 ?_
    refine lv_aload_n hx hb dX4_playTick_60 rfl (lv_at hl 0 rfl) ?_
    refine va_get (D := (dC, dI)) (ws := [(L 8 n, .inr (4, [.ref (L 9 n), .ref (L 10 n), .ref (L 11 n), .int ((b1 8 n) 0), .int ((b1 8 n) 1), .int ((b1 8 n) 2)]))]) (ci := 4) (v := .int ((b1 8 n) 0)) (C := RX4) (T := TX4) (N := 6) hx hb hts tl_X4 hown hK (hP.one (tw_mem (f := 8) (i := n) hi rfl)) 0 rfl rfl 3 (by decide) (hts _ tw_738) (fun _ h9 => h9) rfl dX4_playTick_61 ?_
    refine lv_icmp_ge (tgt := 76) hx hb dX4_playTick_64 (by decide) (fun c_2 => ?_) (fun c_2 => ?_)
    · refine lv_iconst (v := 0) hx hb dX4_playTick_76 (by decide) ?_
      obtain ⟨ws9, k9, hPw, hDw, hk9, -, hbk⟩ := hP.cut (e := .inr (4, [.ref (L 9 n), .ref (L 10 n), .ref (L 11 n), .int ((b1 8 n) 0), .int ((b1 8 n) 1), .int ((b1 8 n) 2)])) (tw_mem (f := 8) (i := n) hi rfl)
      refine va_put (D := (dC, dI)) (ci := 4) (v := .int 0) (ty := .int) (C := RX4) (T := TX4) (N := 6) hx hb hts tl_X4 tyX4 tyX4_ok nmX4 hown hK hPw hDw hS k9 hk9 rfl 4 (by decide) (hts _ tw_741) (fun _ h9 => h9) rfl (by decide +kernel) rfl rfl (Nat.le_of_ble_eq_true rfl) dX4_playTick_77 (fun H locs hPw hDw hS => ?_)
      have hP : mw (dC, dI) vwCl A (TW cy L tr (S2 b1 8 n (upd (b1 8 n) 1 0)) κ τ) H := (hbk _ _ hPw hDw).sub (tw_set (b := S2 b1 8 n (upd (b1 8 n) 1 0)) (f := 8) (i := n) (x := upd (b1 8 n) 1 0) hT hi (by decide) rfl)
      clear hbk hPw hDw hk9
      refine lv_aload_n hx hb dX4_playTick_80 rfl (lv_at hl 0 rfl) ?_
      refine lv_iconst (v := 1) hx hb dX4_playTick_81 (by decide) ?_
      obtain ⟨ws9, k9, hPw, hDw, hk9, -, hbk⟩ := hP.cut (e := .inr (4, [.ref (L 9 n), .ref (L 10 n), .ref (L 11 n), .int ((b1 8 n) 0), .int 0, .int ((b1 8 n) 2)])) (tw_mem (f := 8) (i := n) hi S2_eq)
      refine va_put (D := (dC, dI)) (ci := 4) (v := .int 1) (ty := .int) (C := RX4) (T := TX4) (N := 6) hx hb hts tl_X4 tyX4 tyX4_ok nmX4 hown hK hPw hDw hS k9 hk9 rfl 5 (by decide) (hts _ tw_743) (fun _ h9 => h9) rfl (by decide +kernel) rfl rfl (Nat.le_of_ble_eq_true rfl) dX4_playTick_82 (fun H locs hPw hDw hS => ?_)
      have hP : mw (dC, dI) vwCl A (TW cy L tr (S2 b1 8 n (upd (upd (b1 8 n) 1 0) 2 1)) κ τ) H := (hbk _ _ hPw hDw).sub (tw_set (b := S2 b1 8 n (upd (upd (b1 8 n) 1 0) 2 1)) (f := 8) (i := n) (x := upd (upd (b1 8 n) 1 0) 2 1) hT hi (by decide) S2_S2.symm)
      clear hbk hPw hDw hk9
      refine W.widen (k := 0) (n := 0) (Nat.le_of_ble_eq_true rfl) (Nat.le_of_ble_eq_true rfl) ?_
      have s_1 : S2 b1 8 n (upd (upd (b1 8 n) 1 0) 2 1) = S_play a n h := by
        simp only [S_play, S_tick, ← eb1]
        simp only [S_play1, S_next, X_next, if_pos c_1, if_pos c_2]
      rw [s_1] at hP
      exact W.vret hx hb hr (fun t ht hW => ⟨⟨(), rfl, trivial, (by show mw _ _ _ _ t.heap; rw [ht]; exact hP)⟩, hS.F ht⟩) hS.2.2 dX4_playTick_85
    · refine lv_aload_n hx hb dX4_playTick_67 rfl (lv_at hl 0 rfl) ?_
      refine va_get (D := (dC, dI)) (ws := [(L 8 n, .inr (4, [.ref (L 9 n), .ref (L 10 n), .ref (L 11 n), .int ((b1 8 n) 0), .int ((b1 8 n) 1), .int ((b1 8 n) 2)]))]) (ci := 4) (v := .int ((b1 8 n) 1)) (C := RX4) (T := TX4) (N := 6) hx hb hts tl_X4 hown hK (hP.one (tw_mem (f := 8) (i := n) hi rfl)) 0 rfl rfl 4 (by decide) (hts _ tw_741) (fun _ h9 => h9) rfl dX4_playTick_68 ?_
      refine lv_iconst (v := 1) hx hb dX4_playTick_71 (by decide) ?_
      refine lv_iadd hx hb dX4_playTick_72 ?_
      refine lv_goto (tgt := 77) hx hb dX4_playTick_73 (by decide) ?_
      obtain ⟨ws9, k9, hPw, hDw, hk9, -, hbk⟩ := hP.cut (e := .inr (4, [.ref (L 9 n), .ref (L 10 n), .ref (L 11 n), .int ((b1 8 n) 0), .int ((b1 8 n) 1), .int ((b1 8 n) 2)])) (tw_mem (f := 8) (i := n) hi rfl)
      refine va_put (D := (dC, dI)) (ci := 4) (v := .int (((b1 8 n) 1) + 1)) (ty := .int) (C := RX4) (T := TX4) (N := 6) hx hb hts tl_X4 tyX4 tyX4_ok nmX4 hown hK hPw hDw hS k9 hk9 rfl 4 (by decide) (hts _ tw_741) (fun _ h9 => h9) rfl (by decide +kernel) rfl rfl (Nat.le_of_ble_eq_true rfl) dX4_playTick_77 (fun H locs hPw hDw hS => ?_)
      have hP : mw (dC, dI) vwCl A (TW cy L tr (S2 b1 8 n (upd (b1 8 n) 1 (((b1 8 n) 1) + 1))) κ τ) H := (hbk _ _ hPw hDw).sub (tw_set (b := S2 b1 8 n (upd (b1 8 n) 1 (((b1 8 n) 1) + 1))) (f := 8) (i := n) (x := upd (b1 8 n) 1 (((b1 8 n) 1) + 1)) hT hi (by decide) rfl)
      clear hbk hPw hDw hk9
      refine lv_aload_n hx hb dX4_playTick_80 rfl (lv_at hl 0 rfl) ?_
      refine lv_iconst (v := 1) hx hb dX4_playTick_81 (by decide) ?_
      obtain ⟨ws9, k9, hPw, hDw, hk9, -, hbk⟩ := hP.cut (e := .inr (4, [.ref (L 9 n), .ref (L 10 n), .ref (L 11 n), .int ((b1 8 n) 0), .int (((b1 8 n) 1) + 1), .int ((b1 8 n) 2)])) (tw_mem (f := 8) (i := n) hi S2_eq)
      refine va_put (D := (dC, dI)) (ci := 4) (v := .int 1) (ty := .int) (C := RX4) (T := TX4) (N := 6) hx hb hts tl_X4 tyX4 tyX4_ok nmX4 hown hK hPw hDw hS k9 hk9 rfl 5 (by decide) (hts _ tw_743) (fun _ h9 => h9) rfl (by decide +kernel) rfl rfl (Nat.le_of_ble_eq_true rfl) dX4_playTick_82 (fun H locs hPw hDw hS => ?_)
      have hP : mw (dC, dI) vwCl A (TW cy L tr (S2 b1 8 n (upd (upd (b1 8 n) 1 (((b1 8 n) 1) + 1)) 2 1)) κ τ) H := (hbk _ _ hPw hDw).sub (tw_set (b := S2 b1 8 n (upd (upd (b1 8 n) 1 (((b1 8 n) 1) + 1)) 2 1)) (f := 8) (i := n) (x := upd (upd (b1 8 n) 1 (((b1 8 n) 1) + 1)) 2 1) hT hi (by decide) S2_S2.symm)
      clear hbk hPw hDw hk9
      refine W.widen (k := 0) (n := 0) (Nat.le_of_ble_eq_true rfl) (Nat.le_of_ble_eq_true rfl) ?_
      have s_2 : S2 b1 8 n (upd (upd (b1 8 n) 1 (((b1 8 n) 1) + 1)) 2 1) = S_play a n h := by
        simp only [S_play, S_tick, ← eb1]
        simp only [S_play1, S_next, X_next, if_pos c_1, if_neg c_2]
      rw [s_2] at hP
      exact W.vret hx hb hr (fun t ht hW => ⟨⟨(), rfl, trivial, (by show mw _ _ _ _ t.heap; rw [ht]; exact hP)⟩, hS.F ht⟩) hS.2.2 dX4_playTick_85
  · refine lv_aload_n hx hb dX4_playTick_17 rfl (lv_at hl 0 rfl) ?_
    refine va_get (D := (dC, dI)) (ws := [(L 8 n, .inr (4, [.ref (L 9 n), .ref (L 10 n), .ref (L 11 n), .int ((b1 8 n) 0), .int ((b1 8 n) 1), .int ((b1 8 n) 2)]))]) (ci := 4) (v := .int ((b1 8 n) 2)) (C := RX4) (T := TX4) (N := 6) hx hb hts tl_X4 hown hK (hP.one (tw_mem (f := 8) (i := n) hi rfl)) 0 rfl rfl 5 (by decide) (hts _ tw_743) (fun _ h9 => h9) rfl dX4_playTick_18 ?_
    refine lv_aload_n hx hb dX4_playTick_21 rfl (lv_at hl 0 rfl) ?_
    refine va_get (D := (dC, dI)) (ws := [(L 8 n, .inr (4, [.ref (L 9 n), .ref (L 10 n), .ref (L 11 n), .int ((b1 8 n) 0), .int ((b1 8 n) 1), .int ((b1 8 n) 2)]))]) (ci := 4) (v := .ref (L 11 n)) (C := RX4) (T := TX4) (N := 6) hx hb hts tl_X4 hown hK (hP.one (tw_mem (f := 8) (i := n) hi rfl)) 0 rfl rfl 2 (by decide) (hts _ tw_737) (fun _ h9 => h9) rfl dX4_playTick_22 ?_
    refine lv_aload_n hx hb dX4_playTick_25 rfl (lv_at hl 0 rfl) ?_
    refine va_get (D := (dC, dI)) (ws := [(L 8 n, .inr (4, [.ref (L 9 n), .ref (L 10 n), .ref (L 11 n), .int ((b1 8 n) 0), .int ((b1 8 n) 1), .int ((b1 8 n) 2)]))]) (ci := 4) (v := .int ((b1 8 n) 1)) (C := RX4) (T := TX4) (N := 6) hx hb hts tl_X4 hown hK (hP.one (tw_mem (f := 8) (i := n) hi rfl)) 0 rfl rfl 4 (by decide) (hts _ tw_741) (fun _ h9 => h9) rfl dX4_playTick_26 ?_
    have j_1 : ((b1 8 n) 1 : Int32).toNatClampNeg = ((b1 8 n) 1).toNatClampNeg := m_cl (m_nI (S_on_in c_1).1) (m_lt (S_on_in c_1).1 (S_on_in c_1).2 h4b) (by decide)
    refine va_iald hx hb hK (ws := [(L 11 n, .inl (cy 0, 4, .inl (b1 11 n)))]) (hP.one (tw_mem (f := 11) (i := n) hi rfl)) 0 0 rfl rfl (m_in (m_nI (S_on_in c_1).1) (m_lt (S_on_in c_1).1 (S_on_in c_1).2 h4b) (by decide)) dX4_playTick_29 ?_
    refine W.eq (g2 := F0 m 30 ls [.int ((b1 11 n) (((b1 8 n) 1).toNatClampNeg)), .int ((b1 8 n) 2)]) (by first | (rw [j_1]; done) | (rw [j_1]; rfl)) ?_
    refine lv_icmp_gt (tgt := 53) hx hb dX4_playTick_30 (by decide) (fun c_3 => ?_) (fun c_3 => ?_)
    · refine lv_aload_n hx hb dX4_playTick_53 rfl (lv_at hl 0 rfl) ?_
      refine lv_aload_n hx hb dX4_playTick_54 rfl (lv_at hl 0 rfl) ?_
      refine va_get (D := (dC, dI)) (ws := [(L 8 n, .inr (4, [.ref (L 9 n), .ref (L 10 n), .ref (L 11 n), .int ((b1 8 n) 0), .int ((b1 8 n) 1), .int ((b1 8 n) 2)]))]) (ci := 4) (v := .int ((b1 8 n) 1)) (C := RX4) (T := TX4) (N := 6) hx hb hts tl_X4 hown hK (hP.one (tw_mem (f := 8) (i := n) hi rfl)) 0 rfl rfl 4 (by decide) (hts _ tw_741) (fun _ h9 => h9) rfl dX4_playTick_55 ?_
      refine lv_iconst (v := 1) hx hb dX4_playTick_58 (by decide) ?_
      refine lv_iadd hx hb dX4_playTick_59 ?_
      refine lv_aload_n hx hb dX4_playTick_60 rfl (lv_at hl 0 rfl) ?_
      refine va_get (D := (dC, dI)) (ws := [(L 8 n, .inr (4, [.ref (L 9 n), .ref (L 10 n), .ref (L 11 n), .int ((b1 8 n) 0), .int ((b1 8 n) 1), .int ((b1 8 n) 2)]))]) (ci := 4) (v := .int ((b1 8 n) 0)) (C := RX4) (T := TX4) (N := 6) hx hb hts tl_X4 hown hK (hP.one (tw_mem (f := 8) (i := n) hi rfl)) 0 rfl rfl 3 (by decide) (hts _ tw_738) (fun _ h9 => h9) rfl dX4_playTick_61 ?_
      refine lv_icmp_ge (tgt := 76) hx hb dX4_playTick_64 (by decide) (fun c_4 => ?_) (fun c_4 => ?_)
      · refine lv_iconst (v := 0) hx hb dX4_playTick_76 (by decide) ?_
        obtain ⟨ws9, k9, hPw, hDw, hk9, -, hbk⟩ := hP.cut (e := .inr (4, [.ref (L 9 n), .ref (L 10 n), .ref (L 11 n), .int ((b1 8 n) 0), .int ((b1 8 n) 1), .int ((b1 8 n) 2)])) (tw_mem (f := 8) (i := n) hi rfl)
        refine va_put (D := (dC, dI)) (ci := 4) (v := .int 0) (ty := .int) (C := RX4) (T := TX4) (N := 6) hx hb hts tl_X4 tyX4 tyX4_ok nmX4 hown hK hPw hDw hS k9 hk9 rfl 4 (by decide) (hts _ tw_741) (fun _ h9 => h9) rfl (by decide +kernel) rfl rfl (Nat.le_of_ble_eq_true rfl) dX4_playTick_77 (fun H locs hPw hDw hS => ?_)
        have hP : mw (dC, dI) vwCl A (TW cy L tr (S2 b1 8 n (upd (b1 8 n) 1 0)) κ τ) H := (hbk _ _ hPw hDw).sub (tw_set (b := S2 b1 8 n (upd (b1 8 n) 1 0)) (f := 8) (i := n) (x := upd (b1 8 n) 1 0) hT hi (by decide) rfl)
        clear hbk hPw hDw hk9
        refine lv_aload_n hx hb dX4_playTick_80 rfl (lv_at hl 0 rfl) ?_
        refine lv_iconst (v := 1) hx hb dX4_playTick_81 (by decide) ?_
        obtain ⟨ws9, k9, hPw, hDw, hk9, -, hbk⟩ := hP.cut (e := .inr (4, [.ref (L 9 n), .ref (L 10 n), .ref (L 11 n), .int ((b1 8 n) 0), .int 0, .int ((b1 8 n) 2)])) (tw_mem (f := 8) (i := n) hi S2_eq)
        refine va_put (D := (dC, dI)) (ci := 4) (v := .int 1) (ty := .int) (C := RX4) (T := TX4) (N := 6) hx hb hts tl_X4 tyX4 tyX4_ok nmX4 hown hK hPw hDw hS k9 hk9 rfl 5 (by decide) (hts _ tw_743) (fun _ h9 => h9) rfl (by decide +kernel) rfl rfl (Nat.le_of_ble_eq_true rfl) dX4_playTick_82 (fun H locs hPw hDw hS => ?_)
        have hP : mw (dC, dI) vwCl A (TW cy L tr (S2 b1 8 n (upd (upd (b1 8 n) 1 0) 2 1)) κ τ) H := (hbk _ _ hPw hDw).sub (tw_set (b := S2 b1 8 n (upd (upd (b1 8 n) 1 0) 2 1)) (f := 8) (i := n) (x := upd (upd (b1 8 n) 1 0) 2 1) hT hi (by decide) S2_S2.symm)
        clear hbk hPw hDw hk9
        refine W.widen (k := 0) (n := 0) (Nat.le_of_ble_eq_true rfl) (Nat.le_of_ble_eq_true rfl) ?_
        have s_3 : S2 b1 8 n (upd (upd (b1 8 n) 1 0) 2 1) = S_play a n h := by
          simp only [S_play, S_tick, ← eb1]
          simp only [S_play1, S_next, X_next, if_neg c_1, if_pos c_3, if_pos c_4]
        rw [s_3] at hP
        exact W.vret hx hb hr (fun t ht hW => ⟨⟨(), rfl, trivial, (by show mw _ _ _ _ t.heap; rw [ht]; exact hP)⟩, hS.F ht⟩) hS.2.2 dX4_playTick_85
      · refine lv_aload_n hx hb dX4_playTick_67 rfl (lv_at hl 0 rfl) ?_
        refine va_get (D := (dC, dI)) (ws := [(L 8 n, .inr (4, [.ref (L 9 n), .ref (L 10 n), .ref (L 11 n), .int ((b1 8 n) 0), .int ((b1 8 n) 1), .int ((b1 8 n) 2)]))]) (ci := 4) (v := .int ((b1 8 n) 1)) (C := RX4) (T := TX4) (N := 6) hx hb hts tl_X4 hown hK (hP.one (tw_mem (f := 8) (i := n) hi rfl)) 0 rfl rfl 4 (by decide) (hts _ tw_741) (fun _ h9 => h9) rfl dX4_playTick_68 ?_
        refine lv_iconst (v := 1) hx hb dX4_playTick_71 (by decide) ?_
        refine lv_iadd hx hb dX4_playTick_72 ?_
        refine lv_goto (tgt := 77) hx hb dX4_playTick_73 (by decide) ?_
        obtain ⟨ws9, k9, hPw, hDw, hk9, -, hbk⟩ := hP.cut (e := .inr (4, [.ref (L 9 n), .ref (L 10 n), .ref (L 11 n), .int ((b1 8 n) 0), .int ((b1 8 n) 1), .int ((b1 8 n) 2)])) (tw_mem (f := 8) (i := n) hi rfl)
        refine va_put (D := (dC, dI)) (ci := 4) (v := .int (((b1 8 n) 1) + 1)) (ty := .int) (C := RX4) (T := TX4) (N := 6) hx hb hts tl_X4 tyX4 tyX4_ok nmX4 hown hK hPw hDw hS k9 hk9 rfl 4 (by decide) (hts _ tw_741) (fun _ h9 => h9) rfl (by decide +kernel) rfl rfl (Nat.le_of_ble_eq_true rfl) dX4_playTick_77 (fun H locs hPw hDw hS => ?_)
        have hP : mw (dC, dI) vwCl A (TW cy L tr (S2 b1 8 n (upd (b1 8 n) 1 (((b1 8 n) 1) + 1))) κ τ) H := (hbk _ _ hPw hDw).sub (tw_set (b := S2 b1 8 n (upd (b1 8 n) 1 (((b1 8 n) 1) + 1))) (f := 8) (i := n) (x := upd (b1 8 n) 1 (((b1 8 n) 1) + 1)) hT hi (by decide) rfl)
        clear hbk hPw hDw hk9
        refine lv_aload_n hx hb dX4_playTick_80 rfl (lv_at hl 0 rfl) ?_
        refine lv_iconst (v := 1) hx hb dX4_playTick_81 (by decide) ?_
        obtain ⟨ws9, k9, hPw, hDw, hk9, -, hbk⟩ := hP.cut (e := .inr (4, [.ref (L 9 n), .ref (L 10 n), .ref (L 11 n), .int ((b1 8 n) 0), .int (((b1 8 n) 1) + 1), .int ((b1 8 n) 2)])) (tw_mem (f := 8) (i := n) hi S2_eq)
        refine va_put (D := (dC, dI)) (ci := 4) (v := .int 1) (ty := .int) (C := RX4) (T := TX4) (N := 6) hx hb hts tl_X4 tyX4 tyX4_ok nmX4 hown hK hPw hDw hS k9 hk9 rfl 5 (by decide) (hts _ tw_743) (fun _ h9 => h9) rfl (by decide +kernel) rfl rfl (Nat.le_of_ble_eq_true rfl) dX4_playTick_82 (fun H locs hPw hDw hS => ?_)
        have hP : mw (dC, dI) vwCl A (TW cy L tr (S2 b1 8 n (upd (upd (b1 8 n) 1 (((b1 8 n) 1) + 1)) 2 1)) κ τ) H := (hbk _ _ hPw hDw).sub (tw_set (b := S2 b1 8 n (upd (upd (b1 8 n) 1 (((b1 8 n) 1) + 1)) 2 1)) (f := 8) (i := n) (x := upd (upd (b1 8 n) 1 (((b1 8 n) 1) + 1)) 2 1) hT hi (by decide) S2_S2.symm)
        clear hbk hPw hDw hk9
        refine W.widen (k := 0) (n := 0) (Nat.le_of_ble_eq_true rfl) (Nat.le_of_ble_eq_true rfl) ?_
        have s_4 : S2 b1 8 n (upd (upd (b1 8 n) 1 (((b1 8 n) 1) + 1)) 2 1) = S_play a n h := by
          simp only [S_play, S_tick, ← eb1]
          simp only [S_play1, S_next, X_next, if_neg c_1, if_pos c_3, if_neg c_4]
        rw [s_4] at hP
        exact W.vret hx hb hr (fun t ht hW => ⟨⟨(), rfl, trivial, (by show mw _ _ _ _ t.heap; rw [ht]; exact hP)⟩, hS.F ht⟩) hS.2.2 dX4_playTick_85
    · refine lv_aload_n hx hb dX4_playTick_33 rfl (lv_at hl 0 rfl) ?_
      refine va_get (D := (dC, dI)) (ws := [(L 8 n, .inr (4, [.ref (L 9 n), .ref (L 10 n), .ref (L 11 n), .int ((b1 8 n) 0), .int ((b1 8 n) 1), .int ((b1 8 n) 2)]))]) (ci := 4) (v := .int ((b1 8 n) 2)) (C := RX4) (T := TX4) (N := 6) hx hb hts tl_X4 hown hK (hP.one (tw_mem (f := 8) (i := n) hi rfl)) 0 rfl rfl 5 (by decide) (hts _ tw_743) (fun _ h9 => h9) rfl dX4_playTick_34 ?_
      refine lv_aload_n hx hb dX4_playTick_37 rfl (lv_at hl 0 rfl) ?_
      refine va_get (D := (dC, dI)) (ws := [(L 8 n, .inr (4, [.ref (L 9 n), .ref (L 10 n), .ref (L 11 n), .int ((b1 8 n) 0), .int ((b1 8 n) 1), .int ((b1 8 n) 2)]))]) (ci := 4) (v := .ref (L 10 n)) (C := RX4) (T := TX4) (N := 6) hx hb hts tl_X4 hown hK (hP.one (tw_mem (f := 8) (i := n) hi rfl)) 0 rfl rfl 1 (by decide) (hts _ tw_736) (fun _ h9 => h9) rfl dX4_playTick_38 ?_
      refine lv_aload_n hx hb dX4_playTick_41 rfl (lv_at hl 0 rfl) ?_
      refine va_get (D := (dC, dI)) (ws := [(L 8 n, .inr (4, [.ref (L 9 n), .ref (L 10 n), .ref (L 11 n), .int ((b1 8 n) 0), .int ((b1 8 n) 1), .int ((b1 8 n) 2)]))]) (ci := 4) (v := .int ((b1 8 n) 1)) (C := RX4) (T := TX4) (N := 6) hx hb hts tl_X4 hown hK (hP.one (tw_mem (f := 8) (i := n) hi rfl)) 0 rfl rfl 4 (by decide) (hts _ tw_741) (fun _ h9 => h9) rfl dX4_playTick_42 ?_
      have j_2 : ((b1 8 n) 1 : Int32).toNatClampNeg = ((b1 8 n) 1).toNatClampNeg := m_cl (m_nI (S_on_in c_1).1) (m_lt (S_on_in c_1).1 (S_on_in c_1).2 h4b) (by decide)
      refine va_iald hx hb hK (ws := [(L 10 n, .inl (cy 0, 4, .inl (b1 10 n)))]) (hP.one (tw_mem (f := 10) (i := n) hi rfl)) 0 0 rfl rfl (m_in (m_nI (S_on_in c_1).1) (m_lt (S_on_in c_1).1 (S_on_in c_1).2 h4b) (by decide)) dX4_playTick_45 ?_
      refine W.eq (g2 := F0 m 46 ls [.int ((b1 10 n) (((b1 8 n) 1).toNatClampNeg)), .int ((b1 8 n) 2)]) (by first | (rw [j_2]; done) | (rw [j_2]; rfl)) ?_
      refine lv_icmp_le (tgt := 85) hx hb dX4_playTick_46 (by decide) (fun c_5 => ?_) (fun c_5 => ?_)
      · refine W.widen (k := 0) (n := 0) (Nat.le_of_ble_eq_true rfl) (Nat.le_of_ble_eq_true rfl) ?_
        have s_5 : b1 = S_play a n h := by
          simp only [S_play, S_tick, ← eb1]
          simp only [S_play1, S_next, X_next, if_neg c_1, if_neg c_3, if_pos c_5]
        rw [s_5] at hP
        exact W.vret hx hb hr (fun t ht hW => ⟨⟨(), rfl, trivial, (by show mw _ _ _ _ t.heap; rw [ht]; exact hP)⟩, hS.F ht⟩) hS.2.2 dX4_playTick_85
      · refine lv_iload_n hx hb dX4_playTick_49 rfl (lv_at hl 1 rfl) ?_
        refine lv_if_ne (tgt := 85) hx hb dX4_playTick_50 (by decide) (fun c_6 => ?_) (fun c_6 => ?_)
        · refine W.widen (k := 0) (n := 0) (Nat.le_of_ble_eq_true rfl) (Nat.le_of_ble_eq_true rfl) ?_
          have s_6 : b1 = S_play a n h := by
            simp only [S_play, S_tick, ← eb1]
            simp only [S_play1, S_next, X_next, if_neg c_1, if_neg c_3, if_neg c_5, if_neg c_6]
          rw [s_6] at hP
          exact W.vret hx hb hr (fun t ht hW => ⟨⟨(), rfl, trivial, (by show mw _ _ _ _ t.heap; rw [ht]; exact hP)⟩, hS.F ht⟩) hS.2.2 dX4_playTick_85
        · refine lv_aload_n hx hb dX4_playTick_53 rfl (lv_at hl 0 rfl) ?_
          refine lv_aload_n hx hb dX4_playTick_54 rfl (lv_at hl 0 rfl) ?_
          refine va_get (D := (dC, dI)) (ws := [(L 8 n, .inr (4, [.ref (L 9 n), .ref (L 10 n), .ref (L 11 n), .int ((b1 8 n) 0), .int ((b1 8 n) 1), .int ((b1 8 n) 2)]))]) (ci := 4) (v := .int ((b1 8 n) 1)) (C := RX4) (T := TX4) (N := 6) hx hb hts tl_X4 hown hK (hP.one (tw_mem (f := 8) (i := n) hi rfl)) 0 rfl rfl 4 (by decide) (hts _ tw_741) (fun _ h9 => h9) rfl dX4_playTick_55 ?_
          refine lv_iconst (v := 1) hx hb dX4_playTick_58 (by decide) ?_
          refine lv_iadd hx hb dX4_playTick_59 ?_
          refine lv_aload_n hx hb dX4_playTick_60 rfl (lv_at hl 0 rfl) ?_
          refine va_get (D := (dC, dI)) (ws := [(L 8 n, .inr (4, [.ref (L 9 n), .ref (L 10 n), .ref (L 11 n), .int ((b1 8 n) 0), .int ((b1 8 n) 1), .int ((b1 8 n) 2)]))]) (ci := 4) (v := .int ((b1 8 n) 0)) (C := RX4) (T := TX4) (N := 6) hx hb hts tl_X4 hown hK (hP.one (tw_mem (f := 8) (i := n) hi rfl)) 0 rfl rfl 3 (by decide) (hts _ tw_738) (fun _ h9 => h9) rfl dX4_playTick_61 ?_
          refine lv_icmp_ge (tgt := 76) hx hb dX4_playTick_64 (by decide) (fun c_7 => ?_) (fun c_7 => ?_)
          · refine lv_iconst (v := 0) hx hb dX4_playTick_76 (by decide) ?_
            obtain ⟨ws9, k9, hPw, hDw, hk9, -, hbk⟩ := hP.cut (e := .inr (4, [.ref (L 9 n), .ref (L 10 n), .ref (L 11 n), .int ((b1 8 n) 0), .int ((b1 8 n) 1), .int ((b1 8 n) 2)])) (tw_mem (f := 8) (i := n) hi rfl)
            refine va_put (D := (dC, dI)) (ci := 4) (v := .int 0) (ty := .int) (C := RX4) (T := TX4) (N := 6) hx hb hts tl_X4 tyX4 tyX4_ok nmX4 hown hK hPw hDw hS k9 hk9 rfl 4 (by decide) (hts _ tw_741) (fun _ h9 => h9) rfl (by decide +kernel) rfl rfl (Nat.le_of_ble_eq_true rfl) dX4_playTick_77 (fun H locs hPw hDw hS => ?_)
            have hP : mw (dC, dI) vwCl A (TW cy L tr (S2 b1 8 n (upd (b1 8 n) 1 0)) κ τ) H := (hbk _ _ hPw hDw).sub (tw_set (b := S2 b1 8 n (upd (b1 8 n) 1 0)) (f := 8) (i := n) (x := upd (b1 8 n) 1 0) hT hi (by decide) rfl)
            clear hbk hPw hDw hk9
            refine lv_aload_n hx hb dX4_playTick_80 rfl (lv_at hl 0 rfl) ?_
            refine lv_iconst (v := 1) hx hb dX4_playTick_81 (by decide) ?_
            obtain ⟨ws9, k9, hPw, hDw, hk9, -, hbk⟩ := hP.cut (e := .inr (4, [.ref (L 9 n), .ref (L 10 n), .ref (L 11 n), .int ((b1 8 n) 0), .int 0, .int ((b1 8 n) 2)])) (tw_mem (f := 8) (i := n) hi S2_eq)
            refine va_put (D := (dC, dI)) (ci := 4) (v := .int 1) (ty := .int) (C := RX4) (T := TX4) (N := 6) hx hb hts tl_X4 tyX4 tyX4_ok nmX4 hown hK hPw hDw hS k9 hk9 rfl 5 (by decide) (hts _ tw_743) (fun _ h9 => h9) rfl (by decide +kernel) rfl rfl (Nat.le_of_ble_eq_true rfl) dX4_playTick_82 (fun H locs hPw hDw hS => ?_)
            have hP : mw (dC, dI) vwCl A (TW cy L tr (S2 b1 8 n (upd (upd (b1 8 n) 1 0) 2 1)) κ τ) H := (hbk _ _ hPw hDw).sub (tw_set (b := S2 b1 8 n (upd (upd (b1 8 n) 1 0) 2 1)) (f := 8) (i := n) (x := upd (upd (b1 8 n) 1 0) 2 1) hT hi (by decide) S2_S2.symm)
            clear hbk hPw hDw hk9
            refine W.widen (k := 0) (n := 0) (Nat.le_of_ble_eq_true rfl) (Nat.le_of_ble_eq_true rfl) ?_
            have s_7 : S2 b1 8 n (upd (upd (b1 8 n) 1 0) 2 1) = S_play a n h := by
              simp only [S_play, S_tick, ← eb1]
              simp only [S_play1, S_next, X_next, if_neg c_1, if_neg c_3, if_neg c_5, if_pos c_6, if_pos c_7]
            rw [s_7] at hP
            exact W.vret hx hb hr (fun t ht hW => ⟨⟨(), rfl, trivial, (by show mw _ _ _ _ t.heap; rw [ht]; exact hP)⟩, hS.F ht⟩) hS.2.2 dX4_playTick_85
          · refine lv_aload_n hx hb dX4_playTick_67 rfl (lv_at hl 0 rfl) ?_
            refine va_get (D := (dC, dI)) (ws := [(L 8 n, .inr (4, [.ref (L 9 n), .ref (L 10 n), .ref (L 11 n), .int ((b1 8 n) 0), .int ((b1 8 n) 1), .int ((b1 8 n) 2)]))]) (ci := 4) (v := .int ((b1 8 n) 1)) (C := RX4) (T := TX4) (N := 6) hx hb hts tl_X4 hown hK (hP.one (tw_mem (f := 8) (i := n) hi rfl)) 0 rfl rfl 4 (by decide) (hts _ tw_741) (fun _ h9 => h9) rfl dX4_playTick_68 ?_
            refine lv_iconst (v := 1) hx hb dX4_playTick_71 (by decide) ?_
            refine lv_iadd hx hb dX4_playTick_72 ?_
            refine lv_goto (tgt := 77) hx hb dX4_playTick_73 (by decide) ?_
            obtain ⟨ws9, k9, hPw, hDw, hk9, -, hbk⟩ := hP.cut (e := .inr (4, [.ref (L 9 n), .ref (L 10 n), .ref (L 11 n), .int ((b1 8 n) 0), .int ((b1 8 n) 1), .int ((b1 8 n) 2)])) (tw_mem (f := 8) (i := n) hi rfl)
            refine va_put (D := (dC, dI)) (ci := 4) (v := .int (((b1 8 n) 1) + 1)) (ty := .int) (C := RX4) (T := TX4) (N := 6) hx hb hts tl_X4 tyX4 tyX4_ok nmX4 hown hK hPw hDw hS k9 hk9 rfl 4 (by decide) (hts _ tw_741) (fun _ h9 => h9) rfl (by decide +kernel) rfl rfl (Nat.le_of_ble_eq_true rfl) dX4_playTick_77 (fun H locs hPw hDw hS => ?_)
            have hP : mw (dC, dI) vwCl A (TW cy L tr (S2 b1 8 n (upd (b1 8 n) 1 (((b1 8 n) 1) + 1))) κ τ) H := (hbk _ _ hPw hDw).sub (tw_set (b := S2 b1 8 n (upd (b1 8 n) 1 (((b1 8 n) 1) + 1))) (f := 8) (i := n) (x := upd (b1 8 n) 1 (((b1 8 n) 1) + 1)) hT hi (by decide) rfl)
            clear hbk hPw hDw hk9
            refine lv_aload_n hx hb dX4_playTick_80 rfl (lv_at hl 0 rfl) ?_
            refine lv_iconst (v := 1) hx hb dX4_playTick_81 (by decide) ?_
            obtain ⟨ws9, k9, hPw, hDw, hk9, -, hbk⟩ := hP.cut (e := .inr (4, [.ref (L 9 n), .ref (L 10 n), .ref (L 11 n), .int ((b1 8 n) 0), .int (((b1 8 n) 1) + 1), .int ((b1 8 n) 2)])) (tw_mem (f := 8) (i := n) hi S2_eq)
            refine va_put (D := (dC, dI)) (ci := 4) (v := .int 1) (ty := .int) (C := RX4) (T := TX4) (N := 6) hx hb hts tl_X4 tyX4 tyX4_ok nmX4 hown hK hPw hDw hS k9 hk9 rfl 5 (by decide) (hts _ tw_743) (fun _ h9 => h9) rfl (by decide +kernel) rfl rfl (Nat.le_of_ble_eq_true rfl) dX4_playTick_82 (fun H locs hPw hDw hS => ?_)
            have hP : mw (dC, dI) vwCl A (TW cy L tr (S2 b1 8 n (upd (upd (b1 8 n) 1 (((b1 8 n) 1) + 1)) 2 1)) κ τ) H := (hbk _ _ hPw hDw).sub (tw_set (b := S2 b1 8 n (upd (upd (b1 8 n) 1 (((b1 8 n) 1) + 1)) 2 1)) (f := 8) (i := n) (x := upd (upd (b1 8 n) 1 (((b1 8 n) 1) + 1)) 2 1) hT hi (by decide) S2_S2.symm)
            clear hbk hPw hDw hk9
            refine W.widen (k := 0) (n := 0) (Nat.le_of_ble_eq_true rfl) (Nat.le_of_ble_eq_true rfl) ?_
            have s_8 : S2 b1 8 n (upd (upd (b1 8 n) 1 (((b1 8 n) 1) + 1)) 2 1) = S_play a n h := by
              simp only [S_play, S_tick, ← eb1]
              simp only [S_play1, S_next, X_next, if_neg c_1, if_neg c_3, if_neg c_5, if_pos c_6, if_neg c_7]
            rw [s_8] at hP
            exact W.vret hx hb hr (fun t ht hW => ⟨⟨(), rfl, trivial, (by show mw _ _ _ _ t.heap; rw [ht]; exact hP)⟩, hS.F ht⟩) hS.2.2 dX4_playTick_85
set_option maxRecDepth 100000 in
set_option maxHeartbeats 4000000 in
/-- Signal.append, with room -/
theorem c_Signal_append (l : Launch) (dC : Nat → ClassId) (dI : Nat → Nat → Nat) (cy : Nat → ClassId) (L : Lay) (tr : Option Nat) (a : St) (κ : Kap) (τ : Tau) (n : Nat) (x : Int32) (y : Int32) (z : Int32) (sz : Nat) (hT : TL L tr τ) (hi : n < 12) (h4l : 0 ≤ (a 8 n 0).toInt) (h4 : (a 8 n 0).toInt < 4) : Met l yX4_append (tp_w yX4_append cX4_append 4 (some .int)) ({ frames := 0, cells := 0, slots := 0, locals := 0 }) (va_Pc [.ref (L 8 n), .int x, .int y, .int z] (mPre dC dI cy (TW cy L tr a κ τ) sz)) (va_Qi (fun (r u : Int32) => r = u) (fun (u : Int32) (t : State) => (u = a 8 n 0) ∧ mw (dC, dI) vwCl (mA (TW cy L tr a κ τ) sz) (TW cy L tr (S_app a n x y z) κ τ) t.heap) (mA (TW cy L tr a κ τ) sz)) (0) (0) (mA (TW cy L tr a κ τ) sz) := by
  refine Met.ofW (cc := cX4_append) (maxL := 4) (ret := (some .int)) (by decide) rfl ?_
  intro p e s m args below meth c s₁ B hml hv
  obtain ⟨rfl, hsz, hP, hK, hE⟩ := hv
  have hx := B.exec
  have hb := B.bytes
  have hr := B.returns
  have hts0 := atoms_spec (ws := tp_w yX4_append cX4_append 4 (some .int)) B.pre
  have hts : ∀ w ∈ tp_all, w.before _ s = true := fun w h => hts0 w (List.mem_cons_of_mem _ h)
  have hown : s.vm.findClass RX4 = some m.cls := findClass_of_methodNamed B.named
  have hlocks := B.notSynchronized
  subst hsz
  have hP := hP.self s.heap.size
  generalize hAe : mA (TW cy L tr a κ τ) s.heap.size = A at hP ⊢
  have hA : ∀ q : Nat, s.heap.size ≤ q → A q := fun q h => by rw [← hAe]; exact Or.inr h
  have hS : va_S A s.heap s.heap [] := va_S.rf
  have hl9 := lv_entry ([.ref (L 8 n), .int x, .int y, .int z]) (n := 4) (Nat.le_of_ble_eq_true rfl)
  rw [lg_entry_eq]
  generalize (lg_sl ([.ref (L 8 n), .int x, .int y, .int z]) ++ List.replicate (4 - (lg_sl ([.ref (L 8 n), .int x, .int y, .int z])).length) Slot.unset).toArray = ls at hl9 ⊢
  have hl : lv_has ls 4 [(0, .ref (L 8 n)), (1, .int x), (2, .int y), (3, .int z)] := hl9
  refine lv_aload_n hx hb dX4_append_0 rfl (lv_at hl 0 rfl) ?_
  refine va_get (D := (dC, dI)) (ws := [(L 8 n, .inr (4, [.ref (L 9 n), .ref (L 10 n), .ref (L 11 n), .int ((a 8 n) 0), .int ((a 8 n) 1), .int ((a 8 n) 2)]))]) (ci := 4) (v := .int ((a 8 n) 0)) (C := RX4) (T := TX4) (N := 6) hx hb hts tl_X4 hown hK (hP.one (tw_mem (f := 8) (i := n) hi rfl)) 0 rfl rfl 3 (by decide) (hts _ tw_738) (fun _ h9 => h9) rfl dX4_append_1 ?_
  refine lv_iconst (v := 4) hx hb dX4_append_4 (by decide) ?_
  refine lv_icmp_lt (tgt := 10) hx hb dX4_append_5 (by decide) (fun _ => ?_) (fun c_1 => absurd (Int32.lt_iff_toInt_lt.mpr h4) c_1)
  refine lv_aload_n hx hb dX4_append_10 rfl (lv_at hl 0 rfl) ?_
  refine va_get (D := (dC, dI)) (ws := [(L 8 n, .inr (4, [.ref (L 9 n), .ref (L 10 n), .ref (L 11 n), .int ((a 8 n) 0), .int ((a 8 n) 1), .int ((a 8 n) 2)]))]) (ci := 4) (v := .ref (L 9 n)) (C := RX4) (T := TX4) (N := 6) hx hb hts tl_X4 hown hK (hP.one (tw_mem (f := 8) (i := n) hi rfl)) 0 rfl rfl 0 (by decide) (hts _ tw_735) (fun _ h9 => h9) rfl dX4_append_11 ?_
  refine lv_aload_n hx hb dX4_append_14 rfl (lv_at hl 0 rfl) ?_
  refine va_get (D := (dC, dI)) (ws := [(L 8 n, .inr (4, [.ref (L 9 n), .ref (L 10 n), .ref (L 11 n), .int ((a 8 n) 0), .int ((a 8 n) 1), .int ((a 8 n) 2)]))]) (ci := 4) (v := .int ((a 8 n) 0)) (C := RX4) (T := TX4) (N := 6) hx hb hts tl_X4 hown hK (hP.one (tw_mem (f := 8) (i := n) hi rfl)) 0 rfl rfl 3 (by decide) (hts _ tw_738) (fun _ h9 => h9) rfl dX4_append_15 ?_
  refine lv_iload_n hx hb dX4_append_18 rfl (lv_at hl 1 rfl) ?_
  have j_1 : ((a 8 n) 0 : Int32).toNatClampNeg = ((a 8 n) 0).toNatClampNeg := m_cl (m_n0 h4l) (m_ltI h4l h4) (by decide)
  obtain ⟨ws9, k9, hPw, hDw, hk9, -, hbk⟩ := hP.cut (e := .inl (cy 0, 4, .inl (a 9 n))) (tw_mem (f := 9) (i := n) hi rfl)
  refine va_iast hx hb hK hPw hDw hS k9 0 hk9 rfl (m_in (m_n0 h4l) (m_ltI h4l h4) (by decide)) dX4_append_19 (fun H locs hPw hDw hS => ?_)
  rw [j_1] at hPw hDw
  have hP : mw (dC, dI) vwCl A (TW cy L tr (S2 a 9 n (upd (a 9 n) (((a 8 n) 0).toNatClampNeg) x)) κ τ) H := (hbk _ _ hPw hDw).sub (tw_set (b := S2 a 9 n (upd (a 9 n) (((a 8 n) 0).toNatClampNeg) x)) (f := 9) (i := n) (x := upd (a 9 n) (((a 8 n) 0).toNatClampNeg) x) hT hi (by decide) rfl)
  clear hbk hPw hDw hk9
  refine lv_aload_n hx hb dX4_append_20 rfl (lv_at hl 0 rfl) ?_
  refine va_get (D := (dC, dI)) (ws := [(L 8 n, .inr (4, [.ref (L 9 n), .ref (L 10 n), .ref (L 11 n), .int ((a 8 n) 0), .int ((a 8 n) 1), .int ((a 8 n) 2)]))]) (ci := 4) (v := .ref (L 10 n)) (C := RX4) (T := TX4) (N := 6) hx hb hts tl_X4 hown hK (hP.one (tw_mem (f := 8) (i := n) hi (S2_nf (by decide)))) 0 rfl rfl 1 (by decide) (hts _ tw_736) (fun _ h9 => h9) rfl dX4_append_21 ?_
  refine lv_aload_n hx hb dX4_append_24 rfl (lv_at hl 0 rfl) ?_
  refine va_get (D := (dC, dI)) (ws := [(L 8 n, .inr (4, [.ref (L 9 n), .ref (L 10 n), .ref (L 11 n), .int ((a 8 n) 0), .int ((a 8 n) 1), .int ((a 8 n) 2)]))]) (ci := 4) (v := .int ((a 8 n) 0)) (C := RX4) (T := TX4) (N := 6) hx hb hts tl_X4 hown hK (hP.one (tw_mem (f := 8) (i := n) hi (S2_nf (by decide)))) 0 rfl rfl 3 (by decide) (hts _ tw_738) (fun _ h9 => h9) rfl dX4_append_25 ?_
  refine lv_iload_n hx hb dX4_append_28 rfl (lv_at hl 2 rfl) ?_
  have j_2 : ((a 8 n) 0 : Int32).toNatClampNeg = ((a 8 n) 0).toNatClampNeg := m_cl (m_n0 h4l) (m_ltI h4l h4) (by decide)
  obtain ⟨ws9, k9, hPw, hDw, hk9, -, hbk⟩ := hP.cut (e := .inl (cy 0, 4, .inl (a 10 n))) (tw_mem (f := 10) (i := n) hi (S2_nf (by decide)))
  refine va_iast hx hb hK hPw hDw hS k9 0 hk9 rfl (m_in (m_n0 h4l) (m_ltI h4l h4) (by decide)) dX4_append_29 (fun H locs hPw hDw hS => ?_)
  rw [j_2] at hPw hDw
  have hP : mw (dC, dI) vwCl A (TW cy L tr (S2 (S2 a 9 n (upd (a 9 n) (((a 8 n) 0).toNatClampNeg) x)) 10 n (upd (a 10 n) (((a 8 n) 0).toNatClampNeg) y)) κ τ) H := (hbk _ _ hPw hDw).sub (tw_set (b := S2 (S2 a 9 n (upd (a 9 n) (((a 8 n) 0).toNatClampNeg) x)) 10 n (upd (a 10 n) (((a 8 n) 0).toNatClampNeg) y)) (f := 10) (i := n) (x := upd (a 10 n) (((a 8 n) 0).toNatClampNeg) y) hT hi (by decide) rfl)
  clear hbk hPw hDw hk9
  refine lv_aload_n hx hb dX4_append_30 rfl (lv_at hl 0 rfl) ?_
  refine va_get (D := (dC, dI)) (ws := [(L 8 n, .inr (4, [.ref (L 9 n), .ref (L 10 n), .ref (L 11 n), .int ((a 8 n) 0), .int ((a 8 n) 1), .int ((a 8 n) 2)]))]) (ci := 4) (v := .ref (L 11 n)) (C := RX4) (T := TX4) (N := 6) hx hb hts tl_X4 hown hK (hP.one (tw_mem (f := 8) (i := n) hi ((S2_nf (by decide)).trans (S2_nf (by decide))))) 0 rfl rfl 2 (by decide) (hts _ tw_737) (fun _ h9 => h9) rfl dX4_append_31 ?_
  refine lv_aload_n hx hb dX4_append_34 rfl (lv_at hl 0 rfl) ?_
  refine va_get (D := (dC, dI)) (ws := [(L 8 n, .inr (4, [.ref (L 9 n), .ref (L 10 n), .ref (L 11 n), .int ((a 8 n) 0), .int ((a 8 n) 1), .int ((a 8 n) 2)]))]) (ci := 4) (v := .int ((a 8 n) 0)) (C := RX4) (T := TX4) (N := 6) hx hb hts tl_X4 hown hK (hP.one (tw_mem (f := 8) (i := n) hi ((S2_nf (by decide)).trans (S2_nf (by decide))))) 0 rfl rfl 3 (by decide) (hts _ tw_738) (fun _ h9 => h9) rfl dX4_append_35 ?_
  refine lv_iload_n hx hb dX4_append_38 rfl (lv_at hl 3 rfl) ?_
  have j_3 : ((a 8 n) 0 : Int32).toNatClampNeg = ((a 8 n) 0).toNatClampNeg := m_cl (m_n0 h4l) (m_ltI h4l h4) (by decide)
  obtain ⟨ws9, k9, hPw, hDw, hk9, -, hbk⟩ := hP.cut (e := .inl (cy 0, 4, .inl (a 11 n))) (tw_mem (f := 11) (i := n) hi ((S2_nf (by decide)).trans (S2_nf (by decide))))
  refine va_iast hx hb hK hPw hDw hS k9 0 hk9 rfl (m_in (m_n0 h4l) (m_ltI h4l h4) (by decide)) dX4_append_39 (fun H locs hPw hDw hS => ?_)
  rw [j_3] at hPw hDw
  have hP : mw (dC, dI) vwCl A (TW cy L tr (S2 (S2 (S2 a 9 n (upd (a 9 n) (((a 8 n) 0).toNatClampNeg) x)) 10 n (upd (a 10 n) (((a 8 n) 0).toNatClampNeg) y)) 11 n (upd (a 11 n) (((a 8 n) 0).toNatClampNeg) z)) κ τ) H := (hbk _ _ hPw hDw).sub (tw_set (b := S2 (S2 (S2 a 9 n (upd (a 9 n) (((a 8 n) 0).toNatClampNeg) x)) 10 n (upd (a 10 n) (((a 8 n) 0).toNatClampNeg) y)) 11 n (upd (a 11 n) (((a 8 n) 0).toNatClampNeg) z)) (f := 11) (i := n) (x := upd (a 11 n) (((a 8 n) 0).toNatClampNeg) z) hT hi (by decide) rfl)
  clear hbk hPw hDw hk9
  refine lv_aload_n hx hb dX4_append_40 rfl (lv_at hl 0 rfl) ?_
  refine lv_dup hx hb dX4_append_41 rfl ?_
  refine va_get (D := (dC, dI)) (ws := [(L 8 n, .inr (4, [.ref (L 9 n), .ref (L 10 n), .ref (L 11 n), .int ((a 8 n) 0), .int ((a 8 n) 1), .int ((a 8 n) 2)]))]) (ci := 4) (v := .int ((a 8 n) 0)) (C := RX4) (T := TX4) (N := 6) hx hb hts tl_X4 hown hK (hP.one (tw_mem (f := 8) (i := n) hi ((S2_nf (by decide)).trans ((S2_nf (by decide)).trans (S2_nf (by decide)))))) 0 rfl rfl 3 (by decide) (hts _ tw_738) (fun _ h9 => h9) rfl dX4_append_42 ?_
  refine lv_dup_x1 hx hb dX4_append_45 rfl rfl ?_
  refine lv_iconst (v := 1) hx hb dX4_append_46 (by decide) ?_
  refine lv_iadd hx hb dX4_append_47 ?_
  obtain ⟨ws9, k9, hPw, hDw, hk9, -, hbk⟩ := hP.cut (e := .inr (4, [.ref (L 9 n), .ref (L 10 n), .ref (L 11 n), .int ((a 8 n) 0), .int ((a 8 n) 1), .int ((a 8 n) 2)])) (tw_mem (f := 8) (i := n) hi ((S2_nf (by decide)).trans ((S2_nf (by decide)).trans (S2_nf (by decide)))))
  refine va_put (D := (dC, dI)) (ci := 4) (v := .int (((a 8 n) 0) + 1)) (ty := .int) (C := RX4) (T := TX4) (N := 6) hx hb hts tl_X4 tyX4 tyX4_ok nmX4 hown hK hPw hDw hS k9 hk9 rfl 3 (by decide) (hts _ tw_738) (fun _ h9 => h9) rfl (by decide +kernel) rfl rfl (Nat.le_of_ble_eq_true rfl) dX4_append_48 (fun H locs hPw hDw hS => ?_)
  have hP : mw (dC, dI) vwCl A (TW cy L tr (S2 (S2 (S2 (S2 a 9 n (upd (a 9 n) (((a 8 n) 0).toNatClampNeg) x)) 10 n (upd (a 10 n) (((a 8 n) 0).toNatClampNeg) y)) 11 n (upd (a 11 n) (((a 8 n) 0).toNatClampNeg) z)) 8 n (upd (a 8 n) 0 (((a 8 n) 0) + 1))) κ τ) H := (hbk _ _ hPw hDw).sub (tw_set (b := S2 (S2 (S2 (S2 a 9 n (upd (a 9 n) (((a 8 n) 0).toNatClampNeg) x)) 10 n (upd (a 10 n) (((a 8 n) 0).toNatClampNeg) y)) 11 n (upd (a 11 n) (((a 8 n) 0).toNatClampNeg) z)) 8 n (upd (a 8 n) 0 (((a 8 n) 0) + 1))) (f := 8) (i := n) (x := upd (a 8 n) 0 (((a 8 n) 0) + 1)) hT hi (by decide) rfl)
  clear hbk hPw hDw hk9
  refine W.widen (k := 0) (n := 0) (Nat.le_of_ble_eq_true rfl) (Nat.le_of_ble_eq_true rfl) ?_
  have s_1 : S2 (S2 (S2 (S2 a 9 n (upd (a 9 n) (((a 8 n) 0).toNatClampNeg) x)) 10 n (upd (a 10 n) (((a 8 n) 0).toNatClampNeg) y)) 11 n (upd (a 11 n) (((a 8 n) 0).toNatClampNeg) z)) 8 n (upd (a 8 n) 0 (((a 8 n) 0) + 1)) = S_app a n x y z := by
    first | rfl | (simp only [S_app])
  rw [s_1] at hP
  have g_1 : ((a 8 n) 0) = a 8 n 0 := by
    first | rfl | assumption | (simp only [S_app])
  exact W.iret (v := (a 8 n) 0) hx hb hr (fun t ht hW => ⟨⟨((a 8 n) 0), ((a 8 n) 0), rfl, rfl, ⟨g_1, by show mw _ _ _ _ t.heap; rw [ht]; exact hP⟩⟩, hS.F ht⟩) hS.2.2 dX4_append_51
set_option maxRecDepth 100000 in
set_option maxHeartbeats 4000000 in
/-- Flow.tell -/
theorem c_Flow_tell (l : Launch) (dC : Nat → ClassId) (dI : Nat → Nat → Nat) (cy : Nat → ClassId) (L : Lay) (tr : Option Nat) (a : St) (κ : Kap) (τ : Tau) (f : Nat) (fr : Int32) (to : Int32) (k : Int32) (st : Int32) (pe : Int32) (mo : Int32) (sz : Nat) (hT : TL L tr τ) (hi : f < 10) : Met l yX0_tell (tp_w yX0_tell cX0_tell 7 none) ({ frames := 0, cells := 0, slots := 0, locals := 0 }) (va_Pc [.ref (L 14 f), .int fr, .int to, .int k, .int st, .int pe, .int mo] (mPre dC dI cy (TW cy L tr a κ τ) sz)) (va_Qv (fun _ : Unit => True) (fun (_ : Unit) (t : State) => mw (dC, dI) vwCl (mA (TW cy L tr a κ τ) sz) (TW cy L tr (F_tell a f fr to k st pe mo) κ τ) t.heap) (mA (TW cy L tr a κ τ) sz)) (0) (0) (mA (TW cy L tr a κ τ) sz) := by
  refine Met.ofW (cc := cX0_tell) (maxL := 7) (ret := none) (by decide) rfl ?_
  intro p e s m args below meth c s₁ B hml hv
  obtain ⟨rfl, hsz, hP, hK, hE⟩ := hv
  have hx := B.exec
  have hb := B.bytes
  have hr := B.returns
  have hts0 := atoms_spec (ws := tp_w yX0_tell cX0_tell 7 none) B.pre
  have hts : ∀ w ∈ tp_all, w.before _ s = true := fun w h => hts0 w (List.mem_cons_of_mem _ h)
  have hown : s.vm.findClass RX0 = some m.cls := findClass_of_methodNamed B.named
  have hlocks := B.notSynchronized
  subst hsz
  have hP := hP.self s.heap.size
  generalize hAe : mA (TW cy L tr a κ τ) s.heap.size = A at hP ⊢
  have hA : ∀ q : Nat, s.heap.size ≤ q → A q := fun q h => by rw [← hAe]; exact Or.inr h
  have hS : va_S A s.heap s.heap [] := va_S.rf
  have hl9 := lv_entry ([.ref (L 14 f), .int fr, .int to, .int k, .int st, .int pe, .int mo]) (n := 7) (Nat.le_of_ble_eq_true rfl)
  rw [lg_entry_eq]
  generalize (lg_sl ([.ref (L 14 f), .int fr, .int to, .int k, .int st, .int pe, .int mo]) ++ List.replicate (7 - (lg_sl ([.ref (L 14 f), .int fr, .int to, .int k, .int st, .int pe, .int mo])).length) Slot.unset).toArray = ls at hl9 ⊢
  have hl : lv_has ls 7 [(0, .ref (L 14 f)), (1, .int fr), (2, .int to), (3, .int k), (4, .int st), (5, .int pe), (6, .int mo)] := hl9
  refine lv_aload_n hx hb dX0_tell_0 rfl (lv_at hl 0 rfl) ?_
  refine lv_iload_n hx hb dX0_tell_1 rfl (lv_at hl 1 rfl) ?_
  obtain ⟨ws9, k9, hPw, hDw, hk9, -, hbk⟩ := hP.cut (e := .inr (0, [.int ((a 14 f) 0), .int ((a 14 f) 1), .int ((a 14 f) 2), .int ((a 14 f) 3), .int ((a 14 f) 4), .int ((a 14 f) 5), .int ((a 14 f) 6), .int ((a 14 f) 7), .int ((a 14 f) 8), .int ((a 14 f) 9), .int ((a 14 f) 10), .int ((a 14 f) 11)])) (tw_mem (f := 14) (i := f) hi rfl)
  refine va_put (D := (dC, dI)) (ci := 0) (v := .int fr) (ty := .int) (C := RX0) (T := TX0) (N := 12) hx hb hts tl_X0 tyX0 tyX0_ok nmX0 hown hK hPw hDw hS k9 hk9 rfl 0 (by decide) (hts _ tw_764) (fun _ h9 => h9) rfl (by decide +kernel) rfl rfl (Nat.le_of_ble_eq_true rfl) dX0_tell_2 (fun H locs hPw hDw hS => ?_)
  have hP : mw (dC, dI) vwCl A (TW cy L tr (S2 a 14 f (upd (a 14 f) 0 fr)) κ τ) H := (hbk _ _ hPw hDw).sub (tw_set (b := S2 a 14 f (upd (a 14 f) 0 fr)) (f := 14) (i := f) (x := upd (a 14 f) 0 fr) hT hi (by decide) rfl)
  clear hbk hPw hDw hk9
  refine lv_aload_n hx hb dX0_tell_5 rfl (lv_at hl 0 rfl) ?_
  refine lv_iload_n hx hb dX0_tell_6 rfl (lv_at hl 2 rfl) ?_
  obtain ⟨ws9, k9, hPw, hDw, hk9, -, hbk⟩ := hP.cut (e := .inr (0, [.int fr, .int ((a 14 f) 1), .int ((a 14 f) 2), .int ((a 14 f) 3), .int ((a 14 f) 4), .int ((a 14 f) 5), .int ((a 14 f) 6), .int ((a 14 f) 7), .int ((a 14 f) 8), .int ((a 14 f) 9), .int ((a 14 f) 10), .int ((a 14 f) 11)])) (tw_mem (f := 14) (i := f) hi S2_eq)
  refine va_put (D := (dC, dI)) (ci := 0) (v := .int to) (ty := .int) (C := RX0) (T := TX0) (N := 12) hx hb hts tl_X0 tyX0 tyX0_ok nmX0 hown hK hPw hDw hS k9 hk9 rfl 1 (by decide) (hts _ tw_766) (fun _ h9 => h9) rfl (by decide +kernel) rfl rfl (Nat.le_of_ble_eq_true rfl) dX0_tell_7 (fun H locs hPw hDw hS => ?_)
  have hP : mw (dC, dI) vwCl A (TW cy L tr (S2 a 14 f (upd (upd (a 14 f) 0 fr) 1 to)) κ τ) H := (hbk _ _ hPw hDw).sub (tw_set (b := S2 a 14 f (upd (upd (a 14 f) 0 fr) 1 to)) (f := 14) (i := f) (x := upd (upd (a 14 f) 0 fr) 1 to) hT hi (by decide) S2_S2.symm)
  clear hbk hPw hDw hk9
  refine lv_aload_n hx hb dX0_tell_10 rfl (lv_at hl 0 rfl) ?_
  refine lv_iload_n hx hb dX0_tell_11 rfl (lv_at hl 3 rfl) ?_
  obtain ⟨ws9, k9, hPw, hDw, hk9, -, hbk⟩ := hP.cut (e := .inr (0, [.int fr, .int to, .int ((a 14 f) 2), .int ((a 14 f) 3), .int ((a 14 f) 4), .int ((a 14 f) 5), .int ((a 14 f) 6), .int ((a 14 f) 7), .int ((a 14 f) 8), .int ((a 14 f) 9), .int ((a 14 f) 10), .int ((a 14 f) 11)])) (tw_mem (f := 14) (i := f) hi S2_eq)
  refine va_put (D := (dC, dI)) (ci := 0) (v := .int k) (ty := .int) (C := RX0) (T := TX0) (N := 12) hx hb hts tl_X0 tyX0 tyX0_ok nmX0 hown hK hPw hDw hS k9 hk9 rfl 2 (by decide) (hts _ tw_768) (fun _ h9 => h9) rfl (by decide +kernel) rfl rfl (Nat.le_of_ble_eq_true rfl) dX0_tell_12 (fun H locs hPw hDw hS => ?_)
  have hP : mw (dC, dI) vwCl A (TW cy L tr (S2 a 14 f (upd (upd (upd (a 14 f) 0 fr) 1 to) 2 k)) κ τ) H := (hbk _ _ hPw hDw).sub (tw_set (b := S2 a 14 f (upd (upd (upd (a 14 f) 0 fr) 1 to) 2 k)) (f := 14) (i := f) (x := upd (upd (upd (a 14 f) 0 fr) 1 to) 2 k) hT hi (by decide) S2_S2.symm)
  clear hbk hPw hDw hk9
  refine lv_aload_n hx hb dX0_tell_15 rfl (lv_at hl 0 rfl) ?_
  refine lv_iload hx hb dX0_tell_16 (lv_at hl 4 rfl) ?_
  obtain ⟨ws9, k9, hPw, hDw, hk9, -, hbk⟩ := hP.cut (e := .inr (0, [.int fr, .int to, .int k, .int ((a 14 f) 3), .int ((a 14 f) 4), .int ((a 14 f) 5), .int ((a 14 f) 6), .int ((a 14 f) 7), .int ((a 14 f) 8), .int ((a 14 f) 9), .int ((a 14 f) 10), .int ((a 14 f) 11)])) (tw_mem (f := 14) (i := f) hi S2_eq)
  refine va_put (D := (dC, dI)) (ci := 0) (v := .int st) (ty := .int) (C := RX0) (T := TX0) (N := 12) hx hb hts tl_X0 tyX0 tyX0_ok nmX0 hown hK hPw hDw hS k9 hk9 rfl 3 (by decide) (hts _ tw_770) (fun _ h9 => h9) rfl (by decide +kernel) rfl rfl (Nat.le_of_ble_eq_true rfl) dX0_tell_18 (fun H locs hPw hDw hS => ?_)
  have hP : mw (dC, dI) vwCl A (TW cy L tr (S2 a 14 f (upd (upd (upd (upd (a 14 f) 0 fr) 1 to) 2 k) 3 st)) κ τ) H := (hbk _ _ hPw hDw).sub (tw_set (b := S2 a 14 f (upd (upd (upd (upd (a 14 f) 0 fr) 1 to) 2 k) 3 st)) (f := 14) (i := f) (x := upd (upd (upd (upd (a 14 f) 0 fr) 1 to) 2 k) 3 st) hT hi (by decide) S2_S2.symm)
  clear hbk hPw hDw hk9
  refine lv_aload_n hx hb dX0_tell_21 rfl (lv_at hl 0 rfl) ?_
  refine lv_iload hx hb dX0_tell_22 (lv_at hl 5 rfl) ?_
  obtain ⟨ws9, k9, hPw, hDw, hk9, -, hbk⟩ := hP.cut (e := .inr (0, [.int fr, .int to, .int k, .int st, .int ((a 14 f) 4), .int ((a 14 f) 5), .int ((a 14 f) 6), .int ((a 14 f) 7), .int ((a 14 f) 8), .int ((a 14 f) 9), .int ((a 14 f) 10), .int ((a 14 f) 11)])) (tw_mem (f := 14) (i := f) hi S2_eq)
  refine va_put (D := (dC, dI)) (ci := 0) (v := .int pe) (ty := .int) (C := RX0) (T := TX0) (N := 12) hx hb hts tl_X0 tyX0 tyX0_ok nmX0 hown hK hPw hDw hS k9 hk9 rfl 4 (by decide) (hts _ tw_772) (fun _ h9 => h9) rfl (by decide +kernel) rfl rfl (Nat.le_of_ble_eq_true rfl) dX0_tell_24 (fun H locs hPw hDw hS => ?_)
  have hP : mw (dC, dI) vwCl A (TW cy L tr (S2 a 14 f (upd (upd (upd (upd (upd (a 14 f) 0 fr) 1 to) 2 k) 3 st) 4 pe)) κ τ) H := (hbk _ _ hPw hDw).sub (tw_set (b := S2 a 14 f (upd (upd (upd (upd (upd (a 14 f) 0 fr) 1 to) 2 k) 3 st) 4 pe)) (f := 14) (i := f) (x := upd (upd (upd (upd (upd (a 14 f) 0 fr) 1 to) 2 k) 3 st) 4 pe) hT hi (by decide) S2_S2.symm)
  clear hbk hPw hDw hk9
  refine lv_aload_n hx hb dX0_tell_27 rfl (lv_at hl 0 rfl) ?_
  refine lv_iload hx hb dX0_tell_28 (lv_at hl 6 rfl) ?_
  obtain ⟨ws9, k9, hPw, hDw, hk9, -, hbk⟩ := hP.cut (e := .inr (0, [.int fr, .int to, .int k, .int st, .int pe, .int ((a 14 f) 5), .int ((a 14 f) 6), .int ((a 14 f) 7), .int ((a 14 f) 8), .int ((a 14 f) 9), .int ((a 14 f) 10), .int ((a 14 f) 11)])) (tw_mem (f := 14) (i := f) hi S2_eq)
  refine va_put (D := (dC, dI)) (ci := 0) (v := .int mo) (ty := .int) (C := RX0) (T := TX0) (N := 12) hx hb hts tl_X0 tyX0 tyX0_ok nmX0 hown hK hPw hDw hS k9 hk9 rfl 5 (by decide) (hts _ tw_774) (fun _ h9 => h9) rfl (by decide +kernel) rfl rfl (Nat.le_of_ble_eq_true rfl) dX0_tell_30 (fun H locs hPw hDw hS => ?_)
  have hP : mw (dC, dI) vwCl A (TW cy L tr (S2 a 14 f (upd (upd (upd (upd (upd (upd (a 14 f) 0 fr) 1 to) 2 k) 3 st) 4 pe) 5 mo)) κ τ) H := (hbk _ _ hPw hDw).sub (tw_set (b := S2 a 14 f (upd (upd (upd (upd (upd (upd (a 14 f) 0 fr) 1 to) 2 k) 3 st) 4 pe) 5 mo)) (f := 14) (i := f) (x := upd (upd (upd (upd (upd (upd (a 14 f) 0 fr) 1 to) 2 k) 3 st) 4 pe) 5 mo) hT hi (by decide) S2_S2.symm)
  clear hbk hPw hDw hk9
  refine W.widen (k := 0) (n := 0) (Nat.le_of_ble_eq_true rfl) (Nat.le_of_ble_eq_true rfl) ?_
  have s_1 : S2 a 14 f (upd (upd (upd (upd (upd (upd (a 14 f) 0 fr) 1 to) 2 k) 3 st) 4 pe) 5 mo) = F_tell a f fr to k st pe mo := by
    first | rfl | (simp only [F_tell])
  rw [s_1] at hP
  exact W.vret hx hb hr (fun t ht hW => ⟨⟨(), rfl, trivial, (by show mw _ _ _ _ t.heap; rw [ht]; exact hP)⟩, hS.F ht⟩) hS.2.2 dX0_tell_33
set_option maxRecDepth 100000 in
set_option maxHeartbeats 4000000 in
/-- Flow.bringsIn -/
theorem c_Flow_bringsIn (l : Launch) (dC : Nat → ClassId) (dI : Nat → Nat → Nat) (cy : Nat → ClassId) (L : Lay) (tr : Option Nat) (a : St) (κ : Kap) (τ : Tau) (f : Nat) (tk : Int32) (sz : Nat) (hT : TL L tr τ) (hi : f < 10) : Met l yX0_bringsIn (tp_w yX0_bringsIn cX0_bringsIn 3 (some .boolean)) ({ frames := 0, cells := 0, slots := 0, locals := 0 }) (va_Pc [.ref (L 14 f), .int tk] (mPre dC dI cy (TW cy L tr a κ τ) sz)) (va_Qi (fun (r u : Int32) => r = u) (fun (u : Int32) (t : State) => (u = F_brings (a 14 f) tk) ∧ mw (dC, dI) vwCl (mA (TW cy L tr a κ τ) sz) (TW cy L tr a κ τ) t.heap) (mA (TW cy L tr a κ τ) sz)) (0) (0) (mA (TW cy L tr a κ τ) sz) := by
  refine Met.ofW (cc := cX0_bringsIn) (maxL := 3) (ret := (some .boolean)) (by decide) rfl ?_
  intro p e s m args below meth c s₁ B hml hv
  obtain ⟨rfl, hsz, hP, hK, hE⟩ := hv
  have hx := B.exec
  have hb := B.bytes
  have hr := B.returns
  have hts0 := atoms_spec (ws := tp_w yX0_bringsIn cX0_bringsIn 3 (some .boolean)) B.pre
  have hts : ∀ w ∈ tp_all, w.before _ s = true := fun w h => hts0 w (List.mem_cons_of_mem _ h)
  have hown : s.vm.findClass RX0 = some m.cls := findClass_of_methodNamed B.named
  have hlocks := B.notSynchronized
  subst hsz
  have hP := hP.self s.heap.size
  generalize hAe : mA (TW cy L tr a κ τ) s.heap.size = A at hP ⊢
  have hA : ∀ q : Nat, s.heap.size ≤ q → A q := fun q h => by rw [← hAe]; exact Or.inr h
  have hS : va_S A s.heap s.heap [] := va_S.rf
  have hl9 := lv_entry ([.ref (L 14 f), .int tk]) (n := 3) (Nat.le_of_ble_eq_true rfl)
  rw [lg_entry_eq]
  generalize (lg_sl ([.ref (L 14 f), .int tk]) ++ List.replicate (3 - (lg_sl ([.ref (L 14 f), .int tk])).length) Slot.unset).toArray = ls at hl9 ⊢
  have hl : lv_has ls 3 [(0, .ref (L 14 f)), (1, .int tk)] := hl9
  refine lv_iload_n hx hb dX0_bringsIn_0 rfl (lv_at hl 1 rfl) ?_
  refine lv_aload_n hx hb dX0_bringsIn_1 rfl (lv_at hl 0 rfl) ?_
  refine va_get (D := (dC, dI)) (ws := [(L 14 f, .inr (0, [.int ((a 14 f) 0), .int ((a 14 f) 1), .int ((a 14 f) 2), .int ((a 14 f) 3), .int ((a 14 f) 4), .int ((a 14 f) 5), .int ((a 14 f) 6), .int ((a 14 f) 7), .int ((a 14 f) 8), .int ((a 14 f) 9), .int ((a 14 f) 10), .int ((a 14 f) 11)]))]) (ci := 0) (v := .int ((a 14 f) 3)) (C := RX0) (T := TX0) (N := 12) hx hb hts tl_X0 hown hK (hP.one (tw_mem (f := 14) (i := f) hi rfl)) 0 rfl rfl 3 (by decide) (hts _ tw_770) (fun _ h9 => h9) rfl dX0_bringsIn_2 ?_
  refine lv_icmp_lt (tgt := 16) hx hb dX0_bringsIn_5 (by decide) (fun c_1 => ?_) (fun c_1 => ?_)
  · refine lv_iconst (v := 0) hx hb dX0_bringsIn_16 (by decide) ?_
    refine W.widen (k := 0) (n := 0) (Nat.le_of_ble_eq_true rfl) (Nat.le_of_ble_eq_true rfl) ?_
    have g_1 : 0 = F_brings (a 14 f) tk := by
      first | rfl | assumption | (simp only [F_brings, if_pos c_1])
    exact W.zret (v := 0) hx hb hr rfl (fun t ht hW => ⟨⟨0, 0, rfl, rfl, ⟨g_1, by show mw _ _ _ _ t.heap; rw [ht]; exact hP⟩⟩, hS.F ht⟩) hS.2.2 dX0_bringsIn_17
  · refine lv_aload_n hx hb dX0_bringsIn_8 rfl (lv_at hl 0 rfl) ?_
    refine va_get (D := (dC, dI)) (ws := [(L 14 f, .inr (0, [.int ((a 14 f) 0), .int ((a 14 f) 1), .int ((a 14 f) 2), .int ((a 14 f) 3), .int ((a 14 f) 4), .int ((a 14 f) 5), .int ((a 14 f) 6), .int ((a 14 f) 7), .int ((a 14 f) 8), .int ((a 14 f) 9), .int ((a 14 f) 10), .int ((a 14 f) 11)]))]) (ci := 0) (v := .int ((a 14 f) 4)) (C := RX0) (T := TX0) (N := 12) hx hb hts tl_X0 hown hK (hP.one (tw_mem (f := 14) (i := f) hi rfl)) 0 rfl rfl 4 (by decide) (hts _ tw_772) (fun _ h9 => h9) rfl dX0_bringsIn_9 ?_
    refine lv_iconst (v := 1) hx hb dX0_bringsIn_12 (by decide) ?_
    refine lv_icmp_ge (tgt := 18) hx hb dX0_bringsIn_13 (by decide) (fun c_2 => ?_) (fun c_2 => ?_)
    · refine lv_iload_n hx hb dX0_bringsIn_18 rfl (lv_at hl 1 rfl) ?_
      refine lv_aload_n hx hb dX0_bringsIn_19 rfl (lv_at hl 0 rfl) ?_
      refine va_get (D := (dC, dI)) (ws := [(L 14 f, .inr (0, [.int ((a 14 f) 0), .int ((a 14 f) 1), .int ((a 14 f) 2), .int ((a 14 f) 3), .int ((a 14 f) 4), .int ((a 14 f) 5), .int ((a 14 f) 6), .int ((a 14 f) 7), .int ((a 14 f) 8), .int ((a 14 f) 9), .int ((a 14 f) 10), .int ((a 14 f) 11)]))]) (ci := 0) (v := .int ((a 14 f) 3)) (C := RX0) (T := TX0) (N := 12) hx hb hts tl_X0 hown hK (hP.one (tw_mem (f := 14) (i := f) hi rfl)) 0 rfl rfl 3 (by decide) (hts _ tw_770) (fun _ h9 => h9) rfl dX0_bringsIn_20 ?_
      refine lv_isub hx hb dX0_bringsIn_23 ?_
      refine lv_istore_n (lv' := [(2, .int (tk - ((a 14 f) 3))), (0, .ref (L 14 f)), (1, .int tk)]) hx hb dX0_bringsIn_24 rfl hl (by decide) rfl (fun ls hl => ?_)
      refine lv_iload_n hx hb dX0_bringsIn_25 rfl (lv_at hl 0 rfl) ?_
      refine lv_aload_n hx hb dX0_bringsIn_26 rfl (lv_at hl 1 rfl) ?_
      refine va_get (D := (dC, dI)) (ws := [(L 14 f, .inr (0, [.int ((a 14 f) 0), .int ((a 14 f) 1), .int ((a 14 f) 2), .int ((a 14 f) 3), .int ((a 14 f) 4), .int ((a 14 f) 5), .int ((a 14 f) 6), .int ((a 14 f) 7), .int ((a 14 f) 8), .int ((a 14 f) 9), .int ((a 14 f) 10), .int ((a 14 f) 11)]))]) (ci := 0) (v := .int ((a 14 f) 4)) (C := RX0) (T := TX0) (N := 12) hx hb hts tl_X0 hown hK (hP.one (tw_mem (f := 14) (i := f) hi rfl)) 0 rfl rfl 4 (by decide) (hts _ tw_772) (fun _ h9 => h9) rfl dX0_bringsIn_27 ?_
      refine lv_irem hx hb dX0_bringsIn_30 (m_ge1 c_2) ?_
      refine lv_if_ne (tgt := 51) hx hb dX0_bringsIn_31 (by decide) (fun c_3 => ?_) (fun c_3 => ?_)
      · refine lv_iconst (v := 0) hx hb dX0_bringsIn_51 (by decide) ?_
        refine W.widen (k := 0) (n := 0) (Nat.le_of_ble_eq_true rfl) (Nat.le_of_ble_eq_true rfl) ?_
        have g_2 : 0 = F_brings (a 14 f) tk := by
          first | rfl | assumption | (simp only [F_brings, if_neg c_1, if_pos c_2, if_neg c_3])
        exact W.zret (v := 0) hx hb hr rfl (fun t ht hW => ⟨⟨0, 0, rfl, rfl, ⟨g_2, by show mw _ _ _ _ t.heap; rw [ht]; exact hP⟩⟩, hS.F ht⟩) hS.2.2 dX0_bringsIn_52
      · refine lv_iload_n hx hb dX0_bringsIn_34 rfl (lv_at hl 0 rfl) ?_
        refine lv_aload_n hx hb dX0_bringsIn_35 rfl (lv_at hl 1 rfl) ?_
        refine va_get (D := (dC, dI)) (ws := [(L 14 f, .inr (0, [.int ((a 14 f) 0), .int ((a 14 f) 1), .int ((a 14 f) 2), .int ((a 14 f) 3), .int ((a 14 f) 4), .int ((a 14 f) 5), .int ((a 14 f) 6), .int ((a 14 f) 7), .int ((a 14 f) 8), .int ((a 14 f) 9), .int ((a 14 f) 10), .int ((a 14 f) 11)]))]) (ci := 0) (v := .int ((a 14 f) 4)) (C := RX0) (T := TX0) (N := 12) hx hb hts tl_X0 hown hK (hP.one (tw_mem (f := 14) (i := f) hi rfl)) 0 rfl rfl 4 (by decide) (hts _ tw_772) (fun _ h9 => h9) rfl dX0_bringsIn_36 ?_
        refine lv_idiv hx hb dX0_bringsIn_39 (m_ge1 c_2) ?_
        refine lv_aload_n hx hb dX0_bringsIn_40 rfl (lv_at hl 1 rfl) ?_
        refine va_get (D := (dC, dI)) (ws := [(L 14 f, .inr (0, [.int ((a 14 f) 0), .int ((a 14 f) 1), .int ((a 14 f) 2), .int ((a 14 f) 3), .int ((a 14 f) 4), .int ((a 14 f) 5), .int ((a 14 f) 6), .int ((a 14 f) 7), .int ((a 14 f) 8), .int ((a 14 f) 9), .int ((a 14 f) 10), .int ((a 14 f) 11)]))]) (ci := 0) (v := .int ((a 14 f) 5)) (C := RX0) (T := TX0) (N := 12) hx hb hts tl_X0 hown hK (hP.one (tw_mem (f := 14) (i := f) hi rfl)) 0 rfl rfl 5 (by decide) (hts _ tw_774) (fun _ h9 => h9) rfl dX0_bringsIn_41 ?_
        refine lv_icmp_ge (tgt := 51) hx hb dX0_bringsIn_44 (by decide) (fun c_4 => ?_) (fun c_4 => ?_)
        · refine lv_iconst (v := 0) hx hb dX0_bringsIn_51 (by decide) ?_
          refine W.widen (k := 0) (n := 0) (Nat.le_of_ble_eq_true rfl) (Nat.le_of_ble_eq_true rfl) ?_
          have g_3 : 0 = F_brings (a 14 f) tk := by
            first | rfl | assumption | (simp only [F_brings, if_neg c_1, if_pos c_2, if_pos c_3, if_pos c_4])
          exact W.zret (v := 0) hx hb hr rfl (fun t ht hW => ⟨⟨0, 0, rfl, rfl, ⟨g_3, by show mw _ _ _ _ t.heap; rw [ht]; exact hP⟩⟩, hS.F ht⟩) hS.2.2 dX0_bringsIn_52
        · refine lv_iconst (v := 1) hx hb dX0_bringsIn_47 (by decide) ?_
          refine lv_goto (tgt := 52) hx hb dX0_bringsIn_48 (by decide) ?_
          refine W.widen (k := 0) (n := 0) (Nat.le_of_ble_eq_true rfl) (Nat.le_of_ble_eq_true rfl) ?_
          have g_4 : 1 = F_brings (a 14 f) tk := by
            first | rfl | assumption | (simp only [F_brings, if_neg c_1, if_pos c_2, if_pos c_3, if_neg c_4])
          exact W.zret (v := 1) hx hb hr rfl (fun t ht hW => ⟨⟨1, 1, rfl, rfl, ⟨g_4, by show mw _ _ _ _ t.heap; rw [ht]; exact hP⟩⟩, hS.F ht⟩) hS.2.2 dX0_bringsIn_52
    · refine lv_iconst (v := 0) hx hb dX0_bringsIn_16 (by decide) ?_
      refine W.widen (k := 0) (n := 0) (Nat.le_of_ble_eq_true rfl) (Nat.le_of_ble_eq_true rfl) ?_
      have g_5 : 0 = F_brings (a 14 f) tk := by
        first | rfl | assumption | (simp only [F_brings, if_neg c_1, if_neg c_2])
      exact W.zret (v := 0) hx hb hr rfl (fun t ht hW => ⟨⟨0, 0, rfl, rfl, ⟨g_5, by show mw _ _ _ _ t.heap; rw [ht]; exact hP⟩⟩, hS.F ht⟩) hS.2.2 dX0_bringsIn_17
set_option maxRecDepth 100000 in
set_option maxHeartbeats 4000000 in
/-- Flow.countTrip -/
theorem c_Flow_countTrip (l : Launch) (dC : Nat → ClassId) (dI : Nat → Nat → Nat) (cy : Nat → ClassId) (L : Lay) (tr : Option Nat) (a : St) (κ : Kap) (τ : Tau) (f : Nat) (tk : Int32) (dl : Int32) (sz : Nat) (hT : TL L tr τ) (hi : f < 10) : Met l yX0_countTrip (tp_w yX0_countTrip cX0_countTrip 3 none) ({ frames := 1, cells := 0, slots := 0, locals := 14 }) (va_Pc [.ref (L 14 f), .int tk, .int dl] (mPre dC dI cy (TW cy L tr a κ τ) sz)) (va_Qv (fun _ : Unit => True) (fun (_ : Unit) (t : State) => mw (dC, dI) vwCl (mA (TW cy L tr a κ τ) sz) (TW cy L tr (F_trip a f tk dl) κ τ) t.heap) (mA (TW cy L tr a κ τ) sz)) (0) (0) (mA (TW cy L tr a κ τ) sz) := by
  refine Met.ofW (cc := cX0_countTrip) (maxL := 3) (ret := none) (by decide) rfl ?_
  intro p e s m args below meth c s₁ B hml hv
  obtain ⟨rfl, hsz, hP, hK, hE⟩ := hv
  have hx := B.exec
  have hb := B.bytes
  have hr := B.returns
  have hts0 := atoms_spec (ws := tp_w yX0_countTrip cX0_countTrip 3 none) B.pre
  have hts : ∀ w ∈ tp_all, w.before _ s = true := fun w h => hts0 w (List.mem_cons_of_mem _ h)
  have hown : s.vm.findClass RX0 = some m.cls := findClass_of_methodNamed B.named
  have hlocks := B.notSynchronized
  subst hsz
  have hP := hP.self s.heap.size
  generalize hAe : mA (TW cy L tr a κ τ) s.heap.size = A at hP ⊢
  have hA : ∀ q : Nat, s.heap.size ≤ q → A q := fun q h => by rw [← hAe]; exact Or.inr h
  have hS : va_S A s.heap s.heap [] := va_S.rf
  have hl9 := lv_entry ([.ref (L 14 f), .int tk, .int dl]) (n := 3) (Nat.le_of_ble_eq_true rfl)
  rw [lg_entry_eq]
  generalize (lg_sl ([.ref (L 14 f), .int tk, .int dl]) ++ List.replicate (3 - (lg_sl ([.ref (L 14 f), .int tk, .int dl])).length) Slot.unset).toArray = ls at hl9 ⊢
  have hl : lv_has ls 3 [(0, .ref (L 14 f)), (1, .int tk), (2, .int dl)] := hl9
  refine lv_aload_n hx hb dX0_countTrip_0 rfl (lv_at hl 0 rfl) ?_
  refine lv_dup hx hb dX0_countTrip_1 rfl ?_
  refine va_get (D := (dC, dI)) (ws := [(L 14 f, .inr (0, [.int ((a 14 f) 0), .int ((a 14 f) 1), .int ((a 14 f) 2), .int ((a 14 f) 3), .int ((a 14 f) 4), .int ((a 14 f) 5), .int ((a 14 f) 6), .int ((a 14 f) 7), .int ((a 14 f) 8), .int ((a 14 f) 9), .int ((a 14 f) 10), .int ((a 14 f) 11)]))]) (ci := 0) (v := .int ((a 14 f) 7)) (C := RX0) (T := TX0) (N := 12) hx hb hts tl_X0 hown hK (hP.one (tw_mem (f := 14) (i := f) hi rfl)) 0 rfl rfl 7 (by decide) (hts _ tw_778) (fun _ h9 => h9) rfl dX0_countTrip_2 ?_
  refine lv_iconst (v := 1) hx hb dX0_countTrip_5 (by decide) ?_
  refine lv_iadd hx hb dX0_countTrip_6 ?_
  obtain ⟨ws9, k9, hPw, hDw, hk9, -, hbk⟩ := hP.cut (e := .inr (0, [.int ((a 14 f) 0), .int ((a 14 f) 1), .int ((a 14 f) 2), .int ((a 14 f) 3), .int ((a 14 f) 4), .int ((a 14 f) 5), .int ((a 14 f) 6), .int ((a 14 f) 7), .int ((a 14 f) 8), .int ((a 14 f) 9), .int ((a 14 f) 10), .int ((a 14 f) 11)])) (tw_mem (f := 14) (i := f) hi rfl)
  refine va_put (D := (dC, dI)) (ci := 0) (v := .int (((a 14 f) 7) + 1)) (ty := .int) (C := RX0) (T := TX0) (N := 12) hx hb hts tl_X0 tyX0 tyX0_ok nmX0 hown hK hPw hDw hS k9 hk9 rfl 7 (by decide) (hts _ tw_778) (fun _ h9 => h9) rfl (by decide +kernel) rfl rfl (Nat.le_of_ble_eq_true rfl) dX0_countTrip_7 (fun H locs hPw hDw hS => ?_)
  have hP : mw (dC, dI) vwCl A (TW cy L tr (S2 a 14 f (upd (a 14 f) 7 (((a 14 f) 7) + 1))) κ τ) H := (hbk _ _ hPw hDw).sub (tw_set (b := S2 a 14 f (upd (a 14 f) 7 (((a 14 f) 7) + 1))) (f := 14) (i := f) (x := upd (a 14 f) 7 (((a 14 f) 7) + 1)) hT hi (by decide) rfl)
  clear hbk hPw hDw hk9
  refine lv_aload_n hx hb dX0_countTrip_10 rfl (lv_at hl 0 rfl) ?_
  refine lv_dup hx hb dX0_countTrip_11 rfl ?_
  refine va_get (D := (dC, dI)) (ws := [(L 14 f, .inr (0, [.int ((a 14 f) 0), .int ((a 14 f) 1), .int ((a 14 f) 2), .int ((a 14 f) 3), .int ((a 14 f) 4), .int ((a 14 f) 5), .int ((a 14 f) 6), .int (((a 14 f) 7) + 1), .int ((a 14 f) 8), .int ((a 14 f) 9), .int ((a 14 f) 10), .int ((a 14 f) 11)]))]) (ci := 0) (v := .int ((a 14 f) 9)) (C := RX0) (T := TX0) (N := 12) hx hb hts tl_X0 hown hK (hP.one (tw_mem (f := 14) (i := f) hi S2_eq)) 0 rfl rfl 9 (by decide) (hts _ tw_782) (fun _ h9 => h9) rfl dX0_countTrip_12 ?_
  refine lv_iload_n hx hb dX0_countTrip_15 rfl (lv_at hl 1 rfl) ?_
  refine lv_iadd hx hb dX0_countTrip_16 ?_
  obtain ⟨ws9, k9, hPw, hDw, hk9, -, hbk⟩ := hP.cut (e := .inr (0, [.int ((a 14 f) 0), .int ((a 14 f) 1), .int ((a 14 f) 2), .int ((a 14 f) 3), .int ((a 14 f) 4), .int ((a 14 f) 5), .int ((a 14 f) 6), .int (((a 14 f) 7) + 1), .int ((a 14 f) 8), .int ((a 14 f) 9), .int ((a 14 f) 10), .int ((a 14 f) 11)])) (tw_mem (f := 14) (i := f) hi S2_eq)
  refine va_put (D := (dC, dI)) (ci := 0) (v := .int (((a 14 f) 9) + tk)) (ty := .int) (C := RX0) (T := TX0) (N := 12) hx hb hts tl_X0 tyX0 tyX0_ok nmX0 hown hK hPw hDw hS k9 hk9 rfl 9 (by decide) (hts _ tw_782) (fun _ h9 => h9) rfl (by decide +kernel) rfl rfl (Nat.le_of_ble_eq_true rfl) dX0_countTrip_17 (fun H locs hPw hDw hS => ?_)
  have hP : mw (dC, dI) vwCl A (TW cy L tr (S2 a 14 f (upd (upd (a 14 f) 7 (((a 14 f) 7) + 1)) 9 (((a 14 f) 9) + tk))) κ τ) H := (hbk _ _ hPw hDw).sub (tw_set (b := S2 a 14 f (upd (upd (a 14 f) 7 (((a 14 f) 7) + 1)) 9 (((a 14 f) 9) + tk))) (f := 14) (i := f) (x := upd (upd (a 14 f) 7 (((a 14 f) 7) + 1)) 9 (((a 14 f) 9) + tk)) hT hi (by decide) S2_S2.symm)
  clear hbk hPw hDw hk9
  refine lv_aload_n hx hb dX0_countTrip_20 rfl (lv_at hl 0 rfl) ?_
  refine lv_dup hx hb dX0_countTrip_21 rfl ?_
  refine va_get (D := (dC, dI)) (ws := [(L 14 f, .inr (0, [.int ((a 14 f) 0), .int ((a 14 f) 1), .int ((a 14 f) 2), .int ((a 14 f) 3), .int ((a 14 f) 4), .int ((a 14 f) 5), .int ((a 14 f) 6), .int (((a 14 f) 7) + 1), .int ((a 14 f) 8), .int (((a 14 f) 9) + tk), .int ((a 14 f) 10), .int ((a 14 f) 11)]))]) (ci := 0) (v := .int ((a 14 f) 10)) (C := RX0) (T := TX0) (N := 12) hx hb hts tl_X0 hown hK (hP.one (tw_mem (f := 14) (i := f) hi S2_eq)) 0 rfl rfl 10 (by decide) (hts _ tw_784) (fun _ h9 => h9) rfl dX0_countTrip_22 ?_
  refine lv_iload_n hx hb dX0_countTrip_25 rfl (lv_at hl 2 rfl) ?_
  refine lv_iadd hx hb dX0_countTrip_26 ?_
  obtain ⟨ws9, k9, hPw, hDw, hk9, -, hbk⟩ := hP.cut (e := .inr (0, [.int ((a 14 f) 0), .int ((a 14 f) 1), .int ((a 14 f) 2), .int ((a 14 f) 3), .int ((a 14 f) 4), .int ((a 14 f) 5), .int ((a 14 f) 6), .int (((a 14 f) 7) + 1), .int ((a 14 f) 8), .int (((a 14 f) 9) + tk), .int ((a 14 f) 10), .int ((a 14 f) 11)])) (tw_mem (f := 14) (i := f) hi S2_eq)
  refine va_put (D := (dC, dI)) (ci := 0) (v := .int (((a 14 f) 10) + dl)) (ty := .int) (C := RX0) (T := TX0) (N := 12) hx hb hts tl_X0 tyX0 tyX0_ok nmX0 hown hK hPw hDw hS k9 hk9 rfl 10 (by decide) (hts _ tw_784) (fun _ h9 => h9) rfl (by decide +kernel) rfl rfl (Nat.le_of_ble_eq_true rfl) dX0_countTrip_27 (fun H locs hPw hDw hS => ?_)
  have hP : mw (dC, dI) vwCl A (TW cy L tr (S2 a 14 f (upd (upd (upd (a 14 f) 7 (((a 14 f) 7) + 1)) 9 (((a 14 f) 9) + tk)) 10 (((a 14 f) 10) + dl))) κ τ) H := (hbk _ _ hPw hDw).sub (tw_set (b := S2 a 14 f (upd (upd (upd (a 14 f) 7 (((a 14 f) 7) + 1)) 9 (((a 14 f) 9) + tk)) 10 (((a 14 f) 10) + dl))) (f := 14) (i := f) (x := upd (upd (upd (a 14 f) 7 (((a 14 f) 7) + 1)) 9 (((a 14 f) 9) + tk)) 10 (((a 14 f) 10) + dl)) hT hi (by decide) S2_S2.symm)
  clear hbk hPw hDw hk9
  refine lv_aload_n hx hb dX0_countTrip_30 rfl (lv_at hl 0 rfl) ?_
  refine lv_aload_n hx hb dX0_countTrip_31 rfl (lv_at hl 0 rfl) ?_
  refine va_get (D := (dC, dI)) (ws := [(L 14 f, .inr (0, [.int ((a 14 f) 0), .int ((a 14 f) 1), .int ((a 14 f) 2), .int ((a 14 f) 3), .int ((a 14 f) 4), .int ((a 14 f) 5), .int ((a 14 f) 6), .int (((a 14 f) 7) + 1), .int ((a 14 f) 8), .int (((a 14 f) 9) + tk), .int (((a 14 f) 10) + dl), .int ((a 14 f) 11)]))]) (ci := 0) (v := .int ((a 14 f) 11)) (C := RX0) (T := TX0) (N := 12) hx hb hts tl_X0 hown hK (hP.one (tw_mem (f := 14) (i := f) hi S2_eq)) 0 rfl rfl 11 (by decide) (hts _ tw_786) (fun _ h9 => h9) rfl dX0_countTrip_32 ?_
  refine lv_iload_n hx hb dX0_countTrip_35 rfl (lv_at hl 1 rfl) ?_
  refine va_mmax hx hb (hml.trans hl.1.symm) hown (hts _ tw_291) (hts _ tw_292) (hts _ tw_25) (hts _ tw_293) (Nat.le_of_ble_eq_true rfl) (Nat.le_of_ble_eq_true rfl) (Nat.le_of_ble_eq_true rfl) (Nat.le_of_ble_eq_true rfl) dX0_countTrip_36 ?_
  obtain ⟨ws9, k9, hPw, hDw, hk9, -, hbk⟩ := hP.cut (e := .inr (0, [.int ((a 14 f) 0), .int ((a 14 f) 1), .int ((a 14 f) 2), .int ((a 14 f) 3), .int ((a 14 f) 4), .int ((a 14 f) 5), .int ((a 14 f) 6), .int (((a 14 f) 7) + 1), .int ((a 14 f) 8), .int (((a 14 f) 9) + tk), .int (((a 14 f) 10) + dl), .int ((a 14 f) 11)])) (tw_mem (f := 14) (i := f) hi S2_eq)
  refine va_put (D := (dC, dI)) (ci := 0) (v := .int (if ((a 14 f) 11) < tk then tk else ((a 14 f) 11))) (ty := .int) (C := RX0) (T := TX0) (N := 12) hx hb hts tl_X0 tyX0 tyX0_ok nmX0 hown hK hPw hDw hS k9 hk9 rfl 11 (by decide) (hts _ tw_786) (fun _ h9 => h9) rfl (by decide +kernel) rfl rfl (Nat.le_of_ble_eq_true rfl) dX0_countTrip_39 (fun H locs hPw hDw hS => ?_)
  have hP : mw (dC, dI) vwCl A (TW cy L tr (S2 a 14 f (upd (upd (upd (upd (a 14 f) 7 (((a 14 f) 7) + 1)) 9 (((a 14 f) 9) + tk)) 10 (((a 14 f) 10) + dl)) 11 (if ((a 14 f) 11) < tk then tk else ((a 14 f) 11)))) κ τ) H := (hbk _ _ hPw hDw).sub (tw_set (b := S2 a 14 f (upd (upd (upd (upd (a 14 f) 7 (((a 14 f) 7) + 1)) 9 (((a 14 f) 9) + tk)) 10 (((a 14 f) 10) + dl)) 11 (if ((a 14 f) 11) < tk then tk else ((a 14 f) 11)))) (f := 14) (i := f) (x := upd (upd (upd (upd (a 14 f) 7 (((a 14 f) 7) + 1)) 9 (((a 14 f) 9) + tk)) 10 (((a 14 f) 10) + dl)) 11 (if ((a 14 f) 11) < tk then tk else ((a 14 f) 11))) hT hi (by decide) S2_S2.symm)
  clear hbk hPw hDw hk9
  refine W.widen (k := 0) (n := 0) (Nat.le_of_ble_eq_true rfl) (Nat.le_of_ble_eq_true rfl) ?_
  have s_1 : S2 a 14 f (upd (upd (upd (upd (a 14 f) 7 (((a 14 f) 7) + 1)) 9 (((a 14 f) 9) + tk)) 10 (((a 14 f) 10) + dl)) 11 (if ((a 14 f) 11) < tk then tk else ((a 14 f) 11))) = F_trip a f tk dl := by
    first | rfl | (simp only [F_trip, X_trip])
  rw [s_1] at hP
  exact W.vret hx hb hr (fun t ht hW => ⟨⟨(), rfl, trivial, (by show mw _ _ _ _ t.heap; rw [ht]; exact hP)⟩, hS.F ht⟩) hS.2.2 dX0_countTrip_42
set_option maxRecDepth 100000 in
set_option maxHeartbeats 4000000 in
/-- Vehicle.come -/
theorem c_Vehicle_come (l : Launch) (dC : Nat → ClassId) (dI : Nat → Nat → Nat) (cy : Nat → ClassId) (L : Lay) (tr : Option Nat) (a : St) (κ : Kap) (τ : Tau) (v : Nat) (fl : Int32) (to : Int32) (k : Int32) (tk : Int32) (sz : Nat) (hT : TL L tr τ) (hi : v < 200) : Met l yX7_come (tp_w yX7_come cX7_come 5 none) ({ frames := 0, cells := 0, slots := 0, locals := 0 }) (va_Pc [.ref (L 15 v), .int fl, .int to, .int k, .int tk] (mPre dC dI cy (TW cy L tr a κ τ) sz)) (va_Qv (fun _ : Unit => True) (fun (_ : Unit) (t : State) => mw (dC, dI) vwCl (mA (TW cy L tr a κ τ) sz) (TW cy L tr (V_come a v fl to k tk) κ τ) t.heap) (mA (TW cy L tr a κ τ) sz)) (0) (0) (mA (TW cy L tr a κ τ) sz) := by
  refine Met.ofW (cc := cX7_come) (maxL := 5) (ret := none) (by decide) rfl ?_
  intro p e s m args below meth c s₁ B hml hv
  obtain ⟨rfl, hsz, hP, hK, hE⟩ := hv
  have hx := B.exec
  have hb := B.bytes
  have hr := B.returns
  have hts0 := atoms_spec (ws := tp_w yX7_come cX7_come 5 none) B.pre
  have hts : ∀ w ∈ tp_all, w.before _ s = true := fun w h => hts0 w (List.mem_cons_of_mem _ h)
  have hown : s.vm.findClass RX7 = some m.cls := findClass_of_methodNamed B.named
  have hlocks := B.notSynchronized
  subst hsz
  have hP := hP.self s.heap.size
  generalize hAe : mA (TW cy L tr a κ τ) s.heap.size = A at hP ⊢
  have hA : ∀ q : Nat, s.heap.size ≤ q → A q := fun q h => by rw [← hAe]; exact Or.inr h
  have hS : va_S A s.heap s.heap [] := va_S.rf
  have hl9 := lv_entry ([.ref (L 15 v), .int fl, .int to, .int k, .int tk]) (n := 5) (Nat.le_of_ble_eq_true rfl)
  rw [lg_entry_eq]
  generalize (lg_sl ([.ref (L 15 v), .int fl, .int to, .int k, .int tk]) ++ List.replicate (5 - (lg_sl ([.ref (L 15 v), .int fl, .int to, .int k, .int tk])).length) Slot.unset).toArray = ls at hl9 ⊢
  have hl : lv_has ls 5 [(0, .ref (L 15 v)), (1, .int fl), (2, .int to), (3, .int k), (4, .int tk)] := hl9
  refine lv_aload_n hx hb dX7_come_0 rfl (lv_at hl 0 rfl) ?_
  refine lv_iload_n hx hb dX7_come_1 rfl (lv_at hl 1 rfl) ?_
  obtain ⟨ws9, k9, hPw, hDw, hk9, -, hbk⟩ := hP.cut (e := .inr (7, [.int ((a 15 v) 0), .int ((a 15 v) 1), .int ((a 15 v) 2), .int ((a 15 v) 3), .int ((a 15 v) 4), .int ((a 15 v) 5), .int ((a 15 v) 6), .int ((a 15 v) 7), .int ((a 15 v) 8), .int ((a 15 v) 9), .int ((a 15 v) 10), .int ((a 15 v) 11), .ref (L 16 v)])) (tw_mem (f := 15) (i := v) hi rfl)
  refine va_put (D := (dC, dI)) (ci := 7) (v := .int fl) (ty := .int) (C := RX7) (T := TX7) (N := 13) hx hb hts tl_X7 tyX7 tyX7_ok nmX7 hown hK hPw hDw hS k9 hk9 rfl 0 (by decide) (hts _ tw_818) (fun _ h9 => h9) rfl (by decide +kernel) rfl rfl (Nat.le_of_ble_eq_true rfl) dX7_come_2 (fun H locs hPw hDw hS => ?_)
  have hP : mw (dC, dI) vwCl A (TW cy L tr (S2 a 15 v (upd (a 15 v) 0 fl)) κ τ) H := (hbk _ _ hPw hDw).sub (tw_set (b := S2 a 15 v (upd (a 15 v) 0 fl)) (f := 15) (i := v) (x := upd (a 15 v) 0 fl) hT hi (by decide) rfl)
  clear hbk hPw hDw hk9
  refine lv_aload_n hx hb dX7_come_5 rfl (lv_at hl 0 rfl) ?_
  refine lv_iload_n hx hb dX7_come_6 rfl (lv_at hl 2 rfl) ?_
  obtain ⟨ws9, k9, hPw, hDw, hk9, -, hbk⟩ := hP.cut (e := .inr (7, [.int fl, .int ((a 15 v) 1), .int ((a 15 v) 2), .int ((a 15 v) 3), .int ((a 15 v) 4), .int ((a 15 v) 5), .int ((a 15 v) 6), .int ((a 15 v) 7), .int ((a 15 v) 8), .int ((a 15 v) 9), .int ((a 15 v) 10), .int ((a 15 v) 11), .ref (L 16 v)])) (tw_mem (f := 15) (i := v) hi S2_eq)
  refine va_put (D := (dC, dI)) (ci := 7) (v := .int to) (ty := .int) (C := RX7) (T := TX7) (N := 13) hx hb hts tl_X7 tyX7 tyX7_ok nmX7 hown hK hPw hDw hS k9 hk9 rfl 1 (by decide) (hts _ tw_820) (fun _ h9 => h9) rfl (by decide +kernel) rfl rfl (Nat.le_of_ble_eq_true rfl) dX7_come_7 (fun H locs hPw hDw hS => ?_)
  have hP : mw (dC, dI) vwCl A (TW cy L tr (S2 a 15 v (upd (upd (a 15 v) 0 fl) 1 to)) κ τ) H := (hbk _ _ hPw hDw).sub (tw_set (b := S2 a 15 v (upd (upd (a 15 v) 0 fl) 1 to)) (f := 15) (i := v) (x := upd (upd (a 15 v) 0 fl) 1 to) hT hi (by decide) S2_S2.symm)
  clear hbk hPw hDw hk9
  refine lv_aload_n hx hb dX7_come_10 rfl (lv_at hl 0 rfl) ?_
  refine lv_iload_n hx hb dX7_come_11 rfl (lv_at hl 3 rfl) ?_
  obtain ⟨ws9, k9, hPw, hDw, hk9, -, hbk⟩ := hP.cut (e := .inr (7, [.int fl, .int to, .int ((a 15 v) 2), .int ((a 15 v) 3), .int ((a 15 v) 4), .int ((a 15 v) 5), .int ((a 15 v) 6), .int ((a 15 v) 7), .int ((a 15 v) 8), .int ((a 15 v) 9), .int ((a 15 v) 10), .int ((a 15 v) 11), .ref (L 16 v)])) (tw_mem (f := 15) (i := v) hi S2_eq)
  refine va_put (D := (dC, dI)) (ci := 7) (v := .int k) (ty := .int) (C := RX7) (T := TX7) (N := 13) hx hb hts tl_X7 tyX7 tyX7_ok nmX7 hown hK hPw hDw hS k9 hk9 rfl 2 (by decide) (hts _ tw_823) (fun _ h9 => h9) rfl (by decide +kernel) rfl rfl (Nat.le_of_ble_eq_true rfl) dX7_come_12 (fun H locs hPw hDw hS => ?_)
  have hP : mw (dC, dI) vwCl A (TW cy L tr (S2 a 15 v (upd (upd (upd (a 15 v) 0 fl) 1 to) 2 k)) κ τ) H := (hbk _ _ hPw hDw).sub (tw_set (b := S2 a 15 v (upd (upd (upd (a 15 v) 0 fl) 1 to) 2 k)) (f := 15) (i := v) (x := upd (upd (upd (a 15 v) 0 fl) 1 to) 2 k) hT hi (by decide) S2_S2.symm)
  clear hbk hPw hDw hk9
  refine lv_aload_n hx hb dX7_come_15 rfl (lv_at hl 0 rfl) ?_
  refine lv_iconst (v := 0) hx hb dX7_come_16 (by decide) ?_
  obtain ⟨ws9, k9, hPw, hDw, hk9, -, hbk⟩ := hP.cut (e := .inr (7, [.int fl, .int to, .int k, .int ((a 15 v) 3), .int ((a 15 v) 4), .int ((a 15 v) 5), .int ((a 15 v) 6), .int ((a 15 v) 7), .int ((a 15 v) 8), .int ((a 15 v) 9), .int ((a 15 v) 10), .int ((a 15 v) 11), .ref (L 16 v)])) (tw_mem (f := 15) (i := v) hi S2_eq)
  refine va_put (D := (dC, dI)) (ci := 7) (v := .int 0) (ty := .int) (C := RX7) (T := TX7) (N := 13) hx hb hts tl_X7 tyX7 tyX7_ok nmX7 hown hK hPw hDw hS k9 hk9 rfl 3 (by decide) (hts _ tw_825) (fun _ h9 => h9) rfl (by decide +kernel) rfl rfl (Nat.le_of_ble_eq_true rfl) dX7_come_17 (fun H locs hPw hDw hS => ?_)
  have hP : mw (dC, dI) vwCl A (TW cy L tr (S2 a 15 v (upd (upd (upd (upd (a 15 v) 0 fl) 1 to) 2 k) 3 0)) κ τ) H := (hbk _ _ hPw hDw).sub (tw_set (b := S2 a 15 v (upd (upd (upd (upd (a 15 v) 0 fl) 1 to) 2 k) 3 0)) (f := 15) (i := v) (x := upd (upd (upd (upd (a 15 v) 0 fl) 1 to) 2 k) 3 0) hT hi (by decide) S2_S2.symm)
  clear hbk hPw hDw hk9
  refine lv_aload_n hx hb dX7_come_20 rfl (lv_at hl 0 rfl) ?_
  refine lv_iload hx hb dX7_come_21 (lv_at hl 4 rfl) ?_
  obtain ⟨ws9, k9, hPw, hDw, hk9, -, hbk⟩ := hP.cut (e := .inr (7, [.int fl, .int to, .int k, .int 0, .int ((a 15 v) 4), .int ((a 15 v) 5), .int ((a 15 v) 6), .int ((a 15 v) 7), .int ((a 15 v) 8), .int ((a 15 v) 9), .int ((a 15 v) 10), .int ((a 15 v) 11), .ref (L 16 v)])) (tw_mem (f := 15) (i := v) hi S2_eq)
  refine va_put (D := (dC, dI)) (ci := 7) (v := .int tk) (ty := .int) (C := RX7) (T := TX7) (N := 13) hx hb hts tl_X7 tyX7 tyX7_ok nmX7 hown hK hPw hDw hS k9 hk9 rfl 4 (by decide) (hts _ tw_828) (fun _ h9 => h9) rfl (by decide +kernel) rfl rfl (Nat.le_of_ble_eq_true rfl) dX7_come_23 (fun H locs hPw hDw hS => ?_)
  have hP : mw (dC, dI) vwCl A (TW cy L tr (S2 a 15 v (upd (upd (upd (upd (upd (a 15 v) 0 fl) 1 to) 2 k) 3 0) 4 tk)) κ τ) H := (hbk _ _ hPw hDw).sub (tw_set (b := S2 a 15 v (upd (upd (upd (upd (upd (a 15 v) 0 fl) 1 to) 2 k) 3 0) 4 tk)) (f := 15) (i := v) (x := upd (upd (upd (upd (upd (a 15 v) 0 fl) 1 to) 2 k) 3 0) 4 tk) hT hi (by decide) S2_S2.symm)
  clear hbk hPw hDw hk9
  refine lv_aload_n hx hb dX7_come_26 rfl (lv_at hl 0 rfl) ?_
  refine lv_iconst (v := -1) hx hb dX7_come_27 (by decide) ?_
  obtain ⟨ws9, k9, hPw, hDw, hk9, -, hbk⟩ := hP.cut (e := .inr (7, [.int fl, .int to, .int k, .int 0, .int tk, .int ((a 15 v) 5), .int ((a 15 v) 6), .int ((a 15 v) 7), .int ((a 15 v) 8), .int ((a 15 v) 9), .int ((a 15 v) 10), .int ((a 15 v) 11), .ref (L 16 v)])) (tw_mem (f := 15) (i := v) hi S2_eq)
  refine va_put (D := (dC, dI)) (ci := 7) (v := .int ((-1))) (ty := .int) (C := RX7) (T := TX7) (N := 13) hx hb hts tl_X7 tyX7 tyX7_ok nmX7 hown hK hPw hDw hS k9 hk9 rfl 5 (by decide) (hts _ tw_829) (fun _ h9 => h9) rfl (by decide +kernel) rfl rfl (Nat.le_of_ble_eq_true rfl) dX7_come_28 (fun H locs hPw hDw hS => ?_)
  have hP : mw (dC, dI) vwCl A (TW cy L tr (S2 a 15 v (upd (upd (upd (upd (upd (upd (a 15 v) 0 fl) 1 to) 2 k) 3 0) 4 tk) 5 ((-1)))) κ τ) H := (hbk _ _ hPw hDw).sub (tw_set (b := S2 a 15 v (upd (upd (upd (upd (upd (upd (a 15 v) 0 fl) 1 to) 2 k) 3 0) 4 tk) 5 ((-1)))) (f := 15) (i := v) (x := upd (upd (upd (upd (upd (upd (a 15 v) 0 fl) 1 to) 2 k) 3 0) 4 tk) 5 ((-1))) hT hi (by decide) S2_S2.symm)
  clear hbk hPw hDw hk9
  refine lv_aload_n hx hb dX7_come_31 rfl (lv_at hl 0 rfl) ?_
  refine lv_iconst (v := -1) hx hb dX7_come_32 (by decide) ?_
  obtain ⟨ws9, k9, hPw, hDw, hk9, -, hbk⟩ := hP.cut (e := .inr (7, [.int fl, .int to, .int k, .int 0, .int tk, .int ((-1)), .int ((a 15 v) 6), .int ((a 15 v) 7), .int ((a 15 v) 8), .int ((a 15 v) 9), .int ((a 15 v) 10), .int ((a 15 v) 11), .ref (L 16 v)])) (tw_mem (f := 15) (i := v) hi S2_eq)
  refine va_put (D := (dC, dI)) (ci := 7) (v := .int ((-1))) (ty := .int) (C := RX7) (T := TX7) (N := 13) hx hb hts tl_X7 tyX7 tyX7_ok nmX7 hown hK hPw hDw hS k9 hk9 rfl 6 (by decide) (hts _ tw_831) (fun _ h9 => h9) rfl (by decide +kernel) rfl rfl (Nat.le_of_ble_eq_true rfl) dX7_come_33 (fun H locs hPw hDw hS => ?_)
  have hP : mw (dC, dI) vwCl A (TW cy L tr (S2 a 15 v (upd (upd (upd (upd (upd (upd (upd (a 15 v) 0 fl) 1 to) 2 k) 3 0) 4 tk) 5 ((-1))) 6 ((-1)))) κ τ) H := (hbk _ _ hPw hDw).sub (tw_set (b := S2 a 15 v (upd (upd (upd (upd (upd (upd (upd (a 15 v) 0 fl) 1 to) 2 k) 3 0) 4 tk) 5 ((-1))) 6 ((-1)))) (f := 15) (i := v) (x := upd (upd (upd (upd (upd (upd (upd (a 15 v) 0 fl) 1 to) 2 k) 3 0) 4 tk) 5 ((-1))) 6 ((-1))) hT hi (by decide) S2_S2.symm)
  clear hbk hPw hDw hk9
  refine lv_aload_n hx hb dX7_come_36 rfl (lv_at hl 0 rfl) ?_
  refine lv_iconst (v := 0) hx hb dX7_come_37 (by decide) ?_
  obtain ⟨ws9, k9, hPw, hDw, hk9, -, hbk⟩ := hP.cut (e := .inr (7, [.int fl, .int to, .int k, .int 0, .int tk, .int ((-1)), .int ((-1)), .int ((a 15 v) 7), .int ((a 15 v) 8), .int ((a 15 v) 9), .int ((a 15 v) 10), .int ((a 15 v) 11), .ref (L 16 v)])) (tw_mem (f := 15) (i := v) hi S2_eq)
  refine va_put (D := (dC, dI)) (ci := 7) (v := .int 0) (ty := .int) (C := RX7) (T := TX7) (N := 13) hx hb hts tl_X7 tyX7 tyX7_ok nmX7 hown hK hPw hDw hS k9 hk9 rfl 7 (by decide) (hts _ tw_834) (fun _ h9 => h9) rfl (by decide +kernel) rfl rfl (Nat.le_of_ble_eq_true rfl) dX7_come_38 (fun H locs hPw hDw hS => ?_)
  have hP : mw (dC, dI) vwCl A (TW cy L tr (S2 a 15 v (upd (upd (upd (upd (upd (upd (upd (upd (a 15 v) 0 fl) 1 to) 2 k) 3 0) 4 tk) 5 ((-1))) 6 ((-1))) 7 0)) κ τ) H := (hbk _ _ hPw hDw).sub (tw_set (b := S2 a 15 v (upd (upd (upd (upd (upd (upd (upd (upd (a 15 v) 0 fl) 1 to) 2 k) 3 0) 4 tk) 5 ((-1))) 6 ((-1))) 7 0)) (f := 15) (i := v) (x := upd (upd (upd (upd (upd (upd (upd (upd (a 15 v) 0 fl) 1 to) 2 k) 3 0) 4 tk) 5 ((-1))) 6 ((-1))) 7 0) hT hi (by decide) S2_S2.symm)
  clear hbk hPw hDw hk9
  refine lv_aload_n hx hb dX7_come_41 rfl (lv_at hl 0 rfl) ?_
  refine lv_iconst (v := 0) hx hb dX7_come_42 (by decide) ?_
  obtain ⟨ws9, k9, hPw, hDw, hk9, -, hbk⟩ := hP.cut (e := .inr (7, [.int fl, .int to, .int k, .int 0, .int tk, .int ((-1)), .int ((-1)), .int 0, .int ((a 15 v) 8), .int ((a 15 v) 9), .int ((a 15 v) 10), .int ((a 15 v) 11), .ref (L 16 v)])) (tw_mem (f := 15) (i := v) hi S2_eq)
  refine va_put (D := (dC, dI)) (ci := 7) (v := .int 0) (ty := .int) (C := RX7) (T := TX7) (N := 13) hx hb hts tl_X7 tyX7 tyX7_ok nmX7 hown hK hPw hDw hS k9 hk9 rfl 8 (by decide) (hts _ tw_837) (fun _ h9 => h9) rfl (by decide +kernel) rfl rfl (Nat.le_of_ble_eq_true rfl) dX7_come_43 (fun H locs hPw hDw hS => ?_)
  have hP : mw (dC, dI) vwCl A (TW cy L tr (S2 a 15 v (upd (upd (upd (upd (upd (upd (upd (upd (upd (a 15 v) 0 fl) 1 to) 2 k) 3 0) 4 tk) 5 ((-1))) 6 ((-1))) 7 0) 8 0)) κ τ) H := (hbk _ _ hPw hDw).sub (tw_set (b := S2 a 15 v (upd (upd (upd (upd (upd (upd (upd (upd (upd (a 15 v) 0 fl) 1 to) 2 k) 3 0) 4 tk) 5 ((-1))) 6 ((-1))) 7 0) 8 0)) (f := 15) (i := v) (x := upd (upd (upd (upd (upd (upd (upd (upd (upd (a 15 v) 0 fl) 1 to) 2 k) 3 0) 4 tk) 5 ((-1))) 6 ((-1))) 7 0) 8 0) hT hi (by decide) S2_S2.symm)
  clear hbk hPw hDw hk9
  refine lv_aload_n hx hb dX7_come_46 rfl (lv_at hl 0 rfl) ?_
  refine lv_iconst (v := -1) hx hb dX7_come_47 (by decide) ?_
  obtain ⟨ws9, k9, hPw, hDw, hk9, -, hbk⟩ := hP.cut (e := .inr (7, [.int fl, .int to, .int k, .int 0, .int tk, .int ((-1)), .int ((-1)), .int 0, .int 0, .int ((a 15 v) 9), .int ((a 15 v) 10), .int ((a 15 v) 11), .ref (L 16 v)])) (tw_mem (f := 15) (i := v) hi S2_eq)
  refine va_put (D := (dC, dI)) (ci := 7) (v := .int ((-1))) (ty := .int) (C := RX7) (T := TX7) (N := 13) hx hb hts tl_X7 tyX7 tyX7_ok nmX7 hown hK hPw hDw hS k9 hk9 rfl 9 (by decide) (hts _ tw_838) (fun _ h9 => h9) rfl (by decide +kernel) rfl rfl (Nat.le_of_ble_eq_true rfl) dX7_come_48 (fun H locs hPw hDw hS => ?_)
  have hP : mw (dC, dI) vwCl A (TW cy L tr (S2 a 15 v (upd (upd (upd (upd (upd (upd (upd (upd (upd (upd (a 15 v) 0 fl) 1 to) 2 k) 3 0) 4 tk) 5 ((-1))) 6 ((-1))) 7 0) 8 0) 9 ((-1)))) κ τ) H := (hbk _ _ hPw hDw).sub (tw_set (b := S2 a 15 v (upd (upd (upd (upd (upd (upd (upd (upd (upd (upd (a 15 v) 0 fl) 1 to) 2 k) 3 0) 4 tk) 5 ((-1))) 6 ((-1))) 7 0) 8 0) 9 ((-1)))) (f := 15) (i := v) (x := upd (upd (upd (upd (upd (upd (upd (upd (upd (upd (a 15 v) 0 fl) 1 to) 2 k) 3 0) 4 tk) 5 ((-1))) 6 ((-1))) 7 0) 8 0) 9 ((-1))) hT hi (by decide) S2_S2.symm)
  clear hbk hPw hDw hk9
  refine lv_aload_n hx hb dX7_come_51 rfl (lv_at hl 0 rfl) ?_
  refine lv_iconst (v := -1) hx hb dX7_come_52 (by decide) ?_
  obtain ⟨ws9, k9, hPw, hDw, hk9, -, hbk⟩ := hP.cut (e := .inr (7, [.int fl, .int to, .int k, .int 0, .int tk, .int ((-1)), .int ((-1)), .int 0, .int 0, .int ((-1)), .int ((a 15 v) 10), .int ((a 15 v) 11), .ref (L 16 v)])) (tw_mem (f := 15) (i := v) hi S2_eq)
  refine va_put (D := (dC, dI)) (ci := 7) (v := .int ((-1))) (ty := .int) (C := RX7) (T := TX7) (N := 13) hx hb hts tl_X7 tyX7 tyX7_ok nmX7 hown hK hPw hDw hS k9 hk9 rfl 10 (by decide) (hts _ tw_841) (fun _ h9 => h9) rfl (by decide +kernel) rfl rfl (Nat.le_of_ble_eq_true rfl) dX7_come_53 (fun H locs hPw hDw hS => ?_)
  have hP : mw (dC, dI) vwCl A (TW cy L tr (S2 a 15 v (upd (upd (upd (upd (upd (upd (upd (upd (upd (upd (upd (a 15 v) 0 fl) 1 to) 2 k) 3 0) 4 tk) 5 ((-1))) 6 ((-1))) 7 0) 8 0) 9 ((-1))) 10 ((-1)))) κ τ) H := (hbk _ _ hPw hDw).sub (tw_set (b := S2 a 15 v (upd (upd (upd (upd (upd (upd (upd (upd (upd (upd (upd (a 15 v) 0 fl) 1 to) 2 k) 3 0) 4 tk) 5 ((-1))) 6 ((-1))) 7 0) 8 0) 9 ((-1))) 10 ((-1)))) (f := 15) (i := v) (x := upd (upd (upd (upd (upd (upd (upd (upd (upd (upd (upd (a 15 v) 0 fl) 1 to) 2 k) 3 0) 4 tk) 5 ((-1))) 6 ((-1))) 7 0) 8 0) 9 ((-1))) 10 ((-1))) hT hi (by decide) S2_S2.symm)
  clear hbk hPw hDw hk9
  refine lv_aload_n hx hb dX7_come_56 rfl (lv_at hl 0 rfl) ?_
  refine lv_iconst (v := 0) hx hb dX7_come_57 (by decide) ?_
  obtain ⟨ws9, k9, hPw, hDw, hk9, -, hbk⟩ := hP.cut (e := .inr (7, [.int fl, .int to, .int k, .int 0, .int tk, .int ((-1)), .int ((-1)), .int 0, .int 0, .int ((-1)), .int ((-1)), .int ((a 15 v) 11), .ref (L 16 v)])) (tw_mem (f := 15) (i := v) hi S2_eq)
  refine va_put (D := (dC, dI)) (ci := 7) (v := .int 0) (ty := .int) (C := RX7) (T := TX7) (N := 13) hx hb hts tl_X7 tyX7 tyX7_ok nmX7 hown hK hPw hDw hS k9 hk9 rfl 11 (by decide) (hts _ tw_844) (fun _ h9 => h9) rfl (by decide +kernel) rfl rfl (Nat.le_of_ble_eq_true rfl) dX7_come_58 (fun H locs hPw hDw hS => ?_)
  have hP : mw (dC, dI) vwCl A (TW cy L tr (S2 a 15 v (upd (upd (upd (upd (upd (upd (upd (upd (upd (upd (upd (upd (a 15 v) 0 fl) 1 to) 2 k) 3 0) 4 tk) 5 ((-1))) 6 ((-1))) 7 0) 8 0) 9 ((-1))) 10 ((-1))) 11 0)) κ τ) H := (hbk _ _ hPw hDw).sub (tw_set (b := S2 a 15 v (upd (upd (upd (upd (upd (upd (upd (upd (upd (upd (upd (upd (a 15 v) 0 fl) 1 to) 2 k) 3 0) 4 tk) 5 ((-1))) 6 ((-1))) 7 0) 8 0) 9 ((-1))) 10 ((-1))) 11 0)) (f := 15) (i := v) (x := upd (upd (upd (upd (upd (upd (upd (upd (upd (upd (upd (upd (a 15 v) 0 fl) 1 to) 2 k) 3 0) 4 tk) 5 ((-1))) 6 ((-1))) 7 0) 8 0) 9 ((-1))) 10 ((-1))) 11 0) hT hi (by decide) S2_S2.symm)
  clear hbk hPw hDw hk9
  refine W.widen (k := 0) (n := 0) (Nat.le_of_ble_eq_true rfl) (Nat.le_of_ble_eq_true rfl) ?_
  have s_1 : S2 a 15 v (upd (upd (upd (upd (upd (upd (upd (upd (upd (upd (upd (upd (a 15 v) 0 fl) 1 to) 2 k) 3 0) 4 tk) 5 ((-1))) 6 ((-1))) 7 0) 8 0) 9 ((-1))) 10 ((-1))) 11 0) = V_come a v fl to k tk := by
    first | rfl | (simp only [V_come, X_come])
  rw [s_1] at hP
  exact W.vret hx hb hr (fun t ht hW => ⟨⟨(), rfl, trivial, (by show mw _ _ _ _ t.heap; rw [ht]; exact hP)⟩, hS.F ht⟩) hS.2.2 dX7_come_61
set_option maxRecDepth 100000 in
set_option maxHeartbeats 4000000 in
/-- Vehicle.planOver -/
theorem c_Vehicle_planOver (l : Launch) (dC : Nat → ClassId) (dI : Nat → Nat → Nat) (cy : Nat → ClassId) (L : Lay) (tr : Option Nat) (a : St) (κ : Kap) (τ : Tau) (v : Nat) (nx : Int32) (sz : Nat) (hT : TL L tr τ) (hi : v < 200) (hw : 0 ≤ (a 15 v 11).toInt) : Met l yX7_planOver (tp_w yX7_planOver cX7_planOver 2 none) ({ frames := 0, cells := 0, slots := 0, locals := 0 }) (va_Pc [.ref (L 15 v), .int nx] (mPre dC dI cy (TW cy L tr a κ τ) sz)) (va_Qv (fun _ : Unit => True) (fun (_ : Unit) (t : State) => mw (dC, dI) vwCl (mA (TW cy L tr a κ τ) sz) (TW cy L tr (V_plan a v nx) κ τ) t.heap) (mA (TW cy L tr a κ τ) sz)) (0) (0) (mA (TW cy L tr a κ τ) sz) := by
  refine Met.ofW (cc := cX7_planOver) (maxL := 2) (ret := none) (by decide) rfl ?_
  intro p e s m args below meth c s₁ B hml hv
  obtain ⟨rfl, hsz, hP, hK, hE⟩ := hv
  have hx := B.exec
  have hb := B.bytes
  have hr := B.returns
  have hts0 := atoms_spec (ws := tp_w yX7_planOver cX7_planOver 2 none) B.pre
  have hts : ∀ w ∈ tp_all, w.before _ s = true := fun w h => hts0 w (List.mem_cons_of_mem _ h)
  have hown : s.vm.findClass RX7 = some m.cls := findClass_of_methodNamed B.named
  have hlocks := B.notSynchronized
  subst hsz
  have hP := hP.self s.heap.size
  generalize hAe : mA (TW cy L tr a κ τ) s.heap.size = A at hP ⊢
  have hA : ∀ q : Nat, s.heap.size ≤ q → A q := fun q h => by rw [← hAe]; exact Or.inr h
  have hS : va_S A s.heap s.heap [] := va_S.rf
  have hl9 := lv_entry ([.ref (L 15 v), .int nx]) (n := 2) (Nat.le_of_ble_eq_true rfl)
  rw [lg_entry_eq]
  generalize (lg_sl ([.ref (L 15 v), .int nx]) ++ List.replicate (2 - (lg_sl ([.ref (L 15 v), .int nx])).length) Slot.unset).toArray = ls at hl9 ⊢
  have hl : lv_has ls 2 [(0, .ref (L 15 v)), (1, .int nx)] := hl9
  refine lv_aload_n hx hb dX7_planOver_0 rfl (lv_at hl 0 rfl) ?_
  refine va_get (D := (dC, dI)) (ws := [(L 15 v, .inr (7, [.int ((a 15 v) 0), .int ((a 15 v) 1), .int ((a 15 v) 2), .int ((a 15 v) 3), .int ((a 15 v) 4), .int ((a 15 v) 5), .int ((a 15 v) 6), .int ((a 15 v) 7), .int ((a 15 v) 8), .int ((a 15 v) 9), .int ((a 15 v) 10), .int ((a 15 v) 11), .ref (L 16 v)]))]) (ci := 7) (v := .int ((a 15 v) 11)) (C := RX7) (T := TX7) (N := 13) hx hb hts tl_X7 hown hK (hP.one (tw_mem (f := 15) (i := v) hi rfl)) 0 rfl rfl 11 (by decide) (hts _ tw_844) (fun _ h9 => h9) rfl dX7_planOver_1 ?_
  refine lv_aload_n hx hb dX7_planOver_4 rfl (lv_at hl 0 rfl) ?_
  refine va_get (D := (dC, dI)) (ws := [(L 15 v, .inr (7, [.int ((a 15 v) 0), .int ((a 15 v) 1), .int ((a 15 v) 2), .int ((a 15 v) 3), .int ((a 15 v) 4), .int ((a 15 v) 5), .int ((a 15 v) 6), .int ((a 15 v) 7), .int ((a 15 v) 8), .int ((a 15 v) 9), .int ((a 15 v) 10), .int ((a 15 v) 11), .ref (L 16 v)]))]) (ci := 7) (v := .ref (L 16 v)) (C := RX7) (T := TX7) (N := 13) hx hb hts tl_X7 hown hK (hP.one (tw_mem (f := 15) (i := v) hi rfl)) 0 rfl rfl 12 (by decide) (hts _ tw_845) (fun _ h9 => h9) rfl dX7_planOver_5 ?_
  refine va_alen hx hb hK (ws := [(L 16 v, .inl (cy 0, 11, .inl (a 16 v)))]) (hP.one (tw_mem (f := 16) (i := v) hi rfl)) 0 0 rfl rfl (v := 11) rfl dX7_planOver_8 ?_
  refine lv_icmp_ge (tgt := 32) hx hb dX7_planOver_9 (by decide) (fun c_1 => ?_) (fun c_1 => ?_)
  · refine W.widen (k := 0) (n := 0) (Nat.le_of_ble_eq_true rfl) (Nat.le_of_ble_eq_true rfl) ?_
    have s_1 : a = V_plan a v nx := by
      first | rfl | (simp only [V_plan, if_pos c_1])
    rw [s_1] at hP
    exact W.vret hx hb hr (fun t ht hW => ⟨⟨(), rfl, trivial, (by show mw _ _ _ _ t.heap; rw [ht]; exact hP)⟩, hS.F ht⟩) hS.2.2 dX7_planOver_32
  · refine lv_aload_n hx hb dX7_planOver_12 rfl (lv_at hl 0 rfl) ?_
    refine va_get (D := (dC, dI)) (ws := [(L 15 v, .inr (7, [.int ((a 15 v) 0), .int ((a 15 v) 1), .int ((a 15 v) 2), .int ((a 15 v) 3), .int ((a 15 v) 4), .int ((a 15 v) 5), .int ((a 15 v) 6), .int ((a 15 v) 7), .int ((a 15 v) 8), .int ((a 15 v) 9), .int ((a 15 v) 10), .int ((a 15 v) 11), .ref (L 16 v)]))]) (ci := 7) (v := .ref (L 16 v)) (C := RX7) (T := TX7) (N := 13) hx hb hts tl_X7 hown hK (hP.one (tw_mem (f := 15) (i := v) hi rfl)) 0 rfl rfl 12 (by decide) (hts _ tw_845) (fun _ h9 => h9) rfl dX7_planOver_13 ?_
    refine lv_aload_n hx hb dX7_planOver_16 rfl (lv_at hl 0 rfl) ?_
    refine va_get (D := (dC, dI)) (ws := [(L 15 v, .inr (7, [.int ((a 15 v) 0), .int ((a 15 v) 1), .int ((a 15 v) 2), .int ((a 15 v) 3), .int ((a 15 v) 4), .int ((a 15 v) 5), .int ((a 15 v) 6), .int ((a 15 v) 7), .int ((a 15 v) 8), .int ((a 15 v) 9), .int ((a 15 v) 10), .int ((a 15 v) 11), .ref (L 16 v)]))]) (ci := 7) (v := .int ((a 15 v) 11)) (C := RX7) (T := TX7) (N := 13) hx hb hts tl_X7 hown hK (hP.one (tw_mem (f := 15) (i := v) hi rfl)) 0 rfl rfl 11 (by decide) (hts _ tw_844) (fun _ h9 => h9) rfl dX7_planOver_17 ?_
    refine lv_iload_n hx hb dX7_planOver_20 rfl (lv_at hl 1 rfl) ?_
    have j_1 : ((a 15 v) 11 : Int32).toNatClampNeg = ((a 15 v) 11).toNatClampNeg := m_cl (m_n0 hw) (m_ltI hw (m_ge c_1)) (by decide)
    obtain ⟨ws9, k9, hPw, hDw, hk9, -, hbk⟩ := hP.cut (e := .inl (cy 0, 11, .inl (a 16 v))) (tw_mem (f := 16) (i := v) hi rfl)
    refine va_iast hx hb hK hPw hDw hS k9 0 hk9 rfl (m_in (m_n0 hw) (m_ltI hw (m_ge c_1)) (by decide)) dX7_planOver_21 (fun H locs hPw hDw hS => ?_)
    rw [j_1] at hPw hDw
    have hP : mw (dC, dI) vwCl A (TW cy L tr (S2 a 16 v (upd (a 16 v) (((a 15 v) 11).toNatClampNeg) nx)) κ τ) H := (hbk _ _ hPw hDw).sub (tw_set (b := S2 a 16 v (upd (a 16 v) (((a 15 v) 11).toNatClampNeg) nx)) (f := 16) (i := v) (x := upd (a 16 v) (((a 15 v) 11).toNatClampNeg) nx) hT hi (by decide) rfl)
    clear hbk hPw hDw hk9
    refine lv_aload_n hx hb dX7_planOver_22 rfl (lv_at hl 0 rfl) ?_
    refine lv_dup hx hb dX7_planOver_23 rfl ?_
    refine va_get (D := (dC, dI)) (ws := [(L 15 v, .inr (7, [.int ((a 15 v) 0), .int ((a 15 v) 1), .int ((a 15 v) 2), .int ((a 15 v) 3), .int ((a 15 v) 4), .int ((a 15 v) 5), .int ((a 15 v) 6), .int ((a 15 v) 7), .int ((a 15 v) 8), .int ((a 15 v) 9), .int ((a 15 v) 10), .int ((a 15 v) 11), .ref (L 16 v)]))]) (ci := 7) (v := .int ((a 15 v) 11)) (C := RX7) (T := TX7) (N := 13) hx hb hts tl_X7 hown hK (hP.one (tw_mem (f := 15) (i := v) hi (S2_nf (by decide)))) 0 rfl rfl 11 (by decide) (hts _ tw_844) (fun _ h9 => h9) rfl dX7_planOver_24 ?_
    refine lv_iconst (v := 1) hx hb dX7_planOver_27 (by decide) ?_
    refine lv_iadd hx hb dX7_planOver_28 ?_
    obtain ⟨ws9, k9, hPw, hDw, hk9, -, hbk⟩ := hP.cut (e := .inr (7, [.int ((a 15 v) 0), .int ((a 15 v) 1), .int ((a 15 v) 2), .int ((a 15 v) 3), .int ((a 15 v) 4), .int ((a 15 v) 5), .int ((a 15 v) 6), .int ((a 15 v) 7), .int ((a 15 v) 8), .int ((a 15 v) 9), .int ((a 15 v) 10), .int ((a 15 v) 11), .ref (L 16 v)])) (tw_mem (f := 15) (i := v) hi (S2_nf (by decide)))
    refine va_put (D := (dC, dI)) (ci := 7) (v := .int (((a 15 v) 11) + 1)) (ty := .int) (C := RX7) (T := TX7) (N := 13) hx hb hts tl_X7 tyX7 tyX7_ok nmX7 hown hK hPw hDw hS k9 hk9 rfl 11 (by decide) (hts _ tw_844) (fun _ h9 => h9) rfl (by decide +kernel) rfl rfl (Nat.le_of_ble_eq_true rfl) dX7_planOver_29 (fun H locs hPw hDw hS => ?_)
    have hP : mw (dC, dI) vwCl A (TW cy L tr (S2 (S2 a 16 v (upd (a 16 v) (((a 15 v) 11).toNatClampNeg) nx)) 15 v (upd (a 15 v) 11 (((a 15 v) 11) + 1))) κ τ) H := (hbk _ _ hPw hDw).sub (tw_set (b := S2 (S2 a 16 v (upd (a 16 v) (((a 15 v) 11).toNatClampNeg) nx)) 15 v (upd (a 15 v) 11 (((a 15 v) 11) + 1))) (f := 15) (i := v) (x := upd (a 15 v) 11 (((a 15 v) 11) + 1)) hT hi (by decide) rfl)
    clear hbk hPw hDw hk9
    refine W.widen (k := 0) (n := 0) (Nat.le_of_ble_eq_true rfl) (Nat.le_of_ble_eq_true rfl) ?_
    have s_2 : S2 (S2 a 16 v (upd (a 16 v) (((a 15 v) 11).toNatClampNeg) nx)) 15 v (upd (a 15 v) 11 (((a 15 v) 11) + 1)) = V_plan a v nx := by
      first | rfl | (simp only [V_plan, if_neg c_1])
    rw [s_2] at hP
    exact W.vret hx hb hr (fun t ht hW => ⟨⟨(), rfl, trivial, (by show mw _ _ _ _ t.heap; rw [ht]; exact hP)⟩, hS.F ht⟩) hS.2.2 dX7_planOver_32
set_option maxRecDepth 100000 in
set_option maxHeartbeats 4000000 in
/-- Vehicle.nextOfWay -/
theorem c_Vehicle_nextOfWay (l : Launch) (dC : Nat → ClassId) (dI : Nat → Nat → Nat) (cy : Nat → ClassId) (L : Lay) (tr : Option Nat) (a : St) (κ : Kap) (τ : Tau) (v : Nat) (sz : Nat) (hT : TL L tr τ) (hi : v < 200) (hw2 : (a 15 v 11).toInt ≤ 11) : Met l yX7_nextOfWay (tp_w yX7_nextOfWay cX7_nextOfWay 1 (some .int)) ({ frames := 0, cells := 0, slots := 0, locals := 0 }) (va_Pc [.ref (L 15 v)] (mPre dC dI cy (TW cy L tr a κ τ) sz)) (va_Qi (fun (r u : Int32) => r = u) (fun (u : Int32) (t : State) => (u = V_next a v) ∧ mw (dC, dI) vwCl (mA (TW cy L tr a κ τ) sz) (TW cy L tr a κ τ) t.heap) (mA (TW cy L tr a κ τ) sz)) (0) (0) (mA (TW cy L tr a κ τ) sz) := by
  refine Met.ofW (cc := cX7_nextOfWay) (maxL := 1) (ret := (some .int)) (by decide) rfl ?_
  intro p e s m args below meth c s₁ B hml hv
  obtain ⟨rfl, hsz, hP, hK, hE⟩ := hv
  have hx := B.exec
  have hb := B.bytes
  have hr := B.returns
  have hts0 := atoms_spec (ws := tp_w yX7_nextOfWay cX7_nextOfWay 1 (some .int)) B.pre
  have hts : ∀ w ∈ tp_all, w.before _ s = true := fun w h => hts0 w (List.mem_cons_of_mem _ h)
  have hown : s.vm.findClass RX7 = some m.cls := findClass_of_methodNamed B.named
  have hlocks := B.notSynchronized
  subst hsz
  have hP := hP.self s.heap.size
  generalize hAe : mA (TW cy L tr a κ τ) s.heap.size = A at hP ⊢
  have hA : ∀ q : Nat, s.heap.size ≤ q → A q := fun q h => by rw [← hAe]; exact Or.inr h
  have hS : va_S A s.heap s.heap [] := va_S.rf
  have hl9 := lv_entry ([.ref (L 15 v)]) (n := 1) (Nat.le_of_ble_eq_true rfl)
  rw [lg_entry_eq]
  generalize (lg_sl ([.ref (L 15 v)]) ++ List.replicate (1 - (lg_sl ([.ref (L 15 v)])).length) Slot.unset).toArray = ls at hl9 ⊢
  have hl : lv_has ls 1 [(0, .ref (L 15 v))] := hl9
  refine lv_aload_n hx hb dX7_nextOfWay_0 rfl (lv_at hl 0 rfl) ?_
  refine va_get (D := (dC, dI)) (ws := [(L 15 v, .inr (7, [.int ((a 15 v) 0), .int ((a 15 v) 1), .int ((a 15 v) 2), .int ((a 15 v) 3), .int ((a 15 v) 4), .int ((a 15 v) 5), .int ((a 15 v) 6), .int ((a 15 v) 7), .int ((a 15 v) 8), .int ((a 15 v) 9), .int ((a 15 v) 10), .int ((a 15 v) 11), .ref (L 16 v)]))]) (ci := 7) (v := .int ((a 15 v) 7)) (C := RX7) (T := TX7) (N := 13) hx hb hts tl_X7 hown hK (hP.one (tw_mem (f := 15) (i := v) hi rfl)) 0 rfl rfl 7 (by decide) (hts _ tw_834) (fun _ h9 => h9) rfl dX7_nextOfWay_1 ?_
  refine lv_if_lt (tgt := 30) hx hb dX7_nextOfWay_4 (by decide) (fun c_1 => ?_) (fun c_1 => ?_)
  · refine lv_iconst (v := -1) hx hb dX7_nextOfWay_30 (by decide) ?_
    refine W.widen (k := 0) (n := 0) (Nat.le_of_ble_eq_true rfl) (Nat.le_of_ble_eq_true rfl) ?_
    have g_1 : ((-1)) = V_next a v := by
      first | rfl | assumption | (simp only [V_next, if_pos c_1])
    exact W.iret (v := (-1)) hx hb hr (fun t ht hW => ⟨⟨((-1)), ((-1)), rfl, rfl, ⟨g_1, by show mw _ _ _ _ t.heap; rw [ht]; exact hP⟩⟩, hS.F ht⟩) hS.2.2 dX7_nextOfWay_31
  · refine lv_aload_n hx hb dX7_nextOfWay_7 rfl (lv_at hl 0 rfl) ?_
    refine va_get (D := (dC, dI)) (ws := [(L 15 v, .inr (7, [.int ((a 15 v) 0), .int ((a 15 v) 1), .int ((a 15 v) 2), .int ((a 15 v) 3), .int ((a 15 v) 4), .int ((a 15 v) 5), .int ((a 15 v) 6), .int ((a 15 v) 7), .int ((a 15 v) 8), .int ((a 15 v) 9), .int ((a 15 v) 10), .int ((a 15 v) 11), .ref (L 16 v)]))]) (ci := 7) (v := .int ((a 15 v) 7)) (C := RX7) (T := TX7) (N := 13) hx hb hts tl_X7 hown hK (hP.one (tw_mem (f := 15) (i := v) hi rfl)) 0 rfl rfl 7 (by decide) (hts _ tw_834) (fun _ h9 => h9) rfl dX7_nextOfWay_8 ?_
    refine lv_aload_n hx hb dX7_nextOfWay_11 rfl (lv_at hl 0 rfl) ?_
    refine va_get (D := (dC, dI)) (ws := [(L 15 v, .inr (7, [.int ((a 15 v) 0), .int ((a 15 v) 1), .int ((a 15 v) 2), .int ((a 15 v) 3), .int ((a 15 v) 4), .int ((a 15 v) 5), .int ((a 15 v) 6), .int ((a 15 v) 7), .int ((a 15 v) 8), .int ((a 15 v) 9), .int ((a 15 v) 10), .int ((a 15 v) 11), .ref (L 16 v)]))]) (ci := 7) (v := .int ((a 15 v) 11)) (C := RX7) (T := TX7) (N := 13) hx hb hts tl_X7 hown hK (hP.one (tw_mem (f := 15) (i := v) hi rfl)) 0 rfl rfl 11 (by decide) (hts _ tw_844) (fun _ h9 => h9) rfl dX7_nextOfWay_12 ?_
    refine lv_icmp_ge (tgt := 30) hx hb dX7_nextOfWay_15 (by decide) (fun c_2 => ?_) (fun c_2 => ?_)
    · refine lv_iconst (v := -1) hx hb dX7_nextOfWay_30 (by decide) ?_
      refine W.widen (k := 0) (n := 0) (Nat.le_of_ble_eq_true rfl) (Nat.le_of_ble_eq_true rfl) ?_
      have g_2 : ((-1)) = V_next a v := by
        first | rfl | assumption | (simp only [V_next, if_neg c_1, if_pos c_2])
      exact W.iret (v := (-1)) hx hb hr (fun t ht hW => ⟨⟨((-1)), ((-1)), rfl, rfl, ⟨g_2, by show mw _ _ _ _ t.heap; rw [ht]; exact hP⟩⟩, hS.F ht⟩) hS.2.2 dX7_nextOfWay_31
    · refine lv_aload_n hx hb dX7_nextOfWay_18 rfl (lv_at hl 0 rfl) ?_
      refine va_get (D := (dC, dI)) (ws := [(L 15 v, .inr (7, [.int ((a 15 v) 0), .int ((a 15 v) 1), .int ((a 15 v) 2), .int ((a 15 v) 3), .int ((a 15 v) 4), .int ((a 15 v) 5), .int ((a 15 v) 6), .int ((a 15 v) 7), .int ((a 15 v) 8), .int ((a 15 v) 9), .int ((a 15 v) 10), .int ((a 15 v) 11), .ref (L 16 v)]))]) (ci := 7) (v := .ref (L 16 v)) (C := RX7) (T := TX7) (N := 13) hx hb hts tl_X7 hown hK (hP.one (tw_mem (f := 15) (i := v) hi rfl)) 0 rfl rfl 12 (by decide) (hts _ tw_845) (fun _ h9 => h9) rfl dX7_nextOfWay_19 ?_
      refine lv_aload_n hx hb dX7_nextOfWay_22 rfl (lv_at hl 0 rfl) ?_
      refine va_get (D := (dC, dI)) (ws := [(L 15 v, .inr (7, [.int ((a 15 v) 0), .int ((a 15 v) 1), .int ((a 15 v) 2), .int ((a 15 v) 3), .int ((a 15 v) 4), .int ((a 15 v) 5), .int ((a 15 v) 6), .int ((a 15 v) 7), .int ((a 15 v) 8), .int ((a 15 v) 9), .int ((a 15 v) 10), .int ((a 15 v) 11), .ref (L 16 v)]))]) (ci := 7) (v := .int ((a 15 v) 7)) (C := RX7) (T := TX7) (N := 13) hx hb hts tl_X7 hown hK (hP.one (tw_mem (f := 15) (i := v) hi rfl)) 0 rfl rfl 7 (by decide) (hts _ tw_834) (fun _ h9 => h9) rfl dX7_nextOfWay_23 ?_
      have j_1 : ((a 15 v) 7 : Int32).toNatClampNeg = ((a 15 v) 7).toNatClampNeg := m_cl (m_nI c_1) (m_lt c_1 c_2 hw2) (by decide)
      refine va_iald hx hb hK (ws := [(L 16 v, .inl (cy 0, 11, .inl (a 16 v)))]) (hP.one (tw_mem (f := 16) (i := v) hi rfl)) 0 0 rfl rfl (m_in (m_nI c_1) (m_lt c_1 c_2 hw2) (by decide)) dX7_nextOfWay_26 ?_
      refine W.eq (g2 := F0 m 27 ls [.int ((a 16 v) (((a 15 v) 7).toNatClampNeg))]) (by first | (rw [j_1]; done) | (rw [j_1]; rfl)) ?_
      refine lv_goto (tgt := 31) hx hb dX7_nextOfWay_27 (by decide) ?_
      refine W.widen (k := 0) (n := 0) (Nat.le_of_ble_eq_true rfl) (Nat.le_of_ble_eq_true rfl) ?_
      have g_3 : ((a 16 v) (((a 15 v) 7).toNatClampNeg)) = V_next a v := by
        first | rfl | assumption | (simp only [V_next, if_neg c_1, if_neg c_2])
      exact W.iret (v := (a 16 v) (((a 15 v) 7).toNatClampNeg)) hx hb hr (fun t ht hW => ⟨⟨((a 16 v) (((a 15 v) 7).toNatClampNeg)), ((a 16 v) (((a 15 v) 7).toNatClampNeg)), rfl, rfl, ⟨g_3, by show mw _ _ _ _ t.heap; rw [ht]; exact hP⟩⟩, hS.F ht⟩) hS.2.2 dX7_nextOfWay_31
set_option maxRecDepth 100000 in
set_option maxHeartbeats 4000000 in
/-- Vehicle.goOnto -/
theorem c_Vehicle_goOnto (l : Launch) (dC : Nat → ClassId) (dI : Nat → Nat → Nat) (cy : Nat → ClassId) (L : Lay) (tr : Option Nat) (a : St) (κ : Kap) (τ : Tau) (v : Nat) (nx : Int32) (tm : Int32) (tk : Int32) (sz : Nat) (hT : TL L tr τ) (hi : v < 200) : Met l yX7_goOnto (tp_w yX7_goOnto cX7_goOnto 4 none) ({ frames := 0, cells := 0, slots := 0, locals := 0 }) (va_Pc [.ref (L 15 v), .int nx, .int tm, .int tk] (mPre dC dI cy (TW cy L tr a κ τ) sz)) (va_Qv (fun _ : Unit => True) (fun (_ : Unit) (t : State) => mw (dC, dI) vwCl (mA (TW cy L tr a κ τ) sz) (TW cy L tr (V_onto a v nx tm tk) κ τ) t.heap) (mA (TW cy L tr a κ τ) sz)) (0) (0) (mA (TW cy L tr a κ τ) sz) := by
  refine Met.ofW (cc := cX7_goOnto) (maxL := 4) (ret := none) (by decide) rfl ?_
  intro p e s m args below meth c s₁ B hml hv
  obtain ⟨rfl, hsz, hP, hK, hE⟩ := hv
  have hx := B.exec
  have hb := B.bytes
  have hr := B.returns
  have hts0 := atoms_spec (ws := tp_w yX7_goOnto cX7_goOnto 4 none) B.pre
  have hts : ∀ w ∈ tp_all, w.before _ s = true := fun w h => hts0 w (List.mem_cons_of_mem _ h)
  have hown : s.vm.findClass RX7 = some m.cls := findClass_of_methodNamed B.named
  have hlocks := B.notSynchronized
  subst hsz
  have hP := hP.self s.heap.size
  generalize hAe : mA (TW cy L tr a κ τ) s.heap.size = A at hP ⊢
  have hA : ∀ q : Nat, s.heap.size ≤ q → A q := fun q h => by rw [← hAe]; exact Or.inr h
  have hS : va_S A s.heap s.heap [] := va_S.rf
  have hl9 := lv_entry ([.ref (L 15 v), .int nx, .int tm, .int tk]) (n := 4) (Nat.le_of_ble_eq_true rfl)
  rw [lg_entry_eq]
  generalize (lg_sl ([.ref (L 15 v), .int nx, .int tm, .int tk]) ++ List.replicate (4 - (lg_sl ([.ref (L 15 v), .int nx, .int tm, .int tk])).length) Slot.unset).toArray = ls at hl9 ⊢
  have hl : lv_has ls 4 [(0, .ref (L 15 v)), (1, .int nx), (2, .int tm), (3, .int tk)] := hl9
  refine lv_aload_n hx hb dX7_goOnto_0 rfl (lv_at hl 0 rfl) ?_
  refine lv_iconst (v := 1) hx hb dX7_goOnto_1 (by decide) ?_
  obtain ⟨ws9, k9, hPw, hDw, hk9, -, hbk⟩ := hP.cut (e := .inr (7, [.int ((a 15 v) 0), .int ((a 15 v) 1), .int ((a 15 v) 2), .int ((a 15 v) 3), .int ((a 15 v) 4), .int ((a 15 v) 5), .int ((a 15 v) 6), .int ((a 15 v) 7), .int ((a 15 v) 8), .int ((a 15 v) 9), .int ((a 15 v) 10), .int ((a 15 v) 11), .ref (L 16 v)])) (tw_mem (f := 15) (i := v) hi rfl)
  refine va_put (D := (dC, dI)) (ci := 7) (v := .int 1) (ty := .int) (C := RX7) (T := TX7) (N := 13) hx hb hts tl_X7 tyX7 tyX7_ok nmX7 hown hK hPw hDw hS k9 hk9 rfl 3 (by decide) (hts _ tw_825) (fun _ h9 => h9) rfl (by decide +kernel) rfl rfl (Nat.le_of_ble_eq_true rfl) dX7_goOnto_2 (fun H locs hPw hDw hS => ?_)
  have hP : mw (dC, dI) vwCl A (TW cy L tr (S2 a 15 v (upd (a 15 v) 3 1)) κ τ) H := (hbk _ _ hPw hDw).sub (tw_set (b := S2 a 15 v (upd (a 15 v) 3 1)) (f := 15) (i := v) (x := upd (a 15 v) 3 1) hT hi (by decide) rfl)
  clear hbk hPw hDw hk9
  refine lv_aload_n hx hb dX7_goOnto_5 rfl (lv_at hl 0 rfl) ?_
  refine lv_iload_n hx hb dX7_goOnto_6 rfl (lv_at hl 1 rfl) ?_
  obtain ⟨ws9, k9, hPw, hDw, hk9, -, hbk⟩ := hP.cut (e := .inr (7, [.int ((a 15 v) 0), .int ((a 15 v) 1), .int ((a 15 v) 2), .int 1, .int ((a 15 v) 4), .int ((a 15 v) 5), .int ((a 15 v) 6), .int ((a 15 v) 7), .int ((a 15 v) 8), .int ((a 15 v) 9), .int ((a 15 v) 10), .int ((a 15 v) 11), .ref (L 16 v)])) (tw_mem (f := 15) (i := v) hi S2_eq)
  refine va_put (D := (dC, dI)) (ci := 7) (v := .int nx) (ty := .int) (C := RX7) (T := TX7) (N := 13) hx hb hts tl_X7 tyX7 tyX7_ok nmX7 hown hK hPw hDw hS k9 hk9 rfl 5 (by decide) (hts _ tw_829) (fun _ h9 => h9) rfl (by decide +kernel) rfl rfl (Nat.le_of_ble_eq_true rfl) dX7_goOnto_7 (fun H locs hPw hDw hS => ?_)
  have hP : mw (dC, dI) vwCl A (TW cy L tr (S2 a 15 v (upd (upd (a 15 v) 3 1) 5 nx)) κ τ) H := (hbk _ _ hPw hDw).sub (tw_set (b := S2 a 15 v (upd (upd (a 15 v) 3 1) 5 nx)) (f := 15) (i := v) (x := upd (upd (a 15 v) 3 1) 5 nx) hT hi (by decide) S2_S2.symm)
  clear hbk hPw hDw hk9
  refine lv_aload_n hx hb dX7_goOnto_10 rfl (lv_at hl 0 rfl) ?_
  refine lv_iload_n hx hb dX7_goOnto_11 rfl (lv_at hl 3 rfl) ?_
  refine lv_iload_n hx hb dX7_goOnto_12 rfl (lv_at hl 2 rfl) ?_
  refine lv_iadd hx hb dX7_goOnto_13 ?_
  obtain ⟨ws9, k9, hPw, hDw, hk9, -, hbk⟩ := hP.cut (e := .inr (7, [.int ((a 15 v) 0), .int ((a 15 v) 1), .int ((a 15 v) 2), .int 1, .int ((a 15 v) 4), .int nx, .int ((a 15 v) 6), .int ((a 15 v) 7), .int ((a 15 v) 8), .int ((a 15 v) 9), .int ((a 15 v) 10), .int ((a 15 v) 11), .ref (L 16 v)])) (tw_mem (f := 15) (i := v) hi S2_eq)
  refine va_put (D := (dC, dI)) (ci := 7) (v := .int (tk + tm)) (ty := .int) (C := RX7) (T := TX7) (N := 13) hx hb hts tl_X7 tyX7 tyX7_ok nmX7 hown hK hPw hDw hS k9 hk9 rfl 6 (by decide) (hts _ tw_831) (fun _ h9 => h9) rfl (by decide +kernel) rfl rfl (Nat.le_of_ble_eq_true rfl) dX7_goOnto_14 (fun H locs hPw hDw hS => ?_)
  have hP : mw (dC, dI) vwCl A (TW cy L tr (S2 a 15 v (upd (upd (upd (a 15 v) 3 1) 5 nx) 6 (tk + tm))) κ τ) H := (hbk _ _ hPw hDw).sub (tw_set (b := S2 a 15 v (upd (upd (upd (a 15 v) 3 1) 5 nx) 6 (tk + tm))) (f := 15) (i := v) (x := upd (upd (upd (a 15 v) 3 1) 5 nx) 6 (tk + tm)) hT hi (by decide) S2_S2.symm)
  clear hbk hPw hDw hk9
  refine lv_aload_n hx hb dX7_goOnto_17 rfl (lv_at hl 0 rfl) ?_
  refine lv_dup hx hb dX7_goOnto_18 rfl ?_
  refine va_get (D := (dC, dI)) (ws := [(L 15 v, .inr (7, [.int ((a 15 v) 0), .int ((a 15 v) 1), .int ((a 15 v) 2), .int 1, .int ((a 15 v) 4), .int nx, .int (tk + tm), .int ((a 15 v) 7), .int ((a 15 v) 8), .int ((a 15 v) 9), .int ((a 15 v) 10), .int ((a 15 v) 11), .ref (L 16 v)]))]) (ci := 7) (v := .int ((a 15 v) 7)) (C := RX7) (T := TX7) (N := 13) hx hb hts tl_X7 hown hK (hP.one (tw_mem (f := 15) (i := v) hi S2_eq)) 0 rfl rfl 7 (by decide) (hts _ tw_834) (fun _ h9 => h9) rfl dX7_goOnto_19 ?_
  refine lv_iconst (v := 1) hx hb dX7_goOnto_22 (by decide) ?_
  refine lv_iadd hx hb dX7_goOnto_23 ?_
  obtain ⟨ws9, k9, hPw, hDw, hk9, -, hbk⟩ := hP.cut (e := .inr (7, [.int ((a 15 v) 0), .int ((a 15 v) 1), .int ((a 15 v) 2), .int 1, .int ((a 15 v) 4), .int nx, .int (tk + tm), .int ((a 15 v) 7), .int ((a 15 v) 8), .int ((a 15 v) 9), .int ((a 15 v) 10), .int ((a 15 v) 11), .ref (L 16 v)])) (tw_mem (f := 15) (i := v) hi S2_eq)
  refine va_put (D := (dC, dI)) (ci := 7) (v := .int (((a 15 v) 7) + 1)) (ty := .int) (C := RX7) (T := TX7) (N := 13) hx hb hts tl_X7 tyX7 tyX7_ok nmX7 hown hK hPw hDw hS k9 hk9 rfl 7 (by decide) (hts _ tw_834) (fun _ h9 => h9) rfl (by decide +kernel) rfl rfl (Nat.le_of_ble_eq_true rfl) dX7_goOnto_24 (fun H locs hPw hDw hS => ?_)
  have hP : mw (dC, dI) vwCl A (TW cy L tr (S2 a 15 v (upd (upd (upd (upd (a 15 v) 3 1) 5 nx) 6 (tk + tm)) 7 (((a 15 v) 7) + 1))) κ τ) H := (hbk _ _ hPw hDw).sub (tw_set (b := S2 a 15 v (upd (upd (upd (upd (a 15 v) 3 1) 5 nx) 6 (tk + tm)) 7 (((a 15 v) 7) + 1))) (f := 15) (i := v) (x := upd (upd (upd (upd (a 15 v) 3 1) 5 nx) 6 (tk + tm)) 7 (((a 15 v) 7) + 1)) hT hi (by decide) S2_S2.symm)
  clear hbk hPw hDw hk9
  refine lv_aload_n hx hb dX7_goOnto_27 rfl (lv_at hl 0 rfl) ?_
  refine lv_dup hx hb dX7_goOnto_28 rfl ?_
  refine va_get (D := (dC, dI)) (ws := [(L 15 v, .inr (7, [.int ((a 15 v) 0), .int ((a 15 v) 1), .int ((a 15 v) 2), .int 1, .int ((a 15 v) 4), .int nx, .int (tk + tm), .int (((a 15 v) 7) + 1), .int ((a 15 v) 8), .int ((a 15 v) 9), .int ((a 15 v) 10), .int ((a 15 v) 11), .ref (L 16 v)]))]) (ci := 7) (v := .int ((a 15 v) 8)) (C := RX7) (T := TX7) (N := 13) hx hb hts tl_X7 hown hK (hP.one (tw_mem (f := 15) (i := v) hi S2_eq)) 0 rfl rfl 8 (by decide) (hts _ tw_837) (fun _ h9 => h9) rfl dX7_goOnto_29 ?_
  refine lv_iload_n hx hb dX7_goOnto_32 rfl (lv_at hl 2 rfl) ?_
  refine lv_iadd hx hb dX7_goOnto_33 ?_
  obtain ⟨ws9, k9, hPw, hDw, hk9, -, hbk⟩ := hP.cut (e := .inr (7, [.int ((a 15 v) 0), .int ((a 15 v) 1), .int ((a 15 v) 2), .int 1, .int ((a 15 v) 4), .int nx, .int (tk + tm), .int (((a 15 v) 7) + 1), .int ((a 15 v) 8), .int ((a 15 v) 9), .int ((a 15 v) 10), .int ((a 15 v) 11), .ref (L 16 v)])) (tw_mem (f := 15) (i := v) hi S2_eq)
  refine va_put (D := (dC, dI)) (ci := 7) (v := .int (((a 15 v) 8) + tm)) (ty := .int) (C := RX7) (T := TX7) (N := 13) hx hb hts tl_X7 tyX7 tyX7_ok nmX7 hown hK hPw hDw hS k9 hk9 rfl 8 (by decide) (hts _ tw_837) (fun _ h9 => h9) rfl (by decide +kernel) rfl rfl (Nat.le_of_ble_eq_true rfl) dX7_goOnto_34 (fun H locs hPw hDw hS => ?_)
  have hP : mw (dC, dI) vwCl A (TW cy L tr (S2 a 15 v (upd (upd (upd (upd (upd (a 15 v) 3 1) 5 nx) 6 (tk + tm)) 7 (((a 15 v) 7) + 1)) 8 (((a 15 v) 8) + tm))) κ τ) H := (hbk _ _ hPw hDw).sub (tw_set (b := S2 a 15 v (upd (upd (upd (upd (upd (a 15 v) 3 1) 5 nx) 6 (tk + tm)) 7 (((a 15 v) 7) + 1)) 8 (((a 15 v) 8) + tm))) (f := 15) (i := v) (x := upd (upd (upd (upd (upd (a 15 v) 3 1) 5 nx) 6 (tk + tm)) 7 (((a 15 v) 7) + 1)) 8 (((a 15 v) 8) + tm)) hT hi (by decide) S2_S2.symm)
  clear hbk hPw hDw hk9
  refine W.widen (k := 0) (n := 0) (Nat.le_of_ble_eq_true rfl) (Nat.le_of_ble_eq_true rfl) ?_
  have s_1 : S2 a 15 v (upd (upd (upd (upd (upd (a 15 v) 3 1) 5 nx) 6 (tk + tm)) 7 (((a 15 v) 7) + 1)) 8 (((a 15 v) 8) + tm)) = V_onto a v nx tm tk := by
    first | rfl | (simp only [V_onto, X_onto])
  rw [s_1] at hP
  exact W.vret hx hb hr (fun t ht hW => ⟨⟨(), rfl, trivial, (by show mw _ _ _ _ t.heap; rw [ht]; exact hP)⟩, hS.F ht⟩) hS.2.2 dX7_goOnto_37
set_option maxRecDepth 100000 in
set_option maxHeartbeats 4000000 in
/-- Vehicle.arrive -/
theorem c_Vehicle_arrive (l : Launch) (dC : Nat → ClassId) (dI : Nat → Nat → Nat) (cy : Nat → ClassId) (L : Lay) (tr : Option Nat) (a : St) (κ : Kap) (τ : Tau) (v : Nat) (tk : Int32) (sz : Nat) (hT : TL L tr τ) (hi : v < 200) : Met l yX7_arrive (tp_w yX7_arrive cX7_arrive 2 none) ({ frames := 0, cells := 0, slots := 0, locals := 0 }) (va_Pc [.ref (L 15 v), .int tk] (mPre dC dI cy (TW cy L tr a κ τ) sz)) (va_Qv (fun _ : Unit => True) (fun (_ : Unit) (t : State) => mw (dC, dI) vwCl (mA (TW cy L tr a κ τ) sz) (TW cy L tr (V_arr a v tk) κ τ) t.heap) (mA (TW cy L tr a κ τ) sz)) (0) (0) (mA (TW cy L tr a κ τ) sz) := by
  refine Met.ofW (cc := cX7_arrive) (maxL := 2) (ret := none) (by decide) rfl ?_
  intro p e s m args below meth c s₁ B hml hv
  obtain ⟨rfl, hsz, hP, hK, hE⟩ := hv
  have hx := B.exec
  have hb := B.bytes
  have hr := B.returns
  have hts0 := atoms_spec (ws := tp_w yX7_arrive cX7_arrive 2 none) B.pre
  have hts : ∀ w ∈ tp_all, w.before _ s = true := fun w h => hts0 w (List.mem_cons_of_mem _ h)
  have hown : s.vm.findClass RX7 = some m.cls := findClass_of_methodNamed B.named
  have hlocks := B.notSynchronized
  subst hsz
  have hP := hP.self s.heap.size
  generalize hAe : mA (TW cy L tr a κ τ) s.heap.size = A at hP ⊢
  have hA : ∀ q : Nat, s.heap.size ≤ q → A q := fun q h => by rw [← hAe]; exact Or.inr h
  have hS : va_S A s.heap s.heap [] := va_S.rf
  have hl9 := lv_entry ([.ref (L 15 v), .int tk]) (n := 2) (Nat.le_of_ble_eq_true rfl)
  rw [lg_entry_eq]
  generalize (lg_sl ([.ref (L 15 v), .int tk]) ++ List.replicate (2 - (lg_sl ([.ref (L 15 v), .int tk])).length) Slot.unset).toArray = ls at hl9 ⊢
  have hl : lv_has ls 2 [(0, .ref (L 15 v)), (1, .int tk)] := hl9
  refine lv_aload_n hx hb dX7_arrive_0 rfl (lv_at hl 0 rfl) ?_
  refine lv_iconst (v := 2) hx hb dX7_arrive_1 (by decide) ?_
  obtain ⟨ws9, k9, hPw, hDw, hk9, -, hbk⟩ := hP.cut (e := .inr (7, [.int ((a 15 v) 0), .int ((a 15 v) 1), .int ((a 15 v) 2), .int ((a 15 v) 3), .int ((a 15 v) 4), .int ((a 15 v) 5), .int ((a 15 v) 6), .int ((a 15 v) 7), .int ((a 15 v) 8), .int ((a 15 v) 9), .int ((a 15 v) 10), .int ((a 15 v) 11), .ref (L 16 v)])) (tw_mem (f := 15) (i := v) hi rfl)
  refine va_put (D := (dC, dI)) (ci := 7) (v := .int 2) (ty := .int) (C := RX7) (T := TX7) (N := 13) hx hb hts tl_X7 tyX7 tyX7_ok nmX7 hown hK hPw hDw hS k9 hk9 rfl 3 (by decide) (hts _ tw_825) (fun _ h9 => h9) rfl (by decide +kernel) rfl rfl (Nat.le_of_ble_eq_true rfl) dX7_arrive_2 (fun H locs hPw hDw hS => ?_)
  have hP : mw (dC, dI) vwCl A (TW cy L tr (S2 a 15 v (upd (a 15 v) 3 2)) κ τ) H := (hbk _ _ hPw hDw).sub (tw_set (b := S2 a 15 v (upd (a 15 v) 3 2)) (f := 15) (i := v) (x := upd (a 15 v) 3 2) hT hi (by decide) rfl)
  clear hbk hPw hDw hk9
  refine lv_aload_n hx hb dX7_arrive_5 rfl (lv_at hl 0 rfl) ?_
  refine lv_iconst (v := -1) hx hb dX7_arrive_6 (by decide) ?_
  obtain ⟨ws9, k9, hPw, hDw, hk9, -, hbk⟩ := hP.cut (e := .inr (7, [.int ((a 15 v) 0), .int ((a 15 v) 1), .int ((a 15 v) 2), .int 2, .int ((a 15 v) 4), .int ((a 15 v) 5), .int ((a 15 v) 6), .int ((a 15 v) 7), .int ((a 15 v) 8), .int ((a 15 v) 9), .int ((a 15 v) 10), .int ((a 15 v) 11), .ref (L 16 v)])) (tw_mem (f := 15) (i := v) hi S2_eq)
  refine va_put (D := (dC, dI)) (ci := 7) (v := .int ((-1))) (ty := .int) (C := RX7) (T := TX7) (N := 13) hx hb hts tl_X7 tyX7 tyX7_ok nmX7 hown hK hPw hDw hS k9 hk9 rfl 5 (by decide) (hts _ tw_829) (fun _ h9 => h9) rfl (by decide +kernel) rfl rfl (Nat.le_of_ble_eq_true rfl) dX7_arrive_7 (fun H locs hPw hDw hS => ?_)
  have hP : mw (dC, dI) vwCl A (TW cy L tr (S2 a 15 v (upd (upd (a 15 v) 3 2) 5 ((-1)))) κ τ) H := (hbk _ _ hPw hDw).sub (tw_set (b := S2 a 15 v (upd (upd (a 15 v) 3 2) 5 ((-1)))) (f := 15) (i := v) (x := upd (upd (a 15 v) 3 2) 5 ((-1))) hT hi (by decide) S2_S2.symm)
  clear hbk hPw hDw hk9
  refine lv_aload_n hx hb dX7_arrive_10 rfl (lv_at hl 0 rfl) ?_
  refine lv_iconst (v := -1) hx hb dX7_arrive_11 (by decide) ?_
  obtain ⟨ws9, k9, hPw, hDw, hk9, -, hbk⟩ := hP.cut (e := .inr (7, [.int ((a 15 v) 0), .int ((a 15 v) 1), .int ((a 15 v) 2), .int 2, .int ((a 15 v) 4), .int ((-1)), .int ((a 15 v) 6), .int ((a 15 v) 7), .int ((a 15 v) 8), .int ((a 15 v) 9), .int ((a 15 v) 10), .int ((a 15 v) 11), .ref (L 16 v)])) (tw_mem (f := 15) (i := v) hi S2_eq)
  refine va_put (D := (dC, dI)) (ci := 7) (v := .int ((-1))) (ty := .int) (C := RX7) (T := TX7) (N := 13) hx hb hts tl_X7 tyX7 tyX7_ok nmX7 hown hK hPw hDw hS k9 hk9 rfl 6 (by decide) (hts _ tw_831) (fun _ h9 => h9) rfl (by decide +kernel) rfl rfl (Nat.le_of_ble_eq_true rfl) dX7_arrive_12 (fun H locs hPw hDw hS => ?_)
  have hP : mw (dC, dI) vwCl A (TW cy L tr (S2 a 15 v (upd (upd (upd (a 15 v) 3 2) 5 ((-1))) 6 ((-1)))) κ τ) H := (hbk _ _ hPw hDw).sub (tw_set (b := S2 a 15 v (upd (upd (upd (a 15 v) 3 2) 5 ((-1))) 6 ((-1)))) (f := 15) (i := v) (x := upd (upd (upd (a 15 v) 3 2) 5 ((-1))) 6 ((-1))) hT hi (by decide) S2_S2.symm)
  clear hbk hPw hDw hk9
  refine lv_aload_n hx hb dX7_arrive_15 rfl (lv_at hl 0 rfl) ?_
  refine lv_iload_n hx hb dX7_arrive_16 rfl (lv_at hl 1 rfl) ?_
  refine lv_aload_n hx hb dX7_arrive_17 rfl (lv_at hl 0 rfl) ?_
  refine va_get (D := (dC, dI)) (ws := [(L 15 v, .inr (7, [.int ((a 15 v) 0), .int ((a 15 v) 1), .int ((a 15 v) 2), .int 2, .int ((a 15 v) 4), .int ((-1)), .int ((-1)), .int ((a 15 v) 7), .int ((a 15 v) 8), .int ((a 15 v) 9), .int ((a 15 v) 10), .int ((a 15 v) 11), .ref (L 16 v)]))]) (ci := 7) (v := .int ((a 15 v) 4)) (C := RX7) (T := TX7) (N := 13) hx hb hts tl_X7 hown hK (hP.one (tw_mem (f := 15) (i := v) hi S2_eq)) 0 rfl rfl 4 (by decide) (hts _ tw_828) (fun _ h9 => h9) rfl dX7_arrive_18 ?_
  refine lv_isub hx hb dX7_arrive_21 ?_
  obtain ⟨ws9, k9, hPw, hDw, hk9, -, hbk⟩ := hP.cut (e := .inr (7, [.int ((a 15 v) 0), .int ((a 15 v) 1), .int ((a 15 v) 2), .int 2, .int ((a 15 v) 4), .int ((-1)), .int ((-1)), .int ((a 15 v) 7), .int ((a 15 v) 8), .int ((a 15 v) 9), .int ((a 15 v) 10), .int ((a 15 v) 11), .ref (L 16 v)])) (tw_mem (f := 15) (i := v) hi S2_eq)
  refine va_put (D := (dC, dI)) (ci := 7) (v := .int (tk - ((a 15 v) 4))) (ty := .int) (C := RX7) (T := TX7) (N := 13) hx hb hts tl_X7 tyX7 tyX7_ok nmX7 hown hK hPw hDw hS k9 hk9 rfl 9 (by decide) (hts _ tw_838) (fun _ h9 => h9) rfl (by decide +kernel) rfl rfl (Nat.le_of_ble_eq_true rfl) dX7_arrive_22 (fun H locs hPw hDw hS => ?_)
  have hP : mw (dC, dI) vwCl A (TW cy L tr (S2 a 15 v (upd (upd (upd (upd (a 15 v) 3 2) 5 ((-1))) 6 ((-1))) 9 (tk - ((a 15 v) 4)))) κ τ) H := (hbk _ _ hPw hDw).sub (tw_set (b := S2 a 15 v (upd (upd (upd (upd (a 15 v) 3 2) 5 ((-1))) 6 ((-1))) 9 (tk - ((a 15 v) 4)))) (f := 15) (i := v) (x := upd (upd (upd (upd (a 15 v) 3 2) 5 ((-1))) 6 ((-1))) 9 (tk - ((a 15 v) 4))) hT hi (by decide) S2_S2.symm)
  clear hbk hPw hDw hk9
  refine lv_aload_n hx hb dX7_arrive_25 rfl (lv_at hl 0 rfl) ?_
  refine lv_aload_n hx hb dX7_arrive_26 rfl (lv_at hl 0 rfl) ?_
  refine va_get (D := (dC, dI)) (ws := [(L 15 v, .inr (7, [.int ((a 15 v) 0), .int ((a 15 v) 1), .int ((a 15 v) 2), .int 2, .int ((a 15 v) 4), .int ((-1)), .int ((-1)), .int ((a 15 v) 7), .int ((a 15 v) 8), .int (tk - ((a 15 v) 4)), .int ((a 15 v) 10), .int ((a 15 v) 11), .ref (L 16 v)]))]) (ci := 7) (v := .int (tk - ((a 15 v) 4))) (C := RX7) (T := TX7) (N := 13) hx hb hts tl_X7 hown hK (hP.one (tw_mem (f := 15) (i := v) hi S2_eq)) 0 rfl rfl 9 (by decide) (hts _ tw_838) (fun _ h9 => h9) rfl dX7_arrive_27 ?_
  refine lv_aload_n hx hb dX7_arrive_30 rfl (lv_at hl 0 rfl) ?_
  refine va_get (D := (dC, dI)) (ws := [(L 15 v, .inr (7, [.int ((a 15 v) 0), .int ((a 15 v) 1), .int ((a 15 v) 2), .int 2, .int ((a 15 v) 4), .int ((-1)), .int ((-1)), .int ((a 15 v) 7), .int ((a 15 v) 8), .int (tk - ((a 15 v) 4)), .int ((a 15 v) 10), .int ((a 15 v) 11), .ref (L 16 v)]))]) (ci := 7) (v := .int ((a 15 v) 8)) (C := RX7) (T := TX7) (N := 13) hx hb hts tl_X7 hown hK (hP.one (tw_mem (f := 15) (i := v) hi S2_eq)) 0 rfl rfl 8 (by decide) (hts _ tw_837) (fun _ h9 => h9) rfl dX7_arrive_31 ?_
  refine lv_isub hx hb dX7_arrive_34 ?_
  obtain ⟨ws9, k9, hPw, hDw, hk9, -, hbk⟩ := hP.cut (e := .inr (7, [.int ((a 15 v) 0), .int ((a 15 v) 1), .int ((a 15 v) 2), .int 2, .int ((a 15 v) 4), .int ((-1)), .int ((-1)), .int ((a 15 v) 7), .int ((a 15 v) 8), .int (tk - ((a 15 v) 4)), .int ((a 15 v) 10), .int ((a 15 v) 11), .ref (L 16 v)])) (tw_mem (f := 15) (i := v) hi S2_eq)
  refine va_put (D := (dC, dI)) (ci := 7) (v := .int ((tk - ((a 15 v) 4)) - ((a 15 v) 8))) (ty := .int) (C := RX7) (T := TX7) (N := 13) hx hb hts tl_X7 tyX7 tyX7_ok nmX7 hown hK hPw hDw hS k9 hk9 rfl 10 (by decide) (hts _ tw_841) (fun _ h9 => h9) rfl (by decide +kernel) rfl rfl (Nat.le_of_ble_eq_true rfl) dX7_arrive_35 (fun H locs hPw hDw hS => ?_)
  have hP : mw (dC, dI) vwCl A (TW cy L tr (S2 a 15 v (upd (upd (upd (upd (upd (a 15 v) 3 2) 5 ((-1))) 6 ((-1))) 9 (tk - ((a 15 v) 4))) 10 ((tk - ((a 15 v) 4)) - ((a 15 v) 8)))) κ τ) H := (hbk _ _ hPw hDw).sub (tw_set (b := S2 a 15 v (upd (upd (upd (upd (upd (a 15 v) 3 2) 5 ((-1))) 6 ((-1))) 9 (tk - ((a 15 v) 4))) 10 ((tk - ((a 15 v) 4)) - ((a 15 v) 8)))) (f := 15) (i := v) (x := upd (upd (upd (upd (upd (a 15 v) 3 2) 5 ((-1))) 6 ((-1))) 9 (tk - ((a 15 v) 4))) 10 ((tk - ((a 15 v) 4)) - ((a 15 v) 8))) hT hi (by decide) S2_S2.symm)
  clear hbk hPw hDw hk9
  refine W.widen (k := 0) (n := 0) (Nat.le_of_ble_eq_true rfl) (Nat.le_of_ble_eq_true rfl) ?_
  have s_1 : S2 a 15 v (upd (upd (upd (upd (upd (a 15 v) 3 2) 5 ((-1))) 6 ((-1))) 9 (tk - ((a 15 v) 4))) 10 ((tk - ((a 15 v) 4)) - ((a 15 v) 8))) = V_arr a v tk := by
    first | rfl | (simp only [V_arr, X_arr])
  rw [s_1] at hP
  exact W.vret hx hb hr (fun t ht hW => ⟨⟨(), rfl, trivial, (by show mw _ _ _ _ t.heap; rw [ht]; exact hP)⟩, hS.F ht⟩) hS.2.2 dX7_arrive_38

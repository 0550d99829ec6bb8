theorem tw_982 : Cond.codeWith yL_rateOf cL_rateOf 4 (some .int) [(0, 9, 12, 19)] ∈ tp_all := tp_mem 982 (by decide +kernel) rfl
theorem tw_980 : Cond.methodLink RL 185 yL_rateOf ∈ tp_all := tp_mem 980 (by decide +kernel) rfl
theorem tw_981 : Cond.static yL_rateOf ∈ tp_all := tp_mem 981 (by decide +kernel) rfl
theorem tw_1467 : Cond.code yX10_rateOf cX10_rateOf 2 (some .int) ∈ tp_all := tp_mem 1467 (by decide +kernel) rfl
theorem tw_1464 : Cond.methodLink RL 187 yX10_rateOf ∈ tp_all := tp_mem 1464 (by decide +kernel) rfl
theorem tw_1465 : Cond.instanceMethod yX10_rateOf ∈ tp_all := tp_mem 1465 (by decide +kernel) rfl
theorem tw_1466 : Cond.selects RX10 yX10_rateOf yX10_rateOf ∈ tp_all := tp_mem 1466 (by decide +kernel) rfl
theorem dL_law_1028 : decode cL_law 1028 = .ok (.aload_n 1, 1) := by decide +kernel
theorem dL_law_1029 : decode cL_law 1029 = .ok (.aload_n 0, 1) := by decide +kernel
theorem dL_law_1030 : decode cL_law 1030 = .ok (.iload 4, 2) := by decide +kernel
theorem dL_law_1032 : decode cL_law 1032 = .ok (.iconst 1, 1) := by decide +kernel
theorem dL_law_1033 : decode cL_law 1033 = .ok (.iadd, 1) := by decide +kernel
theorem dL_law_1034 : decode cL_law 1034 = .ok (.iaload, 1) := by decide +kernel
theorem dL_law_1035 : decode cL_law 1035 = .ok (.aload_n 3, 1) := by decide +kernel
theorem dL_law_1036 : decode cL_law 1036 = .ok (.invokestatic 185, 3) := by decide +kernel
theorem dL_law_1039 : decode cL_law 1039 = .ok (.istore 5, 2) := by decide +kernel
theorem dL_law_1041 : decode cL_law 1041 = .ok (.aload_n 2, 1) := by decide +kernel
theorem dL_law_1042 : decode cL_law 1042 = .ok (.aload_n 0, 1) := by decide +kernel
theorem dL_law_1043 : decode cL_law 1043 = .ok (.iload 4, 2) := by decide +kernel
theorem dL_law_1045 : decode cL_law 1045 = .ok (.iconst 1, 1) := by decide +kernel
theorem dL_law_1046 : decode cL_law 1046 = .ok (.iadd, 1) := by decide +kernel
theorem dL_law_1047 : decode cL_law 1047 = .ok (.iaload, 1) := by decide +kernel
theorem dL_law_1048 : decode cL_law 1048 = .ok (.invokevirtual 187, 3) := by decide +kernel
theorem dL_law_1051 : decode cL_law 1051 = .ok (.istore 6, 2) := by decide +kernel
theorem dL_law_1053 : decode cL_law 1053 = .ok (.aload_n 2, 1) := by decide +kernel
theorem dL_law_1054 : decode cL_law 1054 = .ok (.invokevirtual 133, 3) := by decide +kernel
theorem dL_law_1057 : decode cL_law 1057 = .ok (.iload 5, 2) := by decide +kernel
theorem dL_law_1059 : decode cL_law 1059 = .ok (.if_icmp .eq 5, 3) := by decide +kernel
theorem dL_law_1064 : decode cL_law 1064 = .ok (.iload 5, 2) := by decide +kernel
theorem dL_law_1066 : decode cL_law 1066 = .ok (.ifCond .ne 15, 3) := by decide +kernel
theorem dL_law_1081 : decode cL_law 1081 = .ok (.goto 1423, 3) := by decide +kernel
set_option maxRecDepth 100000 in
set_option maxHeartbeats 4000000 in
/-- the case 14 -/
theorem tc_14 {p : Program} {l : Launch} {e : Env} {s0 s : State} {m : MethodId} {below : List Frame} {meth : Method} {c : Code} {A : Nat → Prop} (hst : l.stackTraces = false) {dC : Nat → ClassId} {dI : Nat → Nat → Nat} {cy : Nat → ClassId} {b : Nat} {xs : Nat → Int32} {d0 : Drawn} (hd0 : s0.drawn.sameBut d0 lw_cs) (hs : s = s0.setDrawn d0) (C1 : tc_At p s m meth c b #[Value.ref b] A dC dI cy) (hX : va_X b 7 xs s s.heap) {a0 : Nat} {a1 : Nat} {a2 : Nat} {aT : Nat} {b1 : Nat} {b2 : Nat} {b3 : Nat} {b4 : Nat} {b5 : Nat} {b6 : Nat} {b7 : Nat} {m0 : Nat} {w0 : Nat} {o0 : Nat} {r_phases : Nat} {r_phase : Nat} {r_phaseTicks : Nat} {r_set : Nat} {r_least : Nat} {r_greatest : Nat} {r_from : Nat} {r_to : Nat} {r_time : Nat} {r_room : Nat} {r_first : Nat} {r_rate : Nat} {r_cost : Nat} {r_isShut : Nat} {r_slowed : Nat} {r_row : Nat} {r_size : Nat} {r_came : Nat} {r_left : Nat} {r_mostQueue : Nat} {r_sumQueue : Nat} {r_turned : Nat} {r_flowFrom : Nat} {r_flowTo : Nat} {r_kind : Nat} {r_start : Nat} {r_period : Nat} {r_count : Nat} {r_flow : Nat} {r_began : Nat} {r_state : Nat} {r_link : Nat} {r_end : Nat} {r_gone : Nat} {r_trip : Nat} {r_delay : Nat} {r_way : Nat} (H : Heap) (locs : List Loc) (ls : Array Slot) (hP : va_P (dC, dI) vwCl [(a0, .inr (8, [.ref a1, .ref aT])), (a1, .inr (5, [.ref a2, .ref b1, .ref b2, .ref b3, .ref b4, .ref b5, .int 0, .int 1, .int 0, .int 0, .int 0, .int 0])), (a2, .inr (2, [.ref b6, .int 0, .ref b7, .int 0])), (m0, .inr (10, [.ref w0, .int 0])), (w0, .inr (9, [.int 0, .int 1, .int 0, .ref r_phases, .ref r_phase, .ref r_phaseTicks, .ref r_set, .ref r_least, .ref r_greatest, .int 0, .ref r_from, .ref r_to, .ref r_time, .ref r_room, .ref r_first, .ref r_rate, .ref r_cost, .ref r_isShut, .ref r_slowed, .ref r_row, .ref r_size, .ref r_came, .ref r_left, .ref r_mostQueue, .ref r_sumQueue, .ref r_turned, .int 0, .ref r_flowFrom, .ref r_flowTo, .ref r_kind, .ref r_start, .ref r_period, .ref r_count, .int 0, .ref r_flow, .ref r_began, .ref r_state, .ref r_link, .ref r_end, .ref r_gone, .ref r_trip, .ref r_delay, .ref r_way])), (o0, .inl (cy 1, 1, .inr (.inl ((fun _ => 0)))))] H) (hD : va_D A [(a0, .inr (8, [.ref a1, .ref aT])), (a1, .inr (5, [.ref a2, .ref b1, .ref b2, .ref b3, .ref b4, .ref b5, .int 0, .int 1, .int 0, .int 0, .int 0, .int 0])), (a2, .inr (2, [.ref b6, .int 0, .ref b7, .int 0])), (m0, .inr (10, [.ref w0, .int 0])), (w0, .inr (9, [.int 0, .int 1, .int 0, .ref r_phases, .ref r_phase, .ref r_phaseTicks, .ref r_set, .ref r_least, .ref r_greatest, .int 0, .ref r_from, .ref r_to, .ref r_time, .ref r_room, .ref r_first, .ref r_rate, .ref r_cost, .ref r_isShut, .ref r_slowed, .ref r_row, .ref r_size, .ref r_came, .ref r_left, .ref r_mostQueue, .ref r_sumQueue, .ref r_turned, .int 0, .ref r_flowFrom, .ref r_flowTo, .ref r_kind, .ref r_start, .ref r_period, .ref r_count, .int 0, .ref r_flow, .ref r_began, .ref r_state, .ref r_link, .ref r_end, .ref r_gone, .ref r_trip, .ref r_delay, .ref r_way])), (o0, .inl (cy 1, 1, .inr (.inl ((fun _ => 0)))))]) (hS : va_S A s.heap H locs) (hl : lv_has ls 9 [(0, .ref b), (1, .ref a0), (2, .ref m0), (3, .ref o0), (4, .int 0)]) : W p l e room_1 s m #[Value.ref b] below meth c H locs 1535 31585 (lw_Z below #[Value.ref b] s0) (F0 m 1028 ls []) := by
  have C2 := C1
  obtain ⟨hx, hb, hr, hml, hown, hts, hbl, hlocks, hK, hE, hZ, hA, hbA, hA2⟩ := C2
  refine lv_aload_n hx hb dL_law_1028 rfl (lv_at hl 1 rfl) ?_
  refine lv_aload_n hx hb dL_law_1029 rfl (lv_at hl 0 rfl) ?_
  refine lv_iload hx hb dL_law_1030 (lv_at hl 4 rfl) ?_
  refine lv_iconst (v := 1) hx hb dL_law_1032 (by decide) ?_
  refine lv_iadd hx hb dL_law_1033 ?_
  refine va_sld hx hb hX hbl hbA hS (by unfold vp_in; decide) dL_law_1034 ?_
  refine lv_aload_n hx hb dL_law_1035 rfl (lv_at hl 3 rfl) ?_
  have hFc := va_free (wc := [(a0, .inr (8, [.ref a1, .ref aT])), (a1, .inr (5, [.ref a2, .ref b1, .ref b2, .ref b3, .ref b4, .ref b5, .int 0, .int 1, .int 0, .int 0, .int 0, .int 0])), (a2, .inr (2, [.ref b6, .int 0, .ref b7, .int 0])), (o0, .inl (cy 1, 1, .inr (.inl ((fun _ => 0)))))]) hD hS hA [0, 1, 2, 5] rfl
  refine vx_calli (vx_runSX (As := [.ref a0, .int (xs (0 + 1 : Int32).toNatClampNeg), .ref o0]) (rest := []) ⟨hx, hb, hml, hown, hts⟩ (tm_L_rateOf l hst dC dI cy a0 a1 a2 aT b1 b2 b3 b4 b5 b6 b7 o0 (xs (0 + 1 : Int32).toNatClampNeg) H.size) (tp_cwSW 3 hts tw_980 tw_981 tw_37 tw_982 rfl rfl (by decide +kernel) ⟨Nat.le_of_ble_eq_true rfl, Nat.le_of_ble_eq_true rfl⟩) ⟨tp_blind, fun U hU hW => ⟨rfl, tp_pay hK hP hD hE hZ hS [0, 1, 2, 5] (by decide) rfl hFc U hU hW⟩⟩ rfl rfl hl.1 rfl (lv_room (Nat.le_of_ble_eq_true rfl)) dL_law_1036 ⟨(Nat.le_of_ble_eq_true rfl), (Nat.le_of_ble_eq_true rfl)⟩) hS (fun q _ h => hFc q h) hFc (fun q _ h => hFc q h) (fun E9 ce q9 u t H1 locs ht hvm hw hB hz1 hk1 hS hce hcv hcl => ?_) (fun r_1 u t H1 locs ht hvm hw hB hz1 hk1 hS => ?_)
  · obtain ⟨hE9, hB⟩ := hB
    exact hE9.elim
  · obtain rfl := hw
    obtain ⟨f_2, hP1, hD1⟩ := hB
    subst f_2
    rw [ht] at hP1
    obtain ⟨hP, hD⟩ := va_join (wr := [(m0, .inr (10, [.ref w0, .int 0])), (w0, .inr (9, [.int 0, .int 1, .int 0, .ref r_phases, .ref r_phase, .ref r_phaseTicks, .ref r_set, .ref r_least, .ref r_greatest, .int 0, .ref r_from, .ref r_to, .ref r_time, .ref r_room, .ref r_first, .ref r_rate, .ref r_cost, .ref r_isShut, .ref r_slowed, .ref r_row, .ref r_size, .ref r_came, .ref r_left, .ref r_mostQueue, .ref r_sumQueue, .ref r_turned, .int 0, .ref r_flowFrom, .ref r_flowTo, .ref r_kind, .ref r_start, .ref r_period, .ref r_count, .int 0, .ref r_flow, .ref r_began, .ref r_state, .ref r_link, .ref r_end, .ref r_gone, .ref r_trip, .ref r_delay, .ref r_way]))]) (w1 := [(o0, .inl (cy 1, 1, .inr (.inl ((fun _ => 0)))))]) hP hD [0, 1, 2, 5] [3, 4] rfl rfl (by decide) (by decide) hk1 hFc hP1 hD1
    generalize H1 = H at hP hS ⊢
    have hP : va_P (dC, dI) vwCl [(m0, .inr (10, [.ref w0, .int 0])), (w0, .inr (9, [.int 0, .int 1, .int 0, .ref r_phases, .ref r_phase, .ref r_phaseTicks, .ref r_set, .ref r_least, .ref r_greatest, .int 0, .ref r_from, .ref r_to, .ref r_time, .ref r_room, .ref r_first, .ref r_rate, .ref r_cost, .ref r_isShut, .ref r_slowed, .ref r_row, .ref r_size, .ref r_came, .ref r_left, .ref r_mostQueue, .ref r_sumQueue, .ref r_turned, .int 0, .ref r_flowFrom, .ref r_flowTo, .ref r_kind, .ref r_start, .ref r_period, .ref r_count, .int 0, .ref r_flow, .ref r_began, .ref r_state, .ref r_link, .ref r_end, .ref r_gone, .ref r_trip, .ref r_delay, .ref r_way])), (o0, .inl (cy 1, 1, .inr (.inl ((fun _ => 0)))))] _ := hP
    have hD : va_D A [(m0, .inr (10, [.ref w0, .int 0])), (w0, .inr (9, [.int 0, .int 1, .int 0, .ref r_phases, .ref r_phase, .ref r_phaseTicks, .ref r_set, .ref r_least, .ref r_greatest, .int 0, .ref r_from, .ref r_to, .ref r_time, .ref r_room, .ref r_first, .ref r_rate, .ref r_cost, .ref r_isShut, .ref r_slowed, .ref r_row, .ref r_size, .ref r_came, .ref r_left, .ref r_mostQueue, .ref r_sumQueue, .ref r_turned, .int 0, .ref r_flowFrom, .ref r_flowTo, .ref r_kind, .ref r_start, .ref r_period, .ref r_count, .int 0, .ref r_flow, .ref r_began, .ref r_state, .ref r_link, .ref r_end, .ref r_gone, .ref r_trip, .ref r_delay, .ref r_way])), (o0, .inl (cy 1, 1, .inr (.inl ((fun _ => 0)))))] := hD
    refine lv_istore (lv' := [(5, .int 1), (0, .ref b), (1, .ref a0), (2, .ref m0), (3, .ref o0), (4, .int 0)]) hx hb dL_law_1039 hl (by decide) rfl (fun ls hl => ?_)
    refine lv_aload_n hx hb dL_law_1041 rfl (lv_at hl 3 rfl) ?_
    refine lv_aload_n hx hb dL_law_1042 rfl (lv_at hl 1 rfl) ?_
    refine lv_iload hx hb dL_law_1043 (lv_at hl 5 rfl) ?_
    refine lv_iconst (v := 1) hx hb dL_law_1045 (by decide) ?_
    refine lv_iadd hx hb dL_law_1046 ?_
    refine va_sld hx hb hX hbl hbA hS (by unfold vp_in; decide) dL_law_1047 ?_
    have hFc := va_free (wc := [(m0, .inr (10, [.ref w0, .int 0])), (w0, .inr (9, [.int 0, .int 1, .int 0, .ref r_phases, .ref r_phase, .ref r_phaseTicks, .ref r_set, .ref r_least, .ref r_greatest, .int 0, .ref r_from, .ref r_to, .ref r_time, .ref r_room, .ref r_first, .ref r_rate, .ref r_cost, .ref r_isShut, .ref r_slowed, .ref r_row, .ref r_size, .ref r_came, .ref r_left, .ref r_mostQueue, .ref r_sumQueue, .ref r_turned, .int 0, .ref r_flowFrom, .ref r_flowTo, .ref r_kind, .ref r_start, .ref r_period, .ref r_count, .int 0, .ref r_flow, .ref r_began, .ref r_state, .ref r_link, .ref r_end, .ref r_gone, .ref r_trip, .ref r_delay, .ref r_way]))]) hD hS hA [0, 1] rfl
    refine va_calli (va_runV (As := [.int (xs (0 + 1 : Int32).toNatClampNeg)]) (rest := []) ⟨hx, hb, hml, hown, hts⟩ (tm_m_rateOf l hst dC dI cy m0 w0 0 r_phases r_phase r_phaseTicks r_set r_least r_greatest r_from r_to r_time r_room r_first r_rate r_cost r_isShut r_slowed r_row r_size r_came r_left r_mostQueue r_sumQueue r_turned r_flowFrom r_flowTo r_kind r_start r_period r_count r_flow r_began r_state r_link r_end r_gone r_trip r_delay r_way (xs (0 + 1 : Int32).toNatClampNeg) H.size) (tp_cwV 1 hts tw_1464 tw_1465 tw_1466 tw_48 tw_1467 rfl rfl (by decide +kernel) ⟨Nat.le_of_ble_eq_true rfl, Nat.le_of_ble_eq_true rfl⟩) ⟨tp_blind, va_recv hK hP (ci := 10) (q0 := 0) rfl rfl, fun U hU hW => ⟨rfl, tp_pay hK hP hD hE hZ hS [0, 1] (by decide) rfl hFc U hU hW⟩⟩ rfl rfl hl.1 rfl (lv_room (Nat.le_of_ble_eq_true rfl)) dL_law_1048 ⟨(Nat.le_of_ble_eq_true rfl), (Nat.le_of_ble_eq_true rfl)⟩) hS (fun q _ h => hFc q h) hFc (fun r_3 u t H1 locs ht hvm hw hB hz1 hk1 hS => ?_)
    obtain rfl := hw
    obtain ⟨f_4, hP1, hD1⟩ := hB
    subst f_4
    rw [ht] at hP1
    obtain ⟨hP, hD⟩ := va_join (wr := [(o0, .inl (cy 1, 1, .inr (.inl ((fun _ => 0)))))]) (w1 := [(m0, .inr (10, [.ref w0, .int 1]))]) hP hD [0, 1] [2] rfl rfl (by decide) (by decide) hk1 hFc hP1 hD1
    generalize H1 = H at hP hS ⊢
    have hP : va_P (dC, dI) vwCl [(o0, .inl (cy 1, 1, .inr (.inl ((fun _ => 0))))), (m0, .inr (10, [.ref w0, .int 1]))] _ := hP
    have hD : va_D A [(o0, .inl (cy 1, 1, .inr (.inl ((fun _ => 0))))), (m0, .inr (10, [.ref w0, .int 1]))] := hD
    refine lv_istore (lv' := [(6, .int 0), (5, .int 1), (0, .ref b), (1, .ref a0), (2, .ref m0), (3, .ref o0), (4, .int 0)]) hx hb dL_law_1051 hl (by decide) rfl (fun ls hl => ?_)
    refine lv_aload_n hx hb dL_law_1053 rfl (lv_at hl 4 rfl) ?_
    have hFc := va_free (wc := [(m0, .inr (10, [.ref w0, .int 1]))]) hD hS hA [1] rfl
    refine va_calli (va_runV (As := []) (rest := []) ⟨hx, hb, hml, hown, hts⟩ (tm_m_thrown l hst dC dI cy m0 w0 1 H.size) (tp_cwV 0 hts tw_1317 tw_1318 tw_1319 tw_48 tw_1320 rfl rfl (by decide +kernel) ⟨Nat.le_of_ble_eq_true rfl, Nat.le_of_ble_eq_true rfl⟩) ⟨tp_blind, va_recv hK hP (ci := 10) (q0 := 1) rfl rfl, fun U hU hW => ⟨rfl, tp_pay hK hP hD hE hZ hS [1] (by decide) rfl hFc U hU hW⟩⟩ rfl rfl hl.1 rfl (lv_room (Nat.le_of_ble_eq_true rfl)) dL_law_1054 ⟨(Nat.le_of_ble_eq_true rfl), (Nat.le_of_ble_eq_true rfl)⟩) hS (fun q _ h => hFc q h) hFc (fun r_5 u t H1 locs ht hvm hw hB hz1 hk1 hS => ?_)
    obtain rfl := hw
    obtain ⟨f_6, hP1, hD1⟩ := hB
    subst f_6
    rw [ht] at hP1
    obtain ⟨hP, hD⟩ := va_join (wr := [(o0, .inl (cy 1, 1, .inr (.inl ((fun _ => 0)))))]) (w1 := [(m0, .inr (10, [.ref w0, .int 1]))]) hP hD [1] [0] rfl rfl (by decide) (by decide) hk1 hFc hP1 hD1
    generalize H1 = H at hP hS ⊢
    have hP : va_P (dC, dI) vwCl [(o0, .inl (cy 1, 1, .inr (.inl ((fun _ => 0))))), (m0, .inr (10, [.ref w0, .int 1]))] _ := hP
    have hD : va_D A [(o0, .inl (cy 1, 1, .inr (.inl ((fun _ => 0))))), (m0, .inr (10, [.ref w0, .int 1]))] := hD
    refine lv_iload hx hb dL_law_1057 (lv_at hl 1 rfl) ?_
    refine lv_icmp_eq (tgt := 1064) hx hb dL_law_1059 (by decide) (fun _ => ?_) (fun c_7 => absurd rfl c_7)
    refine lv_iload hx hb dL_law_1064 (lv_at hl 1 rfl) ?_
    refine lv_if_ne (tgt := 1081) hx hb dL_law_1066 (by decide) (fun _ => ?_) (fun c_8 => absurd c_8 (by decide))
    refine lv_goto (tgt := 2504) hx hb dL_law_1081 (by decide) ?_
    exact tc_end hd0 hs C1 hX (Nat.le_of_ble_eq_true rfl) (Nat.le_of_ble_eq_true rfl) H _ ls hS (lv_sub hl [2, 6] rfl)
theorem tw_986 : Cond.codeWith yL_costOf cL_costOf 4 (some .int) [(0, 9, 12, 19)] ∈ tp_all := tp_mem 986 (by decide +kernel) rfl
theorem tw_984 : Cond.methodLink RL 188 yL_costOf ∈ tp_all := tp_mem 984 (by decide +kernel) rfl
theorem tw_985 : Cond.static yL_costOf ∈ tp_all := tp_mem 985 (by decide +kernel) rfl
theorem tw_1471 : Cond.code yX10_costOf cX10_costOf 2 (some .int) ∈ tp_all := tp_mem 1471 (by decide +kernel) rfl
theorem tw_1468 : Cond.methodLink RL 190 yX10_costOf ∈ tp_all := tp_mem 1468 (by decide +kernel) rfl
theorem tw_1469 : Cond.instanceMethod yX10_costOf ∈ tp_all := tp_mem 1469 (by decide +kernel) rfl
theorem tw_1470 : Cond.selects RX10 yX10_costOf yX10_costOf ∈ tp_all := tp_mem 1470 (by decide +kernel) rfl
theorem dL_law_1084 : decode cL_law 1084 = .ok (.aload_n 1, 1) := by decide +kernel
theorem dL_law_1085 : decode cL_law 1085 = .ok (.aload_n 0, 1) := by decide +kernel
theorem dL_law_1086 : decode cL_law 1086 = .ok (.iload 4, 2) := by decide +kernel
theorem dL_law_1088 : decode cL_law 1088 = .ok (.iconst 1, 1) := by decide +kernel
theorem dL_law_1089 : decode cL_law 1089 = .ok (.iadd, 1) := by decide +kernel
theorem dL_law_1090 : decode cL_law 1090 = .ok (.iaload, 1) := by decide +kernel
theorem dL_law_1091 : decode cL_law 1091 = .ok (.aload_n 3, 1) := by decide +kernel
theorem dL_law_1092 : decode cL_law 1092 = .ok (.invokestatic 188, 3) := by decide +kernel
theorem dL_law_1095 : decode cL_law 1095 = .ok (.istore 5, 2) := by decide +kernel
theorem dL_law_1097 : decode cL_law 1097 = .ok (.aload_n 2, 1) := by decide +kernel
theorem dL_law_1098 : decode cL_law 1098 = .ok (.aload_n 0, 1) := by decide +kernel
theorem dL_law_1099 : decode cL_law 1099 = .ok (.iload 4, 2) := by decide +kernel
theorem dL_law_1101 : decode cL_law 1101 = .ok (.iconst 1, 1) := by decide +kernel
theorem dL_law_1102 : decode cL_law 1102 = .ok (.iadd, 1) := by decide +kernel
theorem dL_law_1103 : decode cL_law 1103 = .ok (.iaload, 1) := by decide +kernel
theorem dL_law_1104 : decode cL_law 1104 = .ok (.invokevirtual 190, 3) := by decide +kernel
theorem dL_law_1107 : decode cL_law 1107 = .ok (.istore 6, 2) := by decide +kernel
theorem dL_law_1109 : decode cL_law 1109 = .ok (.aload_n 2, 1) := by decide +kernel
theorem dL_law_1110 : decode cL_law 1110 = .ok (.invokevirtual 133, 3) := by decide +kernel
theorem dL_law_1113 : decode cL_law 1113 = .ok (.iload 5, 2) := by decide +kernel
theorem dL_law_1115 : decode cL_law 1115 = .ok (.if_icmp .eq 5, 3) := by decide +kernel
theorem dL_law_1120 : decode cL_law 1120 = .ok (.iload 5, 2) := by decide +kernel
theorem dL_law_1122 : decode cL_law 1122 = .ok (.ifCond .ne 15, 3) := by decide +kernel
theorem dL_law_1137 : decode cL_law 1137 = .ok (.goto 1367, 3) := by decide +kernel
set_option maxRecDepth 100000 in
set_option maxHeartbeats 4000000 in
/-- the case 15 -/
theorem tc_15 {p : Program} {l : Launch} {e : Env} {s0 s : State} {m : MethodId} {below : List Frame} {meth : Method} {c : Code} {A : Nat → Prop} (hst : l.stackTraces = false) {dC : Nat → ClassId} {dI : Nat → Nat → Nat} {cy : Nat → ClassId} {b : Nat} {xs : Nat → Int32} {d0 : Drawn} (hd0 : s0.drawn.sameBut d0 lw_cs) (hs : s = s0.setDrawn d0) (C1 : tc_At p s m meth c b #[Value.ref b] A dC dI cy) (hX : va_X b 7 xs s s.heap) {a0 : Nat} {a1 : Nat} {a2 : Nat} {aT : Nat} {b1 : Nat} {b2 : Nat} {b3 : Nat} {b4 : Nat} {b5 : Nat} {b6 : Nat} {b7 : Nat} {m0 : Nat} {w0 : Nat} {o0 : Nat} {r_phases : Nat} {r_phase : Nat} {r_phaseTicks : Nat} {r_set : Nat} {r_least : Nat} {r_greatest : Nat} {r_from : Nat} {r_to : Nat} {r_time : Nat} {r_room : Nat} {r_first : Nat} {r_rate : Nat} {r_cost : Nat} {r_isShut : Nat} {r_slowed : Nat} {r_row : Nat} {r_size : Nat} {r_came : Nat} {r_left : Nat} {r_mostQueue : Nat} {r_sumQueue : Nat} {r_turned : Nat} {r_flowFrom : Nat} {r_flowTo : Nat} {r_kind : Nat} {r_start : Nat} {r_period : Nat} {r_count : Nat} {r_flow : Nat} {r_began : Nat} {r_state : Nat} {r_link : Nat} {r_end : Nat} {r_gone : Nat} {r_trip : Nat} {r_delay : Nat} {r_way : Nat} (H : Heap) (locs : List Loc) (ls : Array Slot) (hP : va_P (dC, dI) vwCl [(a0, .inr (8, [.ref a1, .ref aT])), (a1, .inr (5, [.ref a2, .ref b1, .ref b2, .ref b3, .ref b4, .ref b5, .int 0, .int 1, .int 0, .int 0, .int 0, .int 0])), (a2, .inr (2, [.ref b6, .int 0, .ref b7, .int 0])), (m0, .inr (10, [.ref w0, .int 0])), (w0, .inr (9, [.int 0, .int 1, .int 0, .ref r_phases, .ref r_phase, .ref r_phaseTicks, .ref r_set, .ref r_least, .ref r_greatest, .int 0, .ref r_from, .ref r_to, .ref r_time, .ref r_room, .ref r_first, .ref r_rate, .ref r_cost, .ref r_isShut, .ref r_slowed, .ref r_row, .ref r_size, .ref r_came, .ref r_left, .ref r_mostQueue, .ref r_sumQueue, .ref r_turned, .int 0, .ref r_flowFrom, .ref r_flowTo, .ref r_kind, .ref r_start, .ref r_period, .ref r_count, .int 0, .ref r_flow, .ref r_began, .ref r_state, .ref r_link, .ref r_end, .ref r_gone, .ref r_trip, .ref r_delay, .ref r_way])), (o0, .inl (cy 1, 1, .inr (.inl ((fun _ => 0)))))] H) (hD : va_D A [(a0, .inr (8, [.ref a1, .ref aT])), (a1, .inr (5, [.ref a2, .ref b1, .ref b2, .ref b3, .ref b4, .ref b5, .int 0, .int 1, .int 0, .int 0, .int 0, .int 0])), (a2, .inr (2, [.ref b6, .int 0, .ref b7, .int 0])), (m0, .inr (10, [.ref w0, .int 0])), (w0, .inr (9, [.int 0, .int 1, .int 0, .ref r_phases, .ref r_phase, .ref r_phaseTicks, .ref r_set, .ref r_least, .ref r_greatest, .int 0, .ref r_from, .ref r_to, .ref r_time, .ref r_room, .ref r_first, .ref r_rate, .ref r_cost, .ref r_isShut, .ref r_slowed, .ref r_row, .ref r_size, .ref r_came, .ref r_left, .ref r_mostQueue, .ref r_sumQueue, .ref r_turned, .int 0, .ref r_flowFrom, .ref r_flowTo, .ref r_kind, .ref r_start, .ref r_period, .ref r_count, .int 0, .ref r_flow, .ref r_began, .ref r_state, .ref r_link, .ref r_end, .ref r_gone, .ref r_trip, .ref r_delay, .ref r_way])), (o0, .inl (cy 1, 1, .inr (.inl ((fun _ => 0)))))]) (hS : va_S A s.heap H locs) (hl : lv_has ls 9 [(0, .ref b), (1, .ref a0), (2, .ref m0), (3, .ref o0), (4, .int 0)]) : W p l e room_1 s m #[Value.ref b] below meth c H locs 1535 31585 (lw_Z below #[Value.ref b] s0) (F0 m 1084 ls []) := by
  have C2 := C1
  obtain ⟨hx, hb, hr, hml, hown, hts, hbl, hlocks, hK, hE, hZ, hA, hbA, hA2⟩ := C2
  refine lv_aload_n hx hb dL_law_1084 rfl (lv_at hl 1 rfl) ?_
  refine lv_aload_n hx hb dL_law_1085 rfl (lv_at hl 0 rfl) ?_
  refine lv_iload hx hb dL_law_1086 (lv_at hl 4 rfl) ?_
  refine lv_iconst (v := 1) hx hb dL_law_1088 (by decide) ?_
  refine lv_iadd hx hb dL_law_1089 ?_
  refine va_sld hx hb hX hbl hbA hS (by unfold vp_in; decide) dL_law_1090 ?_
  refine lv_aload_n hx hb dL_law_1091 rfl (lv_at hl 3 rfl) ?_
  have hFc := va_free (wc := [(a0, .inr (8, [.ref a1, .ref aT])), (a1, .inr (5, [.ref a2, .ref b1, .ref b2, .ref b3, .ref b4, .ref b5, .int 0, .int 1, .int 0, .int 0, .int 0, .int 0])), (a2, .inr (2, [.ref b6, .int 0, .ref b7, .int 0])), (o0, .inl (cy 1, 1, .inr (.inl ((fun _ => 0)))))]) hD hS hA [0, 1, 2, 5] rfl
  refine vx_calli (vx_runSX (As := [.ref a0, .int (xs (0 + 1 : Int32).toNatClampNeg), .ref o0]) (rest := []) ⟨hx, hb, hml, hown, hts⟩ (tm_L_costOf l hst dC dI cy a0 a1 a2 aT b1 b2 b3 b4 b5 b6 b7 o0 (xs (0 + 1 : Int32).toNatClampNeg) H.size) (tp_cwSW 3 hts tw_984 tw_985 tw_37 tw_986 rfl rfl (by decide +kernel) ⟨Nat.le_of_ble_eq_true rfl, Nat.le_of_ble_eq_true rfl⟩) ⟨tp_blind, fun U hU hW => ⟨rfl, tp_pay hK hP hD hE hZ hS [0, 1, 2, 5] (by decide) rfl hFc U hU hW⟩⟩ rfl rfl hl.1 rfl (lv_room (Nat.le_of_ble_eq_true rfl)) dL_law_1092 ⟨(Nat.le_of_ble_eq_true rfl), (Nat.le_of_ble_eq_true rfl)⟩) hS (fun q _ h => hFc q h) hFc (fun q _ h => hFc q h) (fun E9 ce q9 u t H1 locs ht hvm hw hB hz1 hk1 hS hce hcv hcl => ?_) (fun r_1 u t H1 locs ht hvm hw hB hz1 hk1 hS => ?_)
  · obtain ⟨hE9, hB⟩ := hB
    exact hE9.elim
  · obtain rfl := hw
    obtain ⟨f_2, hP1, hD1⟩ := hB
    subst f_2
    rw [ht] at hP1
    obtain ⟨hP, hD⟩ := va_join (wr := [(m0, .inr (10, [.ref w0, .int 0])), (w0, .inr (9, [.int 0, .int 1, .int 0, .ref r_phases, .ref r_phase, .ref r_phaseTicks, .ref r_set, .ref r_least, .ref r_greatest, .int 0, .ref r_from, .ref r_to, .ref r_time, .ref r_room, .ref r_first, .ref r_rate, .ref r_cost, .ref r_isShut, .ref r_slowed, .ref r_row, .ref r_size, .ref r_came, .ref r_left, .ref r_mostQueue, .ref r_sumQueue, .ref r_turned, .int 0, .ref r_flowFrom, .ref r_flowTo, .ref r_kind, .ref r_start, .ref r_period, .ref r_count, .int 0, .ref r_flow, .ref r_began, .ref r_state, .ref r_link, .ref r_end, .ref r_gone, .ref r_trip, .ref r_delay, .ref r_way]))]) (w1 := [(o0, .inl (cy 1, 1, .inr (.inl ((fun _ => 0)))))]) hP hD [0, 1, 2, 5] [3, 4] rfl rfl (by decide) (by decide) hk1 hFc hP1 hD1
    generalize H1 = H at hP hS ⊢
    have hP : va_P (dC, dI) vwCl [(m0, .inr (10, [.ref w0, .int 0])), (w0, .inr (9, [.int 0, .int 1, .int 0, .ref r_phases, .ref r_phase, .ref r_phaseTicks, .ref r_set, .ref r_least, .ref r_greatest, .int 0, .ref r_from, .ref r_to, .ref r_time, .ref r_room, .ref r_first, .ref r_rate, .ref r_cost, .ref r_isShut, .ref r_slowed, .ref r_row, .ref r_size, .ref r_came, .ref r_left, .ref r_mostQueue, .ref r_sumQueue, .ref r_turned, .int 0, .ref r_flowFrom, .ref r_flowTo, .ref r_kind, .ref r_start, .ref r_period, .ref r_count, .int 0, .ref r_flow, .ref r_began, .ref r_state, .ref r_link, .ref r_end, .ref r_gone, .ref r_trip, .ref r_delay, .ref r_way])), (o0, .inl (cy 1, 1, .inr (.inl ((fun _ => 0)))))] _ := hP
    have hD : va_D A [(m0, .inr (10, [.ref w0, .int 0])), (w0, .inr (9, [.int 0, .int 1, .int 0, .ref r_phases, .ref r_phase, .ref r_phaseTicks, .ref r_set, .ref r_least, .ref r_greatest, .int 0, .ref r_from, .ref r_to, .ref r_time, .ref r_room, .ref r_first, .ref r_rate, .ref r_cost, .ref r_isShut, .ref r_slowed, .ref r_row, .ref r_size, .ref r_came, .ref r_left, .ref r_mostQueue, .ref r_sumQueue, .ref r_turned, .int 0, .ref r_flowFrom, .ref r_flowTo, .ref r_kind, .ref r_start, .ref r_period, .ref r_count, .int 0, .ref r_flow, .ref r_began, .ref r_state, .ref r_link, .ref r_end, .ref r_gone, .ref r_trip, .ref r_delay, .ref r_way])), (o0, .inl (cy 1, 1, .inr (.inl ((fun _ => 0)))))] := hD
    refine lv_istore (lv' := [(5, .int 1), (0, .ref b), (1, .ref a0), (2, .ref m0), (3, .ref o0), (4, .int 0)]) hx hb dL_law_1095 hl (by decide) rfl (fun ls hl => ?_)
    refine lv_aload_n hx hb dL_law_1097 rfl (lv_at hl 3 rfl) ?_
    refine lv_aload_n hx hb dL_law_1098 rfl (lv_at hl 1 rfl) ?_
    refine lv_iload hx hb dL_law_1099 (lv_at hl 5 rfl) ?_
    refine lv_iconst (v := 1) hx hb dL_law_1101 (by decide) ?_
    refine lv_iadd hx hb dL_law_1102 ?_
    refine va_sld hx hb hX hbl hbA hS (by unfold vp_in; decide) dL_law_1103 ?_
    have hFc := va_free (wc := [(m0, .inr (10, [.ref w0, .int 0])), (w0, .inr (9, [.int 0, .int 1, .int 0, .ref r_phases, .ref r_phase, .ref r_phaseTicks, .ref r_set, .ref r_least, .ref r_greatest, .int 0, .ref r_from, .ref r_to, .ref r_time, .ref r_room, .ref r_first, .ref r_rate, .ref r_cost, .ref r_isShut, .ref r_slowed, .ref r_row, .ref r_size, .ref r_came, .ref r_left, .ref r_mostQueue, .ref r_sumQueue, .ref r_turned, .int 0, .ref r_flowFrom, .ref r_flowTo, .ref r_kind, .ref r_start, .ref r_period, .ref r_count, .int 0, .ref r_flow, .ref r_began, .ref r_state, .ref r_link, .ref r_end, .ref r_gone, .ref r_trip, .ref r_delay, .ref r_way]))]) hD hS hA [0, 1] rfl
    refine va_calli (va_runV (As := [.int (xs (0 + 1 : Int32).toNatClampNeg)]) (rest := []) ⟨hx, hb, hml, hown, hts⟩ (tm_m_costOf l hst dC dI cy m0 w0 0 r_phases r_phase r_phaseTicks r_set r_least r_greatest r_from r_to r_time r_room r_first r_rate r_cost r_isShut r_slowed r_row r_size r_came r_left r_mostQueue r_sumQueue r_turned r_flowFrom r_flowTo r_kind r_start r_period r_count r_flow r_began r_state r_link r_end r_gone r_trip r_delay r_way (xs (0 + 1 : Int32).toNatClampNeg) H.size) (tp_cwV 1 hts tw_1468 tw_1469 tw_1470 tw_48 tw_1471 rfl rfl (by decide +kernel) ⟨Nat.le_of_ble_eq_true rfl, Nat.le_of_ble_eq_true rfl⟩) ⟨tp_blind, va_recv hK hP (ci := 10) (q0 := 0) rfl rfl, fun U hU hW => ⟨rfl, tp_pay hK hP hD hE hZ hS [0, 1] (by decide) rfl hFc U hU hW⟩⟩ rfl rfl hl.1 rfl (lv_room (Nat.le_of_ble_eq_true rfl)) dL_law_1104 ⟨(Nat.le_of_ble_eq_true rfl), (Nat.le_of_ble_eq_true rfl)⟩) hS (fun q _ h => hFc q h) hFc (fun r_3 u t H1 locs ht hvm hw hB hz1 hk1 hS => ?_)
    obtain rfl := hw
    obtain ⟨f_4, hP1, hD1⟩ := hB
    subst f_4
    rw [ht] at hP1
    obtain ⟨hP, hD⟩ := va_join (wr := [(o0, .inl (cy 1, 1, .inr (.inl ((fun _ => 0)))))]) (w1 := [(m0, .inr (10, [.ref w0, .int 1]))]) hP hD [0, 1] [2] rfl rfl (by decide) (by decide) hk1 hFc hP1 hD1
    generalize H1 = H at hP hS ⊢
    have hP : va_P (dC, dI) vwCl [(o0, .inl (cy 1, 1, .inr (.inl ((fun _ => 0))))), (m0, .inr (10, [.ref w0, .int 1]))] _ := hP
    have hD : va_D A [(o0, .inl (cy 1, 1, .inr (.inl ((fun _ => 0))))), (m0, .inr (10, [.ref w0, .int 1]))] := hD
    refine lv_istore (lv' := [(6, .int 0), (5, .int 1), (0, .ref b), (1, .ref a0), (2, .ref m0), (3, .ref o0), (4, .int 0)]) hx hb dL_law_1107 hl (by decide) rfl (fun ls hl => ?_)
    refine lv_aload_n hx hb dL_law_1109 rfl (lv_at hl 4 rfl) ?_
    have hFc := va_free (wc := [(m0, .inr (10, [.ref w0, .int 1]))]) hD hS hA [1] rfl
    refine va_calli (va_runV (As := []) (rest := []) ⟨hx, hb, hml, hown, hts⟩ (tm_m_thrown l hst dC dI cy m0 w0 1 H.size) (tp_cwV 0 hts tw_1317 tw_1318 tw_1319 tw_48 tw_1320 rfl rfl (by decide +kernel) ⟨Nat.le_of_ble_eq_true rfl, Nat.le_of_ble_eq_true rfl⟩) ⟨tp_blind, va_recv hK hP (ci := 10) (q0 := 1) rfl rfl, fun U hU hW => ⟨rfl, tp_pay hK hP hD hE hZ hS [1] (by decide) rfl hFc U hU hW⟩⟩ rfl rfl hl.1 rfl (lv_room (Nat.le_of_ble_eq_true rfl)) dL_law_1110 ⟨(Nat.le_of_ble_eq_true rfl), (Nat.le_of_ble_eq_true rfl)⟩) hS (fun q _ h => hFc q h) hFc (fun r_5 u t H1 locs ht hvm hw hB hz1 hk1 hS => ?_)
    obtain rfl := hw
    obtain ⟨f_6, hP1, hD1⟩ := hB
    subst f_6
    rw [ht] at hP1
    obtain ⟨hP, hD⟩ := va_join (wr := [(o0, .inl (cy 1, 1, .inr (.inl ((fun _ => 0)))))]) (w1 := [(m0, .inr (10, [.ref w0, .int 1]))]) hP hD [1] [0] rfl rfl (by decide) (by decide) hk1 hFc hP1 hD1
    generalize H1 = H at hP hS ⊢
    have hP : va_P (dC, dI) vwCl [(o0, .inl (cy 1, 1, .inr (.inl ((fun _ => 0))))), (m0, .inr (10, [.ref w0, .int 1]))] _ := hP
    have hD : va_D A [(o0, .inl (cy 1, 1, .inr (.inl ((fun _ => 0))))), (m0, .inr (10, [.ref w0, .int 1]))] := hD
    refine lv_iload hx hb dL_law_1113 (lv_at hl 1 rfl) ?_
    refine lv_icmp_eq (tgt := 1120) hx hb dL_law_1115 (by decide) (fun _ => ?_) (fun c_7 => absurd rfl c_7)
    refine lv_iload hx hb dL_law_1120 (lv_at hl 1 rfl) ?_
    refine lv_if_ne (tgt := 1137) hx hb dL_law_1122 (by decide) (fun _ => ?_) (fun c_8 => absurd c_8 (by decide))
    refine lv_goto (tgt := 2504) hx hb dL_law_1137 (by decide) ?_
    exact tc_end hd0 hs C1 hX (Nat.le_of_ble_eq_true rfl) (Nat.le_of_ble_eq_true rfl) H _ ls hS (lv_sub hl [2, 6] rfl)
theorem tw_990 : Cond.codeWith yL_phaseOf cL_phaseOf 4 (some .int) [(0, 9, 12, 19)] ∈ tp_all := tp_mem 990 (by decide +kernel) rfl
theorem tw_988 : Cond.methodLink RL 191 yL_phaseOf ∈ tp_all := tp_mem 988 (by decide +kernel) rfl
theorem tw_989 : Cond.static yL_phaseOf ∈ tp_all := tp_mem 989 (by decide +kernel) rfl
theorem tw_1475 : Cond.code yX10_phaseOf cX10_phaseOf 2 (some .int) ∈ tp_all := tp_mem 1475 (by decide +kernel) rfl
theorem tw_1472 : Cond.methodLink RL 193 yX10_phaseOf ∈ tp_all := tp_mem 1472 (by decide +kernel) rfl
theorem tw_1473 : Cond.instanceMethod yX10_phaseOf ∈ tp_all := tp_mem 1473 (by decide +kernel) rfl
theorem tw_1474 : Cond.selects RX10 yX10_phaseOf yX10_phaseOf ∈ tp_all := tp_mem 1474 (by decide +kernel) rfl
theorem dL_law_1140 : decode cL_law 1140 = .ok (.aload_n 1, 1) := by decide +kernel
theorem dL_law_1141 : decode cL_law 1141 = .ok (.aload_n 0, 1) := by decide +kernel
theorem dL_law_1142 : decode cL_law 1142 = .ok (.iload 4, 2) := by decide +kernel
theorem dL_law_1144 : decode cL_law 1144 = .ok (.iconst 1, 1) := by decide +kernel
theorem dL_law_1145 : decode cL_law 1145 = .ok (.iadd, 1) := by decide +kernel
theorem dL_law_1146 : decode cL_law 1146 = .ok (.iaload, 1) := by decide +kernel
theorem dL_law_1147 : decode cL_law 1147 = .ok (.aload_n 3, 1) := by decide +kernel
theorem dL_law_1148 : decode cL_law 1148 = .ok (.invokestatic 191, 3) := by decide +kernel
theorem dL_law_1151 : decode cL_law 1151 = .ok (.istore 5, 2) := by decide +kernel
theorem dL_law_1153 : decode cL_law 1153 = .ok (.aload_n 2, 1) := by decide +kernel
theorem dL_law_1154 : decode cL_law 1154 = .ok (.aload_n 0, 1) := by decide +kernel
theorem dL_law_1155 : decode cL_law 1155 = .ok (.iload 4, 2) := by decide +kernel
theorem dL_law_1157 : decode cL_law 1157 = .ok (.iconst 1, 1) := by decide +kernel
theorem dL_law_1158 : decode cL_law 1158 = .ok (.iadd, 1) := by decide +kernel
theorem dL_law_1159 : decode cL_law 1159 = .ok (.iaload, 1) := by decide +kernel
theorem dL_law_1160 : decode cL_law 1160 = .ok (.invokevirtual 193, 3) := by decide +kernel
theorem dL_law_1163 : decode cL_law 1163 = .ok (.istore 6, 2) := by decide +kernel
theorem dL_law_1165 : decode cL_law 1165 = .ok (.aload_n 2, 1) := by decide +kernel
theorem dL_law_1166 : decode cL_law 1166 = .ok (.invokevirtual 133, 3) := by decide +kernel
theorem dL_law_1169 : decode cL_law 1169 = .ok (.iload 5, 2) := by decide +kernel
theorem dL_law_1171 : decode cL_law 1171 = .ok (.if_icmp .eq 5, 3) := by decide +kernel
theorem dL_law_1176 : decode cL_law 1176 = .ok (.iload 5, 2) := by decide +kernel
theorem dL_law_1178 : decode cL_law 1178 = .ok (.ifCond .ne 15, 3) := by decide +kernel
theorem dL_law_1193 : decode cL_law 1193 = .ok (.goto 1311, 3) := by decide +kernel
set_option maxRecDepth 100000 in
set_option maxHeartbeats 4000000 in
/-- the case 16 -/
theorem tc_16 {p : Program} {l : Launch} {e : Env} {s0 s : State} {m : MethodId} {below : List Frame} {meth : Method} {c : Code} {A : Nat → Prop} (hst : l.stackTraces = false) {dC : Nat → ClassId} {dI : Nat → Nat → Nat} {cy : Nat → ClassId} {b : Nat} {xs : Nat → Int32} {d0 : Drawn} (hd0 : s0.drawn.sameBut d0 lw_cs) (hs : s = s0.setDrawn d0) (C1 : tc_At p s m meth c b #[Value.ref b] A dC dI cy) (hX : va_X b 7 xs s s.heap) {a0 : Nat} {a1 : Nat} {a2 : Nat} {aT : Nat} {b1 : Nat} {b2 : Nat} {b3 : Nat} {b4 : Nat} {b5 : Nat} {b6 : Nat} {b7 : Nat} {m0 : Nat} {w0 : Nat} {o0 : Nat} {r_phases : Nat} {r_phase : Nat} {r_phaseTicks : Nat} {r_set : Nat} {r_least : Nat} {r_greatest : Nat} {r_from : Nat} {r_to : Nat} {r_time : Nat} {r_room : Nat} {r_first : Nat} {r_rate : Nat} {r_cost : Nat} {r_isShut : Nat} {r_slowed : Nat} {r_row : Nat} {r_size : Nat} {r_came : Nat} {r_left : Nat} {r_mostQueue : Nat} {r_sumQueue : Nat} {r_turned : Nat} {r_flowFrom : Nat} {r_flowTo : Nat} {r_kind : Nat} {r_start : Nat} {r_period : Nat} {r_count : Nat} {r_flow : Nat} {r_began : Nat} {r_state : Nat} {r_link : Nat} {r_end : Nat} {r_gone : Nat} {r_trip : Nat} {r_delay : Nat} {r_way : Nat} (H : Heap) (locs : List Loc) (ls : Array Slot) (hP : va_P (dC, dI) vwCl [(a0, .inr (8, [.ref a1, .ref aT])), (a1, .inr (5, [.ref a2, .ref b1, .ref b2, .ref b3, .ref b4, .ref b5, .int 0, .int 1, .int 0, .int 0, .int 0, .int 0])), (a2, .inr (2, [.ref b6, .int 0, .ref b7, .int 0])), (m0, .inr (10, [.ref w0, .int 0])), (w0, .inr (9, [.int 0, .int 1, .int 0, .ref r_phases, .ref r_phase, .ref r_phaseTicks, .ref r_set, .ref r_least, .ref r_greatest, .int 0, .ref r_from, .ref r_to, .ref r_time, .ref r_room, .ref r_first, .ref r_rate, .ref r_cost, .ref r_isShut, .ref r_slowed, .ref r_row, .ref r_size, .ref r_came, .ref r_left, .ref r_mostQueue, .ref r_sumQueue, .ref r_turned, .int 0, .ref r_flowFrom, .ref r_flowTo, .ref r_kind, .ref r_start, .ref r_period, .ref r_count, .int 0, .ref r_flow, .ref r_began, .ref r_state, .ref r_link, .ref r_end, .ref r_gone, .ref r_trip, .ref r_delay, .ref r_way])), (o0, .inl (cy 1, 1, .inr (.inl ((fun _ => 0)))))] H) (hD : va_D A [(a0, .inr (8, [.ref a1, .ref aT])), (a1, .inr (5, [.ref a2, .ref b1, .ref b2, .ref b3, .ref b4, .ref b5, .int 0, .int 1, .int 0, .int 0, .int 0, .int 0])), (a2, .inr (2, [.ref b6, .int 0, .ref b7, .int 0])), (m0, .inr (10, [.ref w0, .int 0])), (w0, .inr (9, [.int 0, .int 1, .int 0, .ref r_phases, .ref r_phase, .ref r_phaseTicks, .ref r_set, .ref r_least, .ref r_greatest, .int 0, .ref r_from, .ref r_to, .ref r_time, .ref r_room, .ref r_first, .ref r_rate, .ref r_cost, .ref r_isShut, .ref r_slowed, .ref r_row, .ref r_size, .ref r_came, .ref r_left, .ref r_mostQueue, .ref r_sumQueue, .ref r_turned, .int 0, .ref r_flowFrom, .ref r_flowTo, .ref r_kind, .ref r_start, .ref r_period, .ref r_count, .int 0, .ref r_flow, .ref r_began, .ref r_state, .ref r_link, .ref r_end, .ref r_gone, .ref r_trip, .ref r_delay, .ref r_way])), (o0, .inl (cy 1, 1, .inr (.inl ((fun _ => 0)))))]) (hS : va_S A s.heap H locs) (hl : lv_has ls 9 [(0, .ref b), (1, .ref a0), (2, .ref m0), (3, .ref o0), (4, .int 0)]) : W p l e room_1 s m #[Value.ref b] below meth c H locs 1535 31585 (lw_Z below #[Value.ref b] s0) (F0 m 1140 ls []) := by
  have C2 := C1
  obtain ⟨hx, hb, hr, hml, hown, hts, hbl, hlocks, hK, hE, hZ, hA, hbA, hA2⟩ := C2
  refine lv_aload_n hx hb dL_law_1140 rfl (lv_at hl 1 rfl) ?_
  refine lv_aload_n hx hb dL_law_1141 rfl (lv_at hl 0 rfl) ?_
  refine lv_iload hx hb dL_law_1142 (lv_at hl 4 rfl) ?_
  refine lv_iconst (v := 1) hx hb dL_law_1144 (by decide) ?_
  refine lv_iadd hx hb dL_law_1145 ?_
  refine va_sld hx hb hX hbl hbA hS (by unfold vp_in; decide) dL_law_1146 ?_
  refine lv_aload_n hx hb dL_law_1147 rfl (lv_at hl 3 rfl) ?_
  have hFc := va_free (wc := [(a0, .inr (8, [.ref a1, .ref aT])), (a1, .inr (5, [.ref a2, .ref b1, .ref b2, .ref b3, .ref b4, .ref b5, .int 0, .int 1, .int 0, .int 0, .int 0, .int 0])), (a2, .inr (2, [.ref b6, .int 0, .ref b7, .int 0])), (o0, .inl (cy 1, 1, .inr (.inl ((fun _ => 0)))))]) hD hS hA [0, 1, 2, 5] rfl
  refine vx_calli (vx_runSX (As := [.ref a0, .int (xs (0 + 1 : Int32).toNatClampNeg), .ref o0]) (rest := []) ⟨hx, hb, hml, hown, hts⟩ (tm_L_phaseOf l hst dC dI cy a0 a1 a2 aT b1 b2 b3 b4 b5 b6 b7 o0 (xs (0 + 1 : Int32).toNatClampNeg) H.size) (tp_cwSW 3 hts tw_988 tw_989 tw_37 tw_990 rfl rfl (by decide +kernel) ⟨Nat.le_of_ble_eq_true rfl, Nat.le_of_ble_eq_true rfl⟩) ⟨tp_blind, fun U hU hW => ⟨rfl, tp_pay hK hP hD hE hZ hS [0, 1, 2, 5] (by decide) rfl hFc U hU hW⟩⟩ rfl rfl hl.1 rfl (lv_room (Nat.le_of_ble_eq_true rfl)) dL_law_1148 ⟨(Nat.le_of_ble_eq_true rfl), (Nat.le_of_ble_eq_true rfl)⟩) hS (fun q _ h => hFc q h) hFc (fun q _ h => hFc q h) (fun E9 ce q9 u t H1 locs ht hvm hw hB hz1 hk1 hS hce hcv hcl => ?_) (fun r_1 u t H1 locs ht hvm hw hB hz1 hk1 hS => ?_)
  · obtain ⟨hE9, hB⟩ := hB
    exact hE9.elim
  · obtain rfl := hw
    obtain ⟨f_2, hP1, hD1⟩ := hB
    subst f_2
    rw [ht] at hP1
    obtain ⟨hP, hD⟩ := va_join (wr := [(m0, .inr (10, [.ref w0, .int 0])), (w0, .inr (9, [.int 0, .int 1, .int 0, .ref r_phases, .ref r_phase, .ref r_phaseTicks, .ref r_set, .ref r_least, .ref r_greatest, .int 0, .ref r_from, .ref r_to, .ref r_time, .ref r_room, .ref r_first, .ref r_rate, .ref r_cost, .ref r_isShut, .ref r_slowed, .ref r_row, .ref r_size, .ref r_came, .ref r_left, .ref r_mostQueue, .ref r_sumQueue, .ref r_turned, .int 0, .ref r_flowFrom, .ref r_flowTo, .ref r_kind, .ref r_start, .ref r_period, .ref r_count, .int 0, .ref r_flow, .ref r_began, .ref r_state, .ref r_link, .ref r_end, .ref r_gone, .ref r_trip, .ref r_delay, .ref r_way]))]) (w1 := [(o0, .inl (cy 1, 1, .inr (.inl ((fun _ => 0)))))]) hP hD [0, 1, 2, 5] [3, 4] rfl rfl (by decide) (by decide) hk1 hFc hP1 hD1
    generalize H1 = H at hP hS ⊢
    have hP : va_P (dC, dI) vwCl [(m0, .inr (10, [.ref w0, .int 0])), (w0, .inr (9, [.int 0, .int 1, .int 0, .ref r_phases, .ref r_phase, .ref r_phaseTicks, .ref r_set, .ref r_least, .ref r_greatest, .int 0, .ref r_from, .ref r_to, .ref r_time, .ref r_room, .ref r_first, .ref r_rate, .ref r_cost, .ref r_isShut, .ref r_slowed, .ref r_row, .ref r_size, .ref r_came, .ref r_left, .ref r_mostQueue, .ref r_sumQueue, .ref r_turned, .int 0, .ref r_flowFrom, .ref r_flowTo, .ref r_kind, .ref r_start, .ref r_period, .ref r_count, .int 0, .ref r_flow, .ref r_began, .ref r_state, .ref r_link, .ref r_end, .ref r_gone, .ref r_trip, .ref r_delay, .ref r_way])), (o0, .inl (cy 1, 1, .inr (.inl ((fun _ => 0)))))] _ := hP
    have hD : va_D A [(m0, .inr (10, [.ref w0, .int 0])), (w0, .inr (9, [.int 0, .int 1, .int 0, .ref r_phases, .ref r_phase, .ref r_phaseTicks, .ref r_set, .ref r_least, .ref r_greatest, .int 0, .ref r_from, .ref r_to, .ref r_time, .ref r_room, .ref r_first, .ref r_rate, .ref r_cost, .ref r_isShut, .ref r_slowed, .ref r_row, .ref r_size, .ref r_came, .ref r_left, .ref r_mostQueue, .ref r_sumQueue, .ref r_turned, .int 0, .ref r_flowFrom, .ref r_flowTo, .ref r_kind, .ref r_start, .ref r_period, .ref r_count, .int 0, .ref r_flow, .ref r_began, .ref r_state, .ref r_link, .ref r_end, .ref r_gone, .ref r_trip, .ref r_delay, .ref r_way])), (o0, .inl (cy 1, 1, .inr (.inl ((fun _ => 0)))))] := hD
    refine lv_istore (lv' := [(5, .int 1), (0, .ref b), (1, .ref a0), (2, .ref m0), (3, .ref o0), (4, .int 0)]) hx hb dL_law_1151 hl (by decide) rfl (fun ls hl => ?_)
    refine lv_aload_n hx hb dL_law_1153 rfl (lv_at hl 3 rfl) ?_
    refine lv_aload_n hx hb dL_law_1154 rfl (lv_at hl 1 rfl) ?_
    refine lv_iload hx hb dL_law_1155 (lv_at hl 5 rfl) ?_
    refine lv_iconst (v := 1) hx hb dL_law_1157 (by decide) ?_
    refine lv_iadd hx hb dL_law_1158 ?_
    refine va_sld hx hb hX hbl hbA hS (by unfold vp_in; decide) dL_law_1159 ?_
    have hFc := va_free (wc := [(m0, .inr (10, [.ref w0, .int 0])), (w0, .inr (9, [.int 0, .int 1, .int 0, .ref r_phases, .ref r_phase, .ref r_phaseTicks, .ref r_set, .ref r_least, .ref r_greatest, .int 0, .ref r_from, .ref r_to, .ref r_time, .ref r_room, .ref r_first, .ref r_rate, .ref r_cost, .ref r_isShut, .ref r_slowed, .ref r_row, .ref r_size, .ref r_came, .ref r_left, .ref r_mostQueue, .ref r_sumQueue, .ref r_turned, .int 0, .ref r_flowFrom, .ref r_flowTo, .ref r_kind, .ref r_start, .ref r_period, .ref r_count, .int 0, .ref r_flow, .ref r_began, .ref r_state, .ref r_link, .ref r_end, .ref r_gone, .ref r_trip, .ref r_delay, .ref r_way]))]) hD hS hA [0, 1] rfl
    refine va_calli (va_runV (As := [.int (xs (0 + 1 : Int32).toNatClampNeg)]) (rest := []) ⟨hx, hb, hml, hown, hts⟩ (tm_m_phaseOf l hst dC dI cy m0 w0 0 r_phases r_phase r_phaseTicks r_set r_least r_greatest r_from r_to r_time r_room r_first r_rate r_cost r_isShut r_slowed r_row r_size r_came r_left r_mostQueue r_sumQueue r_turned r_flowFrom r_flowTo r_kind r_start r_period r_count r_flow r_began r_state r_link r_end r_gone r_trip r_delay r_way (xs (0 + 1 : Int32).toNatClampNeg) H.size) (tp_cwV 1 hts tw_1472 tw_1473 tw_1474 tw_48 tw_1475 rfl rfl (by decide +kernel) ⟨Nat.le_of_ble_eq_true rfl, Nat.le_of_ble_eq_true rfl⟩) ⟨tp_blind, va_recv hK hP (ci := 10) (q0 := 0) rfl rfl, fun U hU hW => ⟨rfl, tp_pay hK hP hD hE hZ hS [0, 1] (by decide) rfl hFc U hU hW⟩⟩ rfl rfl hl.1 rfl (lv_room (Nat.le_of_ble_eq_true rfl)) dL_law_1160 ⟨(Nat.le_of_ble_eq_true rfl), (Nat.le_of_ble_eq_true rfl)⟩) hS (fun q _ h => hFc q h) hFc (fun r_3 u t H1 locs ht hvm hw hB hz1 hk1 hS => ?_)
    obtain rfl := hw
    obtain ⟨f_4, hP1, hD1⟩ := hB
    subst f_4
    rw [ht] at hP1
    obtain ⟨hP, hD⟩ := va_join (wr := [(o0, .inl (cy 1, 1, .inr (.inl ((fun _ => 0)))))]) (w1 := [(m0, .inr (10, [.ref w0, .int 1]))]) hP hD [0, 1] [2] rfl rfl (by decide) (by decide) hk1 hFc hP1 hD1
    generalize H1 = H at hP hS ⊢
    have hP : va_P (dC, dI) vwCl [(o0, .inl (cy 1, 1, .inr (.inl ((fun _ => 0))))), (m0, .inr (10, [.ref w0, .int 1]))] _ := hP
    have hD : va_D A [(o0, .inl (cy 1, 1, .inr (.inl ((fun _ => 0))))), (m0, .inr (10, [.ref w0, .int 1]))] := hD
    refine lv_istore (lv' := [(6, .int 0), (5, .int 1), (0, .ref b), (1, .ref a0), (2, .ref m0), (3, .ref o0), (4, .int 0)]) hx hb dL_law_1163 hl (by decide) rfl (fun ls hl => ?_)
    refine lv_aload_n hx hb dL_law_1165 rfl (lv_at hl 4 rfl) ?_
    have hFc := va_free (wc := [(m0, .inr (10, [.ref w0, .int 1]))]) hD hS hA [1] rfl
    refine va_calli (va_runV (As := []) (rest := []) ⟨hx, hb, hml, hown, hts⟩ (tm_m_thrown l hst dC dI cy m0 w0 1 H.size) (tp_cwV 0 hts tw_1317 tw_1318 tw_1319 tw_48 tw_1320 rfl rfl (by decide +kernel) ⟨Nat.le_of_ble_eq_true rfl, Nat.le_of_ble_eq_true rfl⟩) ⟨tp_blind, va_recv hK hP (ci := 10) (q0 := 1) rfl rfl, fun U hU hW => ⟨rfl, tp_pay hK hP hD hE hZ hS [1] (by decide) rfl hFc U hU hW⟩⟩ rfl rfl hl.1 rfl (lv_room (Nat.le_of_ble_eq_true rfl)) dL_law_1166 ⟨(Nat.le_of_ble_eq_true rfl), (Nat.le_of_ble_eq_true rfl)⟩) hS (fun q _ h => hFc q h) hFc (fun r_5 u t H1 locs ht hvm hw hB hz1 hk1 hS => ?_)
    obtain rfl := hw
    obtain ⟨f_6, hP1, hD1⟩ := hB
    subst f_6
    rw [ht] at hP1
    obtain ⟨hP, hD⟩ := va_join (wr := [(o0, .inl (cy 1, 1, .inr (.inl ((fun _ => 0)))))]) (w1 := [(m0, .inr (10, [.ref w0, .int 1]))]) hP hD [1] [0] rfl rfl (by decide) (by decide) hk1 hFc hP1 hD1
    generalize H1 = H at hP hS ⊢
    have hP : va_P (dC, dI) vwCl [(o0, .inl (cy 1, 1, .inr (.inl ((fun _ => 0))))), (m0, .inr (10, [.ref w0, .int 1]))] _ := hP
    have hD : va_D A [(o0, .inl (cy 1, 1, .inr (.inl ((fun _ => 0))))), (m0, .inr (10, [.ref w0, .int 1]))] := hD
    refine lv_iload hx hb dL_law_1169 (lv_at hl 1 rfl) ?_
    refine lv_icmp_eq (tgt := 1176) hx hb dL_law_1171 (by decide) (fun _ => ?_) (fun c_7 => absurd rfl c_7)
    refine lv_iload hx hb dL_law_1176 (lv_at hl 1 rfl) ?_
    refine lv_if_ne (tgt := 1193) hx hb dL_law_1178 (by decide) (fun _ => ?_) (fun c_8 => absurd c_8 (by decide))
    refine lv_goto (tgt := 2504) hx hb dL_law_1193 (by decide) ?_
    exact tc_end hd0 hs C1 hX (Nat.le_of_ble_eq_true rfl) (Nat.le_of_ble_eq_true rfl) H _ ls hS (lv_sub hl [2, 6] rfl)
theorem tw_994 : Cond.codeWith yL_phaseTicks cL_phaseTicks 4 (some .int) [(0, 9, 12, 19)] ∈ tp_all := tp_mem 994 (by decide +kernel) rfl
theorem tw_992 : Cond.methodLink RL 194 yL_phaseTicks ∈ tp_all := tp_mem 992 (by decide +kernel) rfl
theorem tw_993 : Cond.static yL_phaseTicks ∈ tp_all := tp_mem 993 (by decide +kernel) rfl
theorem tw_1479 : Cond.code yX10_phaseTicks cX10_phaseTicks 2 (some .int) ∈ tp_all := tp_mem 1479 (by decide +kernel) rfl
theorem tw_1476 : Cond.methodLink RL 196 yX10_phaseTicks ∈ tp_all := tp_mem 1476 (by decide +kernel) rfl
theorem tw_1477 : Cond.instanceMethod yX10_phaseTicks ∈ tp_all := tp_mem 1477 (by decide +kernel) rfl
theorem tw_1478 : Cond.selects RX10 yX10_phaseTicks yX10_phaseTicks ∈ tp_all := tp_mem 1478 (by decide +kernel) rfl
theorem dL_law_1196 : decode cL_law 1196 = .ok (.aload_n 1, 1) := by decide +kernel
theorem dL_law_1197 : decode cL_law 1197 = .ok (.aload_n 0, 1) := by decide +kernel
theorem dL_law_1198 : decode cL_law 1198 = .ok (.iload 4, 2) := by decide +kernel
theorem dL_law_1200 : decode cL_law 1200 = .ok (.iconst 1, 1) := by decide +kernel
theorem dL_law_1201 : decode cL_law 1201 = .ok (.iadd, 1) := by decide +kernel
theorem dL_law_1202 : decode cL_law 1202 = .ok (.iaload, 1) := by decide +kernel
theorem dL_law_1203 : decode cL_law 1203 = .ok (.aload_n 3, 1) := by decide +kernel
theorem dL_law_1204 : decode cL_law 1204 = .ok (.invokestatic 194, 3) := by decide +kernel
theorem dL_law_1207 : decode cL_law 1207 = .ok (.istore 5, 2) := by decide +kernel
theorem dL_law_1209 : decode cL_law 1209 = .ok (.aload_n 2, 1) := by decide +kernel
theorem dL_law_1210 : decode cL_law 1210 = .ok (.aload_n 0, 1) := by decide +kernel
theorem dL_law_1211 : decode cL_law 1211 = .ok (.iload 4, 2) := by decide +kernel
theorem dL_law_1213 : decode cL_law 1213 = .ok (.iconst 1, 1) := by decide +kernel
theorem dL_law_1214 : decode cL_law 1214 = .ok (.iadd, 1) := by decide +kernel
theorem dL_law_1215 : decode cL_law 1215 = .ok (.iaload, 1) := by decide +kernel
theorem dL_law_1216 : decode cL_law 1216 = .ok (.invokevirtual 196, 3) := by decide +kernel
theorem dL_law_1219 : decode cL_law 1219 = .ok (.istore 6, 2) := by decide +kernel
theorem dL_law_1221 : decode cL_law 1221 = .ok (.aload_n 2, 1) := by decide +kernel
theorem dL_law_1222 : decode cL_law 1222 = .ok (.invokevirtual 133, 3) := by decide +kernel
theorem dL_law_1225 : decode cL_law 1225 = .ok (.iload 5, 2) := by decide +kernel
theorem dL_law_1227 : decode cL_law 1227 = .ok (.if_icmp .eq 5, 3) := by decide +kernel
theorem dL_law_1232 : decode cL_law 1232 = .ok (.iload 5, 2) := by decide +kernel
theorem dL_law_1234 : decode cL_law 1234 = .ok (.ifCond .ne 15, 3) := by decide +kernel
theorem dL_law_1249 : decode cL_law 1249 = .ok (.goto 1255, 3) := by decide +kernel
set_option maxRecDepth 100000 in
set_option maxHeartbeats 4000000 in
/-- the case 17 -/
theorem tc_17 {p : Program} {l : Launch} {e : Env} {s0 s : State} {m : MethodId} {below : List Frame} {meth : Method} {c : Code} {A : Nat → Prop} (hst : l.stackTraces = false) {dC : Nat → ClassId} {dI : Nat → Nat → Nat} {cy : Nat → ClassId} {b : Nat} {xs : Nat → Int32} {d0 : Drawn} (hd0 : s0.drawn.sameBut d0 lw_cs) (hs : s = s0.setDrawn d0) (C1 : tc_At p s m meth c b #[Value.ref b] A dC dI cy) (hX : va_X b 7 xs s s.heap) {a0 : Nat} {a1 : Nat} {a2 : Nat} {aT : Nat} {b1 : Nat} {b2 : Nat} {b3 : Nat} {b4 : Nat} {b5 : Nat} {b6 : Nat} {b7 : Nat} {m0 : Nat} {w0 : Nat} {o0 : Nat} {r_phases : Nat} {r_phase : Nat} {r_phaseTicks : Nat} {r_set : Nat} {r_least : Nat} {r_greatest : Nat} {r_from : Nat} {r_to : Nat} {r_time : Nat} {r_room : Nat} {r_first : Nat} {r_rate : Nat} {r_cost : Nat} {r_isShut : Nat} {r_slowed : Nat} {r_row : Nat} {r_size : Nat} {r_came : Nat} {r_left : Nat} {r_mostQueue : Nat} {r_sumQueue : Nat} {r_turned : Nat} {r_flowFrom : Nat} {r_flowTo : Nat} {r_kind : Nat} {r_start : Nat} {r_period : Nat} {r_count : Nat} {r_flow : Nat} {r_began : Nat} {r_state : Nat} {r_link : Nat} {r_end : Nat} {r_gone : Nat} {r_trip : Nat} {r_delay : Nat} {r_way : Nat} (H : Heap) (locs : List Loc) (ls : Array Slot) (hP : va_P (dC, dI) vwCl [(a0, .inr (8, [.ref a1, .ref aT])), (a1, .inr (5, [.ref a2, .ref b1, .ref b2, .ref b3, .ref b4, .ref b5, .int 0, .int 1, .int 0, .int 0, .int 0, .int 0])), (a2, .inr (2, [.ref b6, .int 0, .ref b7, .int 0])), (m0, .inr (10, [.ref w0, .int 0])), (w0, .inr (9, [.int 0, .int 1, .int 0, .ref r_phases, .ref r_phase, .ref r_phaseTicks, .ref r_set, .ref r_least, .ref r_greatest, .int 0, .ref r_from, .ref r_to, .ref r_time, .ref r_room, .ref r_first, .ref r_rate, .ref r_cost, .ref r_isShut, .ref r_slowed, .ref r_row, .ref r_size, .ref r_came, .ref r_left, .ref r_mostQueue, .ref r_sumQueue, .ref r_turned, .int 0, .ref r_flowFrom, .ref r_flowTo, .ref r_kind, .ref r_start, .ref r_period, .ref r_count, .int 0, .ref r_flow, .ref r_began, .ref r_state, .ref r_link, .ref r_end, .ref r_gone, .ref r_trip, .ref r_delay, .ref r_way])), (o0, .inl (cy 1, 1, .inr (.inl ((fun _ => 0)))))] H) (hD : va_D A [(a0, .inr (8, [.ref a1, .ref aT])), (a1, .inr (5, [.ref a2, .ref b1, .ref b2, .ref b3, .ref b4, .ref b5, .int 0, .int 1, .int 0, .int 0, .int 0, .int 0])), (a2, .inr (2, [.ref b6, .int 0, .ref b7, .int 0])), (m0, .inr (10, [.ref w0, .int 0])), (w0, .inr (9, [.int 0, .int 1, .int 0, .ref r_phases, .ref r_phase, .ref r_phaseTicks, .ref r_set, .ref r_least, .ref r_greatest, .int 0, .ref r_from, .ref r_to, .ref r_time, .ref r_room, .ref r_first, .ref r_rate, .ref r_cost, .ref r_isShut, .ref r_slowed, .ref r_row, .ref r_size, .ref r_came, .ref r_left, .ref r_mostQueue, .ref r_sumQueue, .ref r_turned, .int 0, .ref r_flowFrom, .ref r_flowTo, .ref r_kind, .ref r_start, .ref r_period, .ref r_count, .int 0, .ref r_flow, .ref r_began, .ref r_state, .ref r_link, .ref r_end, .ref r_gone, .ref r_trip, .ref r_delay, .ref r_way])), (o0, .inl (cy 1, 1, .inr (.inl ((fun _ => 0)))))]) (hS : va_S A s.heap H locs) (hl : lv_has ls 9 [(0, .ref b), (1, .ref a0), (2, .ref m0), (3, .ref o0), (4, .int 0)]) : W p l e room_1 s m #[Value.ref b] below meth c H locs 1535 31585 (lw_Z below #[Value.ref b] s0) (F0 m 1196 ls []) := by
  have C2 := C1
  obtain ⟨hx, hb, hr, hml, hown, hts, hbl, hlocks, hK, hE, hZ, hA, hbA, hA2⟩ := C2
  refine lv_aload_n hx hb dL_law_1196 rfl (lv_at hl 1 rfl) ?_
  refine lv_aload_n hx hb dL_law_1197 rfl (lv_at hl 0 rfl) ?_
  refine lv_iload hx hb dL_law_1198 (lv_at hl 4 rfl) ?_
  refine lv_iconst (v := 1) hx hb dL_law_1200 (by decide) ?_
  refine lv_iadd hx hb dL_law_1201 ?_
  refine va_sld hx hb hX hbl hbA hS (by unfold vp_in; decide) dL_law_1202 ?_
  refine lv_aload_n hx hb dL_law_1203 rfl (lv_at hl 3 rfl) ?_
  have hFc := va_free (wc := [(a0, .inr (8, [.ref a1, .ref aT])), (a1, .inr (5, [.ref a2, .ref b1, .ref b2, .ref b3, .ref b4, .ref b5, .int 0, .int 1, .int 0, .int 0, .int 0, .int 0])), (a2, .inr (2, [.ref b6, .int 0, .ref b7, .int 0])), (o0, .inl (cy 1, 1, .inr (.inl ((fun _ => 0)))))]) hD hS hA [0, 1, 2, 5] rfl
  refine vx_calli (vx_runSX (As := [.ref a0, .int (xs (0 + 1 : Int32).toNatClampNeg), .ref o0]) (rest := []) ⟨hx, hb, hml, hown, hts⟩ (tm_L_phaseTicks l hst dC dI cy a0 a1 a2 aT b1 b2 b3 b4 b5 b6 b7 o0 (xs (0 + 1 : Int32).toNatClampNeg) H.size) (tp_cwSW 3 hts tw_992 tw_993 tw_37 tw_994 rfl rfl (by decide +kernel) ⟨Nat.le_of_ble_eq_true rfl, Nat.le_of_ble_eq_true rfl⟩) ⟨tp_blind, fun U hU hW => ⟨rfl, tp_pay hK hP hD hE hZ hS [0, 1, 2, 5] (by decide) rfl hFc U hU hW⟩⟩ rfl rfl hl.1 rfl (lv_room (Nat.le_of_ble_eq_true rfl)) dL_law_1204 ⟨(Nat.le_of_ble_eq_true rfl), (Nat.le_of_ble_eq_true rfl)⟩) hS (fun q _ h => hFc q h) hFc (fun q _ h => hFc q h) (fun E9 ce q9 u t H1 locs ht hvm hw hB hz1 hk1 hS hce hcv hcl => ?_) (fun r_1 u t H1 locs ht hvm hw hB hz1 hk1 hS => ?_)
  · obtain ⟨hE9, hB⟩ := hB
    exact hE9.elim
  · obtain rfl := hw
    obtain ⟨f_2, hP1, hD1⟩ := hB
    subst f_2
    rw [ht] at hP1
    obtain ⟨hP, hD⟩ := va_join (wr := [(m0, .inr (10, [.ref w0, .int 0])), (w0, .inr (9, [.int 0, .int 1, .int 0, .ref r_phases, .ref r_phase, .ref r_phaseTicks, .ref r_set, .ref r_least, .ref r_greatest, .int 0, .ref r_from, .ref r_to, .ref r_time, .ref r_room, .ref r_first, .ref r_rate, .ref r_cost, .ref r_isShut, .ref r_slowed, .ref r_row, .ref r_size, .ref r_came, .ref r_left, .ref r_mostQueue, .ref r_sumQueue, .ref r_turned, .int 0, .ref r_flowFrom, .ref r_flowTo, .ref r_kind, .ref r_start, .ref r_period, .ref r_count, .int 0, .ref r_flow, .ref r_began, .ref r_state, .ref r_link, .ref r_end, .ref r_gone, .ref r_trip, .ref r_delay, .ref r_way]))]) (w1 := [(o0, .inl (cy 1, 1, .inr (.inl ((fun _ => 0)))))]) hP hD [0, 1, 2, 5] [3, 4] rfl rfl (by decide) (by decide) hk1 hFc hP1 hD1
    generalize H1 = H at hP hS ⊢
    have hP : va_P (dC, dI) vwCl [(m0, .inr (10, [.ref w0, .int 0])), (w0, .inr (9, [.int 0, .int 1, .int 0, .ref r_phases, .ref r_phase, .ref r_phaseTicks, .ref r_set, .ref r_least, .ref r_greatest, .int 0, .ref r_from, .ref r_to, .ref r_time, .ref r_room, .ref r_first, .ref r_rate, .ref r_cost, .ref r_isShut, .ref r_slowed, .ref r_row, .ref r_size, .ref r_came, .ref r_left, .ref r_mostQueue, .ref r_sumQueue, .ref r_turned, .int 0, .ref r_flowFrom, .ref r_flowTo, .ref r_kind, .ref r_start, .ref r_period, .ref r_count, .int 0, .ref r_flow, .ref r_began, .ref r_state, .ref r_link, .ref r_end, .ref r_gone, .ref r_trip, .ref r_delay, .ref r_way])), (o0, .inl (cy 1, 1, .inr (.inl ((fun _ => 0)))))] _ := hP
    have hD : va_D A [(m0, .inr (10, [.ref w0, .int 0])), (w0, .inr (9, [.int 0, .int 1, .int 0, .ref r_phases, .ref r_phase, .ref r_phaseTicks, .ref r_set, .ref r_least, .ref r_greatest, .int 0, .ref r_from, .ref r_to, .ref r_time, .ref r_room, .ref r_first, .ref r_rate, .ref r_cost, .ref r_isShut, .ref r_slowed, .ref r_row, .ref r_size, .ref r_came, .ref r_left, .ref r_mostQueue, .ref r_sumQueue, .ref r_turned, .int 0, .ref r_flowFrom, .ref r_flowTo, .ref r_kind, .ref r_start, .ref r_period, .ref r_count, .int 0, .ref r_flow, .ref r_began, .ref r_state, .ref r_link, .ref r_end, .ref r_gone, .ref r_trip, .ref r_delay, .ref r_way])), (o0, .inl (cy 1, 1, .inr (.inl ((fun _ => 0)))))] := hD
    refine lv_istore (lv' := [(5, .int 1), (0, .ref b), (1, .ref a0), (2, .ref m0), (3, .ref o0), (4, .int 0)]) hx hb dL_law_1207 hl (by decide) rfl (fun ls hl => ?_)
    refine lv_aload_n hx hb dL_law_1209 rfl (lv_at hl 3 rfl) ?_
    refine lv_aload_n hx hb dL_law_1210 rfl (lv_at hl 1 rfl) ?_
    refine lv_iload hx hb dL_law_1211 (lv_at hl 5 rfl) ?_
    refine lv_iconst (v := 1) hx hb dL_law_1213 (by decide) ?_
    refine lv_iadd hx hb dL_law_1214 ?_
    refine va_sld hx hb hX hbl hbA hS (by unfold vp_in; decide) dL_law_1215 ?_
    have hFc := va_free (wc := [(m0, .inr (10, [.ref w0, .int 0])), (w0, .inr (9, [.int 0, .int 1, .int 0, .ref r_phases, .ref r_phase, .ref r_phaseTicks, .ref r_set, .ref r_least, .ref r_greatest, .int 0, .ref r_from, .ref r_to, .ref r_time, .ref r_room, .ref r_first, .ref r_rate, .ref r_cost, .ref r_isShut, .ref r_slowed, .ref r_row, .ref r_size, .ref r_came, .ref r_left, .ref r_mostQueue, .ref r_sumQueue, .ref r_turned, .int 0, .ref r_flowFrom, .ref r_flowTo, .ref r_kind, .ref r_start, .ref r_period, .ref r_count, .int 0, .ref r_flow, .ref r_began, .ref r_state, .ref r_link, .ref r_end, .ref r_gone, .ref r_trip, .ref r_delay, .ref r_way]))]) hD hS hA [0, 1] rfl
    refine va_calli (va_runV (As := [.int (xs (0 + 1 : Int32).toNatClampNeg)]) (rest := []) ⟨hx, hb, hml, hown, hts⟩ (tm_m_phaseTicks l hst dC dI cy m0 w0 0 r_phases r_phase r_phaseTicks r_set r_least r_greatest r_from r_to r_time r_room r_first r_rate r_cost r_isShut r_slowed r_row r_size r_came r_left r_mostQueue r_sumQueue r_turned r_flowFrom r_flowTo r_kind r_start r_period r_count r_flow r_began r_state r_link r_end r_gone r_trip r_delay r_way (xs (0 + 1 : Int32).toNatClampNeg) H.size) (tp_cwV 1 hts tw_1476 tw_1477 tw_1478 tw_48 tw_1479 rfl rfl (by decide +kernel) ⟨Nat.le_of_ble_eq_true rfl, Nat.le_of_ble_eq_true rfl⟩) ⟨tp_blind, va_recv hK hP (ci := 10) (q0 := 0) rfl rfl, fun U hU hW => ⟨rfl, tp_pay hK hP hD hE hZ hS [0, 1] (by decide) rfl hFc U hU hW⟩⟩ rfl rfl hl.1 rfl (lv_room (Nat.le_of_ble_eq_true rfl)) dL_law_1216 ⟨(Nat.le_of_ble_eq_true rfl), (Nat.le_of_ble_eq_true rfl)⟩) hS (fun q _ h => hFc q h) hFc (fun r_3 u t H1 locs ht hvm hw hB hz1 hk1 hS => ?_)
    obtain rfl := hw
    obtain ⟨f_4, hP1, hD1⟩ := hB
    subst f_4
    rw [ht] at hP1
    obtain ⟨hP, hD⟩ := va_join (wr := [(o0, .inl (cy 1, 1, .inr (.inl ((fun _ => 0)))))]) (w1 := [(m0, .inr (10, [.ref w0, .int 1]))]) hP hD [0, 1] [2] rfl rfl (by decide) (by decide) hk1 hFc hP1 hD1
    generalize H1 = H at hP hS ⊢
    have hP : va_P (dC, dI) vwCl [(o0, .inl (cy 1, 1, .inr (.inl ((fun _ => 0))))), (m0, .inr (10, [.ref w0, .int 1]))] _ := hP
    have hD : va_D A [(o0, .inl (cy 1, 1, .inr (.inl ((fun _ => 0))))), (m0, .inr (10, [.ref w0, .int 1]))] := hD
    refine lv_istore (lv' := [(6, .int 0), (5, .int 1), (0, .ref b), (1, .ref a0), (2, .ref m0), (3, .ref o0), (4, .int 0)]) hx hb dL_law_1219 hl (by decide) rfl (fun ls hl => ?_)
    refine lv_aload_n hx hb dL_law_1221 rfl (lv_at hl 4 rfl) ?_
    have hFc := va_free (wc := [(m0, .inr (10, [.ref w0, .int 1]))]) hD hS hA [1] rfl
    refine va_calli (va_runV (As := []) (rest := []) ⟨hx, hb, hml, hown, hts⟩ (tm_m_thrown l hst dC dI cy m0 w0 1 H.size) (tp_cwV 0 hts tw_1317 tw_1318 tw_1319 tw_48 tw_1320 rfl rfl (by decide +kernel) ⟨Nat.le_of_ble_eq_true rfl, Nat.le_of_ble_eq_true rfl⟩) ⟨tp_blind, va_recv hK hP (ci := 10) (q0 := 1) rfl rfl, fun U hU hW => ⟨rfl, tp_pay hK hP hD hE hZ hS [1] (by decide) rfl hFc U hU hW⟩⟩ rfl rfl hl.1 rfl (lv_room (Nat.le_of_ble_eq_true rfl)) dL_law_1222 ⟨(Nat.le_of_ble_eq_true rfl), (Nat.le_of_ble_eq_true rfl)⟩) hS (fun q _ h => hFc q h) hFc (fun r_5 u t H1 locs ht hvm hw hB hz1 hk1 hS => ?_)
    obtain rfl := hw
    obtain ⟨f_6, hP1, hD1⟩ := hB
    subst f_6
    rw [ht] at hP1
    obtain ⟨hP, hD⟩ := va_join (wr := [(o0, .inl (cy 1, 1, .inr (.inl ((fun _ => 0)))))]) (w1 := [(m0, .inr (10, [.ref w0, .int 1]))]) hP hD [1] [0] rfl rfl (by decide) (by decide) hk1 hFc hP1 hD1
    generalize H1 = H at hP hS ⊢
    have hP : va_P (dC, dI) vwCl [(o0, .inl (cy 1, 1, .inr (.inl ((fun _ => 0))))), (m0, .inr (10, [.ref w0, .int 1]))] _ := hP
    have hD : va_D A [(o0, .inl (cy 1, 1, .inr (.inl ((fun _ => 0))))), (m0, .inr (10, [.ref w0, .int 1]))] := hD
    refine lv_iload hx hb dL_law_1225 (lv_at hl 1 rfl) ?_
    refine lv_icmp_eq (tgt := 1232) hx hb dL_law_1227 (by decide) (fun _ => ?_) (fun c_7 => absurd rfl c_7)
    refine lv_iload hx hb dL_law_1232 (lv_at hl 1 rfl) ?_
    refine lv_if_ne (tgt := 1249) hx hb dL_law_1234 (by decide) (fun _ => ?_) (fun c_8 => absurd c_8 (by decide))
    refine lv_goto (tgt := 2504) hx hb dL_law_1249 (by decide) ?_
    exact tc_end hd0 hs C1 hX (Nat.le_of_ble_eq_true rfl) (Nat.le_of_ble_eq_true rfl) H _ ls hS (lv_sub hl [2, 6] rfl)
theorem tw_998 : Cond.codeWith yL_distance cL_distance 5 (some .int) [(0, 10, 13, 19)] ∈ tp_all := tp_mem 998 (by decide +kernel) rfl
theorem tw_996 : Cond.methodLink RL 197 yL_distance ∈ tp_all := tp_mem 996 (by decide +kernel) rfl
theorem tw_997 : Cond.static yL_distance ∈ tp_all := tp_mem 997 (by decide +kernel) rfl
theorem tw_1483 : Cond.code yX10_distance cX10_distance 3 (some .int) ∈ tp_all := tp_mem 1483 (by decide +kernel) rfl
theorem tw_1480 : Cond.methodLink RL 200 yX10_distance ∈ tp_all := tp_mem 1480 (by decide +kernel) rfl
theorem tw_1481 : Cond.instanceMethod yX10_distance ∈ tp_all := tp_mem 1481 (by decide +kernel) rfl
theorem tw_1482 : Cond.selects RX10 yX10_distance yX10_distance ∈ tp_all := tp_mem 1482 (by decide +kernel) rfl
theorem dL_law_1252 : decode cL_law 1252 = .ok (.aload_n 1, 1) := by decide +kernel
theorem dL_law_1253 : decode cL_law 1253 = .ok (.aload_n 0, 1) := by decide +kernel
theorem dL_law_1254 : decode cL_law 1254 = .ok (.iload 4, 2) := by decide +kernel
theorem dL_law_1256 : decode cL_law 1256 = .ok (.iconst 1, 1) := by decide +kernel
theorem dL_law_1257 : decode cL_law 1257 = .ok (.iadd, 1) := by decide +kernel
theorem dL_law_1258 : decode cL_law 1258 = .ok (.iaload, 1) := by decide +kernel
theorem dL_law_1259 : decode cL_law 1259 = .ok (.aload_n 0, 1) := by decide +kernel
theorem dL_law_1260 : decode cL_law 1260 = .ok (.iload 4, 2) := by decide +kernel
theorem dL_law_1262 : decode cL_law 1262 = .ok (.iconst 2, 1) := by decide +kernel
theorem dL_law_1263 : decode cL_law 1263 = .ok (.iadd, 1) := by decide +kernel
theorem dL_law_1264 : decode cL_law 1264 = .ok (.iaload, 1) := by decide +kernel
theorem dL_law_1265 : decode cL_law 1265 = .ok (.aload_n 3, 1) := by decide +kernel
theorem dL_law_1266 : decode cL_law 1266 = .ok (.invokestatic 197, 3) := by decide +kernel
theorem dL_law_1269 : decode cL_law 1269 = .ok (.istore 5, 2) := by decide +kernel
theorem dL_law_1271 : decode cL_law 1271 = .ok (.aload_n 2, 1) := by decide +kernel
theorem dL_law_1272 : decode cL_law 1272 = .ok (.aload_n 0, 1) := by decide +kernel
theorem dL_law_1273 : decode cL_law 1273 = .ok (.iload 4, 2) := by decide +kernel
theorem dL_law_1275 : decode cL_law 1275 = .ok (.iconst 1, 1) := by decide +kernel
theorem dL_law_1276 : decode cL_law 1276 = .ok (.iadd, 1) := by decide +kernel
theorem dL_law_1277 : decode cL_law 1277 = .ok (.iaload, 1) := by decide +kernel
theorem dL_law_1278 : decode cL_law 1278 = .ok (.aload_n 0, 1) := by decide +kernel
theorem dL_law_1279 : decode cL_law 1279 = .ok (.iload 4, 2) := by decide +kernel
theorem dL_law_1281 : decode cL_law 1281 = .ok (.iconst 2, 1) := by decide +kernel
theorem dL_law_1282 : decode cL_law 1282 = .ok (.iadd, 1) := by decide +kernel
theorem dL_law_1283 : decode cL_law 1283 = .ok (.iaload, 1) := by decide +kernel
theorem dL_law_1284 : decode cL_law 1284 = .ok (.invokevirtual 200, 3) := by decide +kernel
theorem dL_law_1287 : decode cL_law 1287 = .ok (.istore 6, 2) := by decide +kernel
theorem dL_law_1289 : decode cL_law 1289 = .ok (.aload_n 2, 1) := by decide +kernel
theorem dL_law_1290 : decode cL_law 1290 = .ok (.invokevirtual 133, 3) := by decide +kernel
theorem dL_law_1293 : decode cL_law 1293 = .ok (.iload 5, 2) := by decide +kernel
theorem dL_law_1295 : decode cL_law 1295 = .ok (.if_icmp .eq 5, 3) := by decide +kernel
theorem dL_law_1300 : decode cL_law 1300 = .ok (.iload 5, 2) := by decide +kernel
theorem dL_law_1302 : decode cL_law 1302 = .ok (.ifCond .ne 15, 3) := by decide +kernel
theorem dL_law_1317 : decode cL_law 1317 = .ok (.goto 1187, 3) := by decide +kernel
set_option maxRecDepth 100000 in
set_option maxHeartbeats 4000000 in
/-- the case 18 -/
theorem tc_18 {p : Program} {l : Launch} {e : Env} {s0 s : State} {m : MethodId} {below : List Frame} {meth : Method} {c : Code} {A : Nat → Prop} (hst : l.stackTraces = false) {dC : Nat → ClassId} {dI : Nat → Nat → Nat} {cy : Nat → ClassId} {b : Nat} {xs : Nat → Int32} {d0 : Drawn} (hd0 : s0.drawn.sameBut d0 lw_cs) (hs : s = s0.setDrawn d0) (C1 : tc_At p s m meth c b #[Value.ref b] A dC dI cy) (hX : va_X b 7 xs s s.heap) {a0 : Nat} {a1 : Nat} {a2 : Nat} {aT : Nat} {b1 : Nat} {b2 : Nat} {b3 : Nat} {b4 : Nat} {b5 : Nat} {b6 : Nat} {b7 : Nat} {m0 : Nat} {w0 : Nat} {o0 : Nat} {r_phases : Nat} {r_phase : Nat} {r_phaseTicks : Nat} {r_set : Nat} {r_least : Nat} {r_greatest : Nat} {r_from : Nat} {r_to : Nat} {r_time : Nat} {r_room : Nat} {r_first : Nat} {r_rate : Nat} {r_cost : Nat} {r_isShut : Nat} {r_slowed : Nat} {r_row : Nat} {r_size : Nat} {r_came : Nat} {r_left : Nat} {r_mostQueue : Nat} {r_sumQueue : Nat} {r_turned : Nat} {r_flowFrom : Nat} {r_flowTo : Nat} {r_kind : Nat} {r_start : Nat} {r_period : Nat} {r_count : Nat} {r_flow : Nat} {r_began : Nat} {r_state : Nat} {r_link : Nat} {r_end : Nat} {r_gone : Nat} {r_trip : Nat} {r_delay : Nat} {r_way : Nat} (H : Heap) (locs : List Loc) (ls : Array Slot) (hP : va_P (dC, dI) vwCl [(a0, .inr (8, [.ref a1, .ref aT])), (a1, .inr (5, [.ref a2, .ref b1, .ref b2, .ref b3, .ref b4, .ref b5, .int 0, .int 1, .int 0, .int 0, .int 0, .int 0])), (a2, .inr (2, [.ref b6, .int 0, .ref b7, .int 0])), (m0, .inr (10, [.ref w0, .int 0])), (w0, .inr (9, [.int 0, .int 1, .int 0, .ref r_phases, .ref r_phase, .ref r_phaseTicks, .ref r_set, .ref r_least, .ref r_greatest, .int 0, .ref r_from, .ref r_to, .ref r_time, .ref r_room, .ref r_first, .ref r_rate, .ref r_cost, .ref r_isShut, .ref r_slowed, .ref r_row, .ref r_size, .ref r_came, .ref r_left, .ref r_mostQueue, .ref r_sumQueue, .ref r_turned, .int 0, .ref r_flowFrom, .ref r_flowTo, .ref r_kind, .ref r_start, .ref r_period, .ref r_count, .int 0, .ref r_flow, .ref r_began, .ref r_state, .ref r_link, .ref r_end, .ref r_gone, .ref r_trip, .ref r_delay, .ref r_way])), (o0, .inl (cy 1, 1, .inr (.inl ((fun _ => 0)))))] H) (hD : va_D A [(a0, .inr (8, [.ref a1, .ref aT])), (a1, .inr (5, [.ref a2, .ref b1, .ref b2, .ref b3, .ref b4, .ref b5, .int 0, .int 1, .int 0, .int 0, .int 0, .int 0])), (a2, .inr (2, [.ref b6, .int 0, .ref b7, .int 0])), (m0, .inr (10, [.ref w0, .int 0])), (w0, .inr (9, [.int 0, .int 1, .int 0, .ref r_phases, .ref r_phase, .ref r_phaseTicks, .ref r_set, .ref r_least, .ref r_greatest, .int 0, .ref r_from, .ref r_to, .ref r_time, .ref r_room, .ref r_first, .ref r_rate, .ref r_cost, .ref r_isShut, .ref r_slowed, .ref r_row, .ref r_size, .ref r_came, .ref r_left, .ref r_mostQueue, .ref r_sumQueue, .ref r_turned, .int 0, .ref r_flowFrom, .ref r_flowTo, .ref r_kind, .ref r_start, .ref r_period, .ref r_count, .int 0, .ref r_flow, .ref r_began, .ref r_state, .ref r_link, .ref r_end, .ref r_gone, .ref r_trip, .ref r_delay, .ref r_way])), (o0, .inl (cy 1, 1, .inr (.inl ((fun _ => 0)))))]) (hS : va_S A s.heap H locs) (hl : lv_has ls 9 [(0, .ref b), (1, .ref a0), (2, .ref m0), (3, .ref o0), (4, .int 0)]) : W p l e room_1 s m #[Value.ref b] below meth c H locs 1535 31585 (lw_Z below #[Value.ref b] s0) (F0 m 1252 ls []) := by
  have C2 := C1
  obtain ⟨hx, hb, hr, hml, hown, hts, hbl, hlocks, hK, hE, hZ, hA, hbA, hA2⟩ := C2
  refine lv_aload_n hx hb dL_law_1252 rfl (lv_at hl 1 rfl) ?_
  refine lv_aload_n hx hb dL_law_1253 rfl (lv_at hl 0 rfl) ?_
  refine lv_iload hx hb dL_law_1254 (lv_at hl 4 rfl) ?_
  refine lv_iconst (v := 1) hx hb dL_law_1256 (by decide) ?_
  refine lv_iadd hx hb dL_law_1257 ?_
  refine va_sld hx hb hX hbl hbA hS (by unfold vp_in; decide) dL_law_1258 ?_
  refine lv_aload_n hx hb dL_law_1259 rfl (lv_at hl 0 rfl) ?_
  refine lv_iload hx hb dL_law_1260 (lv_at hl 4 rfl) ?_
  refine lv_iconst (v := 2) hx hb dL_law_1262 (by decide) ?_
  refine lv_iadd hx hb dL_law_1263 ?_
  refine va_sld hx hb hX hbl hbA hS (by unfold vp_in; decide) dL_law_1264 ?_
  refine lv_aload_n hx hb dL_law_1265 rfl (lv_at hl 3 rfl) ?_
  have hFc := va_free (wc := [(a0, .inr (8, [.ref a1, .ref aT])), (a1, .inr (5, [.ref a2, .ref b1, .ref b2, .ref b3, .ref b4, .ref b5, .int 0, .int 1, .int 0, .int 0, .int 0, .int 0])), (a2, .inr (2, [.ref b6, .int 0, .ref b7, .int 0])), (o0, .inl (cy 1, 1, .inr (.inl ((fun _ => 0)))))]) hD hS hA [0, 1, 2, 5] rfl
  refine vx_calli (vx_runSX (As := [.ref a0, .int (xs (0 + 1 : Int32).toNatClampNeg), .int (xs (0 + 2 : Int32).toNatClampNeg), .ref o0]) (rest := []) ⟨hx, hb, hml, hown, hts⟩ (tm_L_distance l hst dC dI cy a0 a1 a2 aT b1 b2 b3 b4 b5 b6 b7 o0 (xs (0 + 1 : Int32).toNatClampNeg) (xs (0 + 2 : Int32).toNatClampNeg) H.size) (tp_cwSW 4 hts tw_996 tw_997 tw_37 tw_998 rfl rfl (by decide +kernel) ⟨Nat.le_of_ble_eq_true rfl, Nat.le_of_ble_eq_true rfl⟩) ⟨tp_blind, fun U hU hW => ⟨rfl, tp_pay hK hP hD hE hZ hS [0, 1, 2, 5] (by decide) rfl hFc U hU hW⟩⟩ rfl rfl hl.1 rfl (lv_room (Nat.le_of_ble_eq_true rfl)) dL_law_1266 ⟨(Nat.le_of_ble_eq_true rfl), (Nat.le_of_ble_eq_true rfl)⟩) hS (fun q _ h => hFc q h) hFc (fun q _ h => hFc q h) (fun E9 ce q9 u t H1 locs ht hvm hw hB hz1 hk1 hS hce hcv hcl => ?_) (fun r_1 u t H1 locs ht hvm hw hB hz1 hk1 hS => ?_)
  · obtain ⟨hE9, hB⟩ := hB
    exact hE9.elim
  · obtain rfl := hw
    obtain ⟨f_2, hP1, hD1⟩ := hB
    subst f_2
    rw [ht] at hP1
    obtain ⟨hP, hD⟩ := va_join (wr := [(m0, .inr (10, [.ref w0, .int 0])), (w0, .inr (9, [.int 0, .int 1, .int 0, .ref r_phases, .ref r_phase, .ref r_phaseTicks, .ref r_set, .ref r_least, .ref r_greatest, .int 0, .ref r_from, .ref r_to, .ref r_time, .ref r_room, .ref r_first, .ref r_rate, .ref r_cost, .ref r_isShut, .ref r_slowed, .ref r_row, .ref r_size, .ref r_came, .ref r_left, .ref r_mostQueue, .ref r_sumQueue, .ref r_turned, .int 0, .ref r_flowFrom, .ref r_flowTo, .ref r_kind, .ref r_start, .ref r_period, .ref r_count, .int 0, .ref r_flow, .ref r_began, .ref r_state, .ref r_link, .ref r_end, .ref r_gone, .ref r_trip, .ref r_delay, .ref r_way]))]) (w1 := [(o0, .inl (cy 1, 1, .inr (.inl ((fun _ => 0)))))]) hP hD [0, 1, 2, 5] [3, 4] rfl rfl (by decide) (by decide) hk1 hFc hP1 hD1
    generalize H1 = H at hP hS ⊢
    have hP : va_P (dC, dI) vwCl [(m0, .inr (10, [.ref w0, .int 0])), (w0, .inr (9, [.int 0, .int 1, .int 0, .ref r_phases, .ref r_phase, .ref r_phaseTicks, .ref r_set, .ref r_least, .ref r_greatest, .int 0, .ref r_from, .ref r_to, .ref r_time, .ref r_room, .ref r_first, .ref r_rate, .ref r_cost, .ref r_isShut, .ref r_slowed, .ref r_row, .ref r_size, .ref r_came, .ref r_left, .ref r_mostQueue, .ref r_sumQueue, .ref r_turned, .int 0, .ref r_flowFrom, .ref r_flowTo, .ref r_kind, .ref r_start, .ref r_period, .ref r_count, .int 0, .ref r_flow, .ref r_began, .ref r_state, .ref r_link, .ref r_end, .ref r_gone, .ref r_trip, .ref r_delay, .ref r_way])), (o0, .inl (cy 1, 1, .inr (.inl ((fun _ => 0)))))] _ := hP
    have hD : va_D A [(m0, .inr (10, [.ref w0, .int 0])), (w0, .inr (9, [.int 0, .int 1, .int 0, .ref r_phases, .ref r_phase, .ref r_phaseTicks, .ref r_set, .ref r_least, .ref r_greatest, .int 0, .ref r_from, .ref r_to, .ref r_time, .ref r_room, .ref r_first, .ref r_rate, .ref r_cost, .ref r_isShut, .ref r_slowed, .ref r_row, .ref r_size, .ref r_came, .ref r_left, .ref r_mostQueue, .ref r_sumQueue, .ref r_turned, .int 0, .ref r_flowFrom, .ref r_flowTo, .ref r_kind, .ref r_start, .ref r_period, .ref r_count, .int 0, .ref r_flow, .ref r_began, .ref r_state, .ref r_link, .ref r_end, .ref r_gone, .ref r_trip, .ref r_delay, .ref r_way])), (o0, .inl (cy 1, 1, .inr (.inl ((fun _ => 0)))))] := hD
    refine lv_istore (lv' := [(5, .int 1), (0, .ref b), (1, .ref a0), (2, .ref m0), (3, .ref o0), (4, .int 0)]) hx hb dL_law_1269 hl (by decide) rfl (fun ls hl => ?_)
    refine lv_aload_n hx hb dL_law_1271 rfl (lv_at hl 3 rfl) ?_
    refine lv_aload_n hx hb dL_law_1272 rfl (lv_at hl 1 rfl) ?_
    refine lv_iload hx hb dL_law_1273 (lv_at hl 5 rfl) ?_
    refine lv_iconst (v := 1) hx hb dL_law_1275 (by decide) ?_
    refine lv_iadd hx hb dL_law_1276 ?_
    refine va_sld hx hb hX hbl hbA hS (by unfold vp_in; decide) dL_law_1277 ?_
    refine lv_aload_n hx hb dL_law_1278 rfl (lv_at hl 1 rfl) ?_
    refine lv_iload hx hb dL_law_1279 (lv_at hl 5 rfl) ?_
    refine lv_iconst (v := 2) hx hb dL_law_1281 (by decide) ?_
    refine lv_iadd hx hb dL_law_1282 ?_
    refine va_sld hx hb hX hbl hbA hS (by unfold vp_in; decide) dL_law_1283 ?_
    have hFc := va_free (wc := [(m0, .inr (10, [.ref w0, .int 0])), (w0, .inr (9, [.int 0, .int 1, .int 0, .ref r_phases, .ref r_phase, .ref r_phaseTicks, .ref r_set, .ref r_least, .ref r_greatest, .int 0, .ref r_from, .ref r_to, .ref r_time, .ref r_room, .ref r_first, .ref r_rate, .ref r_cost, .ref r_isShut, .ref r_slowed, .ref r_row, .ref r_size, .ref r_came, .ref r_left, .ref r_mostQueue, .ref r_sumQueue, .ref r_turned, .int 0, .ref r_flowFrom, .ref r_flowTo, .ref r_kind, .ref r_start, .ref r_period, .ref r_count, .int 0, .ref r_flow, .ref r_began, .ref r_state, .ref r_link, .ref r_end, .ref r_gone, .ref r_trip, .ref r_delay, .ref r_way]))]) hD hS hA [0, 1] rfl
    refine va_calli (va_runV (As := [.int (xs (0 + 1 : Int32).toNatClampNeg), .int (xs (0 + 2 : Int32).toNatClampNeg)]) (rest := []) ⟨hx, hb, hml, hown, hts⟩ (tm_m_distance l hst dC dI cy m0 w0 0 r_phases r_phase r_phaseTicks r_set r_least r_greatest r_from r_to r_time r_room r_first r_rate r_cost r_isShut r_slowed r_row r_size r_came r_left r_mostQueue r_sumQueue r_turned r_flowFrom r_flowTo r_kind r_start r_period r_count r_flow r_began r_state r_link r_end r_gone r_trip r_delay r_way (xs (0 + 1 : Int32).toNatClampNeg) (xs (0 + 2 : Int32).toNatClampNeg) H.size) (tp_cwV 2 hts tw_1480 tw_1481 tw_1482 tw_48 tw_1483 rfl rfl (by decide +kernel) ⟨Nat.le_of_ble_eq_true rfl, Nat.le_of_ble_eq_true rfl⟩) ⟨tp_blind, va_recv hK hP (ci := 10) (q0 := 0) rfl rfl, fun U hU hW => ⟨rfl, tp_pay hK hP hD hE hZ hS [0, 1] (by decide) rfl hFc U hU hW⟩⟩ rfl rfl hl.1 rfl (lv_room (Nat.le_of_ble_eq_true rfl)) dL_law_1284 ⟨(Nat.le_of_ble_eq_true rfl), (Nat.le_of_ble_eq_true rfl)⟩) hS (fun q _ h => hFc q h) hFc (fun r_3 u t H1 locs ht hvm hw hB hz1 hk1 hS => ?_)
    obtain rfl := hw
    obtain ⟨f_4, hP1, hD1⟩ := hB
    subst f_4
    rw [ht] at hP1
    obtain ⟨hP, hD⟩ := va_join (wr := [(o0, .inl (cy 1, 1, .inr (.inl ((fun _ => 0)))))]) (w1 := [(m0, .inr (10, [.ref w0, .int 1]))]) hP hD [0, 1] [2] rfl rfl (by decide) (by decide) hk1 hFc hP1 hD1
    generalize H1 = H at hP hS ⊢
    have hP : va_P (dC, dI) vwCl [(o0, .inl (cy 1, 1, .inr (.inl ((fun _ => 0))))), (m0, .inr (10, [.ref w0, .int 1]))] _ := hP
    have hD : va_D A [(o0, .inl (cy 1, 1, .inr (.inl ((fun _ => 0))))), (m0, .inr (10, [.ref w0, .int 1]))] := hD
    refine lv_istore (lv' := [(6, .int 0), (5, .int 1), (0, .ref b), (1, .ref a0), (2, .ref m0), (3, .ref o0), (4, .int 0)]) hx hb dL_law_1287 hl (by decide) rfl (fun ls hl => ?_)
    refine lv_aload_n hx hb dL_law_1289 rfl (lv_at hl 4 rfl) ?_
    have hFc := va_free (wc := [(m0, .inr (10, [.ref w0, .int 1]))]) hD hS hA [1] rfl
    refine va_calli (va_runV (As := []) (rest := []) ⟨hx, hb, hml, hown, hts⟩ (tm_m_thrown l hst dC dI cy m0 w0 1 H.size) (tp_cwV 0 hts tw_1317 tw_1318 tw_1319 tw_48 tw_1320 rfl rfl (by decide +kernel) ⟨Nat.le_of_ble_eq_true rfl, Nat.le_of_ble_eq_true rfl⟩) ⟨tp_blind, va_recv hK hP (ci := 10) (q0 := 1) rfl rfl, fun U hU hW => ⟨rfl, tp_pay hK hP hD hE hZ hS [1] (by decide) rfl hFc U hU hW⟩⟩ rfl rfl hl.1 rfl (lv_room (Nat.le_of_ble_eq_true rfl)) dL_law_1290 ⟨(Nat.le_of_ble_eq_true rfl), (Nat.le_of_ble_eq_true rfl)⟩) hS (fun q _ h => hFc q h) hFc (fun r_5 u t H1 locs ht hvm hw hB hz1 hk1 hS => ?_)
    obtain rfl := hw
    obtain ⟨f_6, hP1, hD1⟩ := hB
    subst f_6
    rw [ht] at hP1
    obtain ⟨hP, hD⟩ := va_join (wr := [(o0, .inl (cy 1, 1, .inr (.inl ((fun _ => 0)))))]) (w1 := [(m0, .inr (10, [.ref w0, .int 1]))]) hP hD [1] [0] rfl rfl (by decide) (by decide) hk1 hFc hP1 hD1
    generalize H1 = H at hP hS ⊢
    have hP : va_P (dC, dI) vwCl [(o0, .inl (cy 1, 1, .inr (.inl ((fun _ => 0))))), (m0, .inr (10, [.ref w0, .int 1]))] _ := hP
    have hD : va_D A [(o0, .inl (cy 1, 1, .inr (.inl ((fun _ => 0))))), (m0, .inr (10, [.ref w0, .int 1]))] := hD
    refine lv_iload hx hb dL_law_1293 (lv_at hl 1 rfl) ?_
    refine lv_icmp_eq (tgt := 1300) hx hb dL_law_1295 (by decide) (fun _ => ?_) (fun c_7 => absurd rfl c_7)
    refine lv_iload hx hb dL_law_1300 (lv_at hl 1 rfl) ?_
    refine lv_if_ne (tgt := 1317) hx hb dL_law_1302 (by decide) (fun _ => ?_) (fun c_8 => absurd c_8 (by decide))
    refine lv_goto (tgt := 2504) hx hb dL_law_1317 (by decide) ?_
    exact tc_end hd0 hs C1 hX (Nat.le_of_ble_eq_true rfl) (Nat.le_of_ble_eq_true rfl) H _ ls hS (lv_sub hl [2, 6] rfl)
theorem tw_1002 : Cond.codeWith yL_nextLink cL_nextLink 5 (some .int) [(0, 10, 13, 19)] ∈ tp_all := tp_mem 1002 (by decide +kernel) rfl
theorem tw_1000 : Cond.methodLink RL 201 yL_nextLink ∈ tp_all := tp_mem 1000 (by decide +kernel) rfl
theorem tw_1001 : Cond.static yL_nextLink ∈ tp_all := tp_mem 1001 (by decide +kernel) rfl
theorem tw_1493 : Cond.code yX10_nextLink cX10_nextLink 3 (some .int) ∈ tp_all := tp_mem 1493 (by decide +kernel) rfl
theorem tw_1490 : Cond.methodLink RL 203 yX10_nextLink ∈ tp_all := tp_mem 1490 (by decide +kernel) rfl
theorem tw_1491 : Cond.instanceMethod yX10_nextLink ∈ tp_all := tp_mem 1491 (by decide +kernel) rfl
theorem tw_1492 : Cond.selects RX10 yX10_nextLink yX10_nextLink ∈ tp_all := tp_mem 1492 (by decide +kernel) rfl
theorem dL_law_1320 : decode cL_law 1320 = .ok (.aload_n 1, 1) := by decide +kernel
theorem dL_law_1321 : decode cL_law 1321 = .ok (.aload_n 0, 1) := by decide +kernel
theorem dL_law_1322 : decode cL_law 1322 = .ok (.iload 4, 2) := by decide +kernel
theorem dL_law_1324 : decode cL_law 1324 = .ok (.iconst 1, 1) := by decide +kernel
theorem dL_law_1325 : decode cL_law 1325 = .ok (.iadd, 1) := by decide +kernel
theorem dL_law_1326 : decode cL_law 1326 = .ok (.iaload, 1) := by decide +kernel
theorem dL_law_1327 : decode cL_law 1327 = .ok (.aload_n 0, 1) := by decide +kernel
theorem dL_law_1328 : decode cL_law 1328 = .ok (.iload 4, 2) := by decide +kernel
theorem dL_law_1330 : decode cL_law 1330 = .ok (.iconst 2, 1) := by decide +kernel
theorem dL_law_1331 : decode cL_law 1331 = .ok (.iadd, 1) := by decide +kernel
theorem dL_law_1332 : decode cL_law 1332 = .ok (.iaload, 1) := by decide +kernel
theorem dL_law_1333 : decode cL_law 1333 = .ok (.aload_n 3, 1) := by decide +kernel
theorem dL_law_1334 : decode cL_law 1334 = .ok (.invokestatic 201, 3) := by decide +kernel
theorem dL_law_1337 : decode cL_law 1337 = .ok (.istore 5, 2) := by decide +kernel
theorem dL_law_1339 : decode cL_law 1339 = .ok (.aload_n 2, 1) := by decide +kernel
theorem dL_law_1340 : decode cL_law 1340 = .ok (.aload_n 0, 1) := by decide +kernel
theorem dL_law_1341 : decode cL_law 1341 = .ok (.iload 4, 2) := by decide +kernel
theorem dL_law_1343 : decode cL_law 1343 = .ok (.iconst 1, 1) := by decide +kernel
theorem dL_law_1344 : decode cL_law 1344 = .ok (.iadd, 1) := by decide +kernel
theorem dL_law_1345 : decode cL_law 1345 = .ok (.iaload, 1) := by decide +kernel
theorem dL_law_1346 : decode cL_law 1346 = .ok (.aload_n 0, 1) := by decide +kernel
theorem dL_law_1347 : decode cL_law 1347 = .ok (.iload 4, 2) := by decide +kernel
theorem dL_law_1349 : decode cL_law 1349 = .ok (.iconst 2, 1) := by decide +kernel
theorem dL_law_1350 : decode cL_law 1350 = .ok (.iadd, 1) := by decide +kernel
theorem dL_law_1351 : decode cL_law 1351 = .ok (.iaload, 1) := by decide +kernel
theorem dL_law_1352 : decode cL_law 1352 = .ok (.invokevirtual 203, 3) := by decide +kernel
theorem dL_law_1355 : decode cL_law 1355 = .ok (.istore 6, 2) := by decide +kernel
theorem dL_law_1357 : decode cL_law 1357 = .ok (.aload_n 2, 1) := by decide +kernel
theorem dL_law_1358 : decode cL_law 1358 = .ok (.invokevirtual 133, 3) := by decide +kernel
theorem dL_law_1361 : decode cL_law 1361 = .ok (.iload 5, 2) := by decide +kernel
theorem dL_law_1363 : decode cL_law 1363 = .ok (.if_icmp .eq 5, 3) := by decide +kernel
theorem dL_law_1368 : decode cL_law 1368 = .ok (.iload 5, 2) := by decide +kernel
theorem dL_law_1370 : decode cL_law 1370 = .ok (.ifCond .ne 15, 3) := by decide +kernel
theorem dL_law_1385 : decode cL_law 1385 = .ok (.goto 1119, 3) := by decide +kernel
set_option maxRecDepth 100000 in
set_option maxHeartbeats 4000000 in
/-- the case 19 -/
theorem tc_19 {p : Program} {l : Launch} {e : Env} {s0 s : State} {m : MethodId} {below : List Frame} {meth : Method} {c : Code} {A : Nat → Prop} (hst : l.stackTraces = false) {dC : Nat → ClassId} {dI : Nat → Nat → Nat} {cy : Nat → ClassId} {b : Nat} {xs : Nat → Int32} {d0 : Drawn} (hd0 : s0.drawn.sameBut d0 lw_cs) (hs : s = s0.setDrawn d0) (C1 : tc_At p s m meth c b #[Value.ref b] A dC dI cy) (hX : va_X b 7 xs s s.heap) {a0 : Nat} {a1 : Nat} {a2 : Nat} {aT : Nat} {b1 : Nat} {b2 : Nat} {b3 : Nat} {b4 : Nat} {b5 : Nat} {b6 : Nat} {b7 : Nat} {m0 : Nat} {w0 : Nat} {o0 : Nat} {r_phases : Nat} {r_phase : Nat} {r_phaseTicks : Nat} {r_set : Nat} {r_least : Nat} {r_greatest : Nat} {r_from : Nat} {r_to : Nat} {r_time : Nat} {r_room : Nat} {r_first : Nat} {r_rate : Nat} {r_cost : Nat} {r_isShut : Nat} {r_slowed : Nat} {r_row : Nat} {r_size : Nat} {r_came : Nat} {r_left : Nat} {r_mostQueue : Nat} {r_sumQueue : Nat} {r_turned : Nat} {r_flowFrom : Nat} {r_flowTo : Nat} {r_kind : Nat} {r_start : Nat} {r_period : Nat} {r_count : Nat} {r_flow : Nat} {r_began : Nat} {r_state : Nat} {r_link : Nat} {r_end : Nat} {r_gone : Nat} {r_trip : Nat} {r_delay : Nat} {r_way : Nat} (H : Heap) (locs : List Loc) (ls : Array Slot) (hP : va_P (dC, dI) vwCl [(a0, .inr (8, [.ref a1, .ref aT])), (a1, .inr (5, [.ref a2, .ref b1, .ref b2, .ref b3, .ref b4, .ref b5, .int 0, .int 1, .int 0, .int 0, .int 0, .int 0])), (a2, .inr (2, [.ref b6, .int 0, .ref b7, .int 0])), (m0, .inr (10, [.ref w0, .int 0])), (w0, .inr (9, [.int 0, .int 1, .int 0, .ref r_phases, .ref r_phase, .ref r_phaseTicks, .ref r_set, .ref r_least, .ref r_greatest, .int 0, .ref r_from, .ref r_to, .ref r_time, .ref r_room, .ref r_first, .ref r_rate, .ref r_cost, .ref r_isShut, .ref r_slowed, .ref r_row, .ref r_size, .ref r_came, .ref r_left, .ref r_mostQueue, .ref r_sumQueue, .ref r_turned, .int 0, .ref r_flowFrom, .ref r_flowTo, .ref r_kind, .ref r_start, .ref r_period, .ref r_count, .int 0, .ref r_flow, .ref r_began, .ref r_state, .ref r_link, .ref r_end, .ref r_gone, .ref r_trip, .ref r_delay, .ref r_way])), (o0, .inl (cy 1, 1, .inr (.inl ((fun _ => 0)))))] H) (hD : va_D A [(a0, .inr (8, [.ref a1, .ref aT])), (a1, .inr (5, [.ref a2, .ref b1, .ref b2, .ref b3, .ref b4, .ref b5, .int 0, .int 1, .int 0, .int 0, .int 0, .int 0])), (a2, .inr (2, [.ref b6, .int 0, .ref b7, .int 0])), (m0, .inr (10, [.ref w0, .int 0])), (w0, .inr (9, [.int 0, .int 1, .int 0, .ref r_phases, .ref r_phase, .ref r_phaseTicks, .ref r_set, .ref r_least, .ref r_greatest, .int 0, .ref r_from, .ref r_to, .ref r_time, .ref r_room, .ref r_first, .ref r_rate, .ref r_cost, .ref r_isShut, .ref r_slowed, .ref r_row, .ref r_size, .ref r_came, .ref r_left, .ref r_mostQueue, .ref r_sumQueue, .ref r_turned, .int 0, .ref r_flowFrom, .ref r_flowTo, .ref r_kind, .ref r_start, .ref r_period, .ref r_count, .int 0, .ref r_flow, .ref r_began, .ref r_state, .ref r_link, .ref r_end, .ref r_gone, .ref r_trip, .ref r_delay, .ref r_way])), (o0, .inl (cy 1, 1, .inr (.inl ((fun _ => 0)))))]) (hS : va_S A s.heap H locs) (hl : lv_has ls 9 [(0, .ref b), (1, .ref a0), (2, .ref m0), (3, .ref o0), (4, .int 0)]) : W p l e room_1 s m #[Value.ref b] below meth c H locs 1535 31585 (lw_Z below #[Value.ref b] s0) (F0 m 1320 ls []) := by
  have C2 := C1
  obtain ⟨hx, hb, hr, hml, hown, hts, hbl, hlocks, hK, hE, hZ, hA, hbA, hA2⟩ := C2
  refine lv_aload_n hx hb dL_law_1320 rfl (lv_at hl 1 rfl) ?_
  refine lv_aload_n hx hb dL_law_1321 rfl (lv_at hl 0 rfl) ?_
  refine lv_iload hx hb dL_law_1322 (lv_at hl 4 rfl) ?_
  refine lv_iconst (v := 1) hx hb dL_law_1324 (by decide) ?_
  refine lv_iadd hx hb dL_law_1325 ?_
  refine va_sld hx hb hX hbl hbA hS (by unfold vp_in; decide) dL_law_1326 ?_
  refine lv_aload_n hx hb dL_law_1327 rfl (lv_at hl 0 rfl) ?_
  refine lv_iload hx hb dL_law_1328 (lv_at hl 4 rfl) ?_
  refine lv_iconst (v := 2) hx hb dL_law_1330 (by decide) ?_
  refine lv_iadd hx hb dL_law_1331 ?_
  refine va_sld hx hb hX hbl hbA hS (by unfold vp_in; decide) dL_law_1332 ?_
  refine lv_aload_n hx hb dL_law_1333 rfl (lv_at hl 3 rfl) ?_
  have hFc := va_free (wc := [(a0, .inr (8, [.ref a1, .ref aT])), (a1, .inr (5, [.ref a2, .ref b1, .ref b2, .ref b3, .ref b4, .ref b5, .int 0, .int 1, .int 0, .int 0, .int 0, .int 0])), (a2, .inr (2, [.ref b6, .int 0, .ref b7, .int 0])), (o0, .inl (cy 1, 1, .inr (.inl ((fun _ => 0)))))]) hD hS hA [0, 1, 2, 5] rfl
  refine vx_calli (vx_runSX (As := [.ref a0, .int (xs (0 + 1 : Int32).toNatClampNeg), .int (xs (0 + 2 : Int32).toNatClampNeg), .ref o0]) (rest := []) ⟨hx, hb, hml, hown, hts⟩ (tm_L_nextLink l hst dC dI cy a0 a1 a2 aT b1 b2 b3 b4 b5 b6 b7 o0 (xs (0 + 1 : Int32).toNatClampNeg) (xs (0 + 2 : Int32).toNatClampNeg) H.size) (tp_cwSW 4 hts tw_1000 tw_1001 tw_37 tw_1002 rfl rfl (by decide +kernel) ⟨Nat.le_of_ble_eq_true rfl, Nat.le_of_ble_eq_true rfl⟩) ⟨tp_blind, fun U hU hW => ⟨rfl, tp_pay hK hP hD hE hZ hS [0, 1, 2, 5] (by decide) rfl hFc U hU hW⟩⟩ rfl rfl hl.1 rfl (lv_room (Nat.le_of_ble_eq_true rfl)) dL_law_1334 ⟨(Nat.le_of_ble_eq_true rfl), (Nat.le_of_ble_eq_true rfl)⟩) hS (fun q _ h => hFc q h) hFc (fun q _ h => hFc q h) (fun E9 ce q9 u t H1 locs ht hvm hw hB hz1 hk1 hS hce hcv hcl => ?_) (fun r_1 u t H1 locs ht hvm hw hB hz1 hk1 hS => ?_)
  · obtain ⟨hE9, hB⟩ := hB
    exact hE9.elim
  · obtain rfl := hw
    obtain ⟨f_2, hP1, hD1⟩ := hB
    subst f_2
    rw [ht] at hP1
    obtain ⟨hP, hD⟩ := va_join (wr := [(m0, .inr (10, [.ref w0, .int 0])), (w0, .inr (9, [.int 0, .int 1, .int 0, .ref r_phases, .ref r_phase, .ref r_phaseTicks, .ref r_set, .ref r_least, .ref r_greatest, .int 0, .ref r_from, .ref r_to, .ref r_time, .ref r_room, .ref r_first, .ref r_rate, .ref r_cost, .ref r_isShut, .ref r_slowed, .ref r_row, .ref r_size, .ref r_came, .ref r_left, .ref r_mostQueue, .ref r_sumQueue, .ref r_turned, .int 0, .ref r_flowFrom, .ref r_flowTo, .ref r_kind, .ref r_start, .ref r_period, .ref r_count, .int 0, .ref r_flow, .ref r_began, .ref r_state, .ref r_link, .ref r_end, .ref r_gone, .ref r_trip, .ref r_delay, .ref r_way]))]) (w1 := [(o0, .inl (cy 1, 1, .inr (.inl ((fun _ => 0)))))]) hP hD [0, 1, 2, 5] [3, 4] rfl rfl (by decide) (by decide) hk1 hFc hP1 hD1
    generalize H1 = H at hP hS ⊢
    have hP : va_P (dC, dI) vwCl [(m0, .inr (10, [.ref w0, .int 0])), (w0, .inr (9, [.int 0, .int 1, .int 0, .ref r_phases, .ref r_phase, .ref r_phaseTicks, .ref r_set, .ref r_least, .ref r_greatest, .int 0, .ref r_from, .ref r_to, .ref r_time, .ref r_room, .ref r_first, .ref r_rate, .ref r_cost, .ref r_isShut, .ref r_slowed, .ref r_row, .ref r_size, .ref r_came, .ref r_left, .ref r_mostQueue, .ref r_sumQueue, .ref r_turned, .int 0, .ref r_flowFrom, .ref r_flowTo, .ref r_kind, .ref r_start, .ref r_period, .ref r_count, .int 0, .ref r_flow, .ref r_began, .ref r_state, .ref r_link, .ref r_end, .ref r_gone, .ref r_trip, .ref r_delay, .ref r_way])), (o0, .inl (cy 1, 1, .inr (.inl ((fun _ => 0)))))] _ := hP
    have hD : va_D A [(m0, .inr (10, [.ref w0, .int 0])), (w0, .inr (9, [.int 0, .int 1, .int 0, .ref r_phases, .ref r_phase, .ref r_phaseTicks, .ref r_set, .ref r_least, .ref r_greatest, .int 0, .ref r_from, .ref r_to, .ref r_time, .ref r_room, .ref r_first, .ref r_rate, .ref r_cost, .ref r_isShut, .ref r_slowed, .ref r_row, .ref r_size, .ref r_came, .ref r_left, .ref r_mostQueue, .ref r_sumQueue, .ref r_turned, .int 0, .ref r_flowFrom, .ref r_flowTo, .ref r_kind, .ref r_start, .ref r_period, .ref r_count, .int 0, .ref r_flow, .ref r_began, .ref r_state, .ref r_link, .ref r_end, .ref r_gone, .ref r_trip, .ref r_delay, .ref r_way])), (o0, .inl (cy 1, 1, .inr (.inl ((fun _ => 0)))))] := hD
    refine lv_istore (lv' := [(5, .int 1), (0, .ref b), (1, .ref a0), (2, .ref m0), (3, .ref o0), (4, .int 0)]) hx hb dL_law_1337 hl (by decide) rfl (fun ls hl => ?_)
    refine lv_aload_n hx hb dL_law_1339 rfl (lv_at hl 3 rfl) ?_
    refine lv_aload_n hx hb dL_law_1340 rfl (lv_at hl 1 rfl) ?_
    refine lv_iload hx hb dL_law_1341 (lv_at hl 5 rfl) ?_
    refine lv_iconst (v := 1) hx hb dL_law_1343 (by decide) ?_
    refine lv_iadd hx hb dL_law_1344 ?_
    refine va_sld hx hb hX hbl hbA hS (by unfold vp_in; decide) dL_law_1345 ?_
    refine lv_aload_n hx hb dL_law_1346 rfl (lv_at hl 1 rfl) ?_
    refine lv_iload hx hb dL_law_1347 (lv_at hl 5 rfl) ?_
    refine lv_iconst (v := 2) hx hb dL_law_1349 (by decide) ?_
    refine lv_iadd hx hb dL_law_1350 ?_
    refine va_sld hx hb hX hbl hbA hS (by unfold vp_in; decide) dL_law_1351 ?_
    have hFc := va_free (wc := [(m0, .inr (10, [.ref w0, .int 0])), (w0, .inr (9, [.int 0, .int 1, .int 0, .ref r_phases, .ref r_phase, .ref r_phaseTicks, .ref r_set, .ref r_least, .ref r_greatest, .int 0, .ref r_from, .ref r_to, .ref r_time, .ref r_room, .ref r_first, .ref r_rate, .ref r_cost, .ref r_isShut, .ref r_slowed, .ref r_row, .ref r_size, .ref r_came, .ref r_left, .ref r_mostQueue, .ref r_sumQueue, .ref r_turned, .int 0, .ref r_flowFrom, .ref r_flowTo, .ref r_kind, .ref r_start, .ref r_period, .ref r_count, .int 0, .ref r_flow, .ref r_began, .ref r_state, .ref r_link, .ref r_end, .ref r_gone, .ref r_trip, .ref r_delay, .ref r_way]))]) hD hS hA [0, 1] rfl
    refine va_calli (va_runV (As := [.int (xs (0 + 1 : Int32).toNatClampNeg), .int (xs (0 + 2 : Int32).toNatClampNeg)]) (rest := []) ⟨hx, hb, hml, hown, hts⟩ (tm_m_nextLink l hst dC dI cy m0 w0 0 r_phases r_phase r_phaseTicks r_set r_least r_greatest r_from r_to r_time r_room r_first r_rate r_cost r_isShut r_slowed r_row r_size r_came r_left r_mostQueue r_sumQueue r_turned r_flowFrom r_flowTo r_kind r_start r_period r_count r_flow r_began r_state r_link r_end r_gone r_trip r_delay r_way (xs (0 + 1 : Int32).toNatClampNeg) (xs (0 + 2 : Int32).toNatClampNeg) H.size) (tp_cwV 2 hts tw_1490 tw_1491 tw_1492 tw_48 tw_1493 rfl rfl (by decide +kernel) ⟨Nat.le_of_ble_eq_true rfl, Nat.le_of_ble_eq_true rfl⟩) ⟨tp_blind, va_recv hK hP (ci := 10) (q0 := 0) rfl rfl, fun U hU hW => ⟨rfl, tp_pay hK hP hD hE hZ hS [0, 1] (by decide) rfl hFc U hU hW⟩⟩ rfl rfl hl.1 rfl (lv_room (Nat.le_of_ble_eq_true rfl)) dL_law_1352 ⟨(Nat.le_of_ble_eq_true rfl), (Nat.le_of_ble_eq_true rfl)⟩) hS (fun q _ h => hFc q h) hFc (fun r_3 u t H1 locs ht hvm hw hB hz1 hk1 hS => ?_)
    obtain rfl := hw
    obtain ⟨f_4, hP1, hD1⟩ := hB
    subst f_4
    rw [ht] at hP1
    obtain ⟨hP, hD⟩ := va_join (wr := [(o0, .inl (cy 1, 1, .inr (.inl ((fun _ => 0)))))]) (w1 := [(m0, .inr (10, [.ref w0, .int 1]))]) hP hD [0, 1] [2] rfl rfl (by decide) (by decide) hk1 hFc hP1 hD1
    generalize H1 = H at hP hS ⊢
    have hP : va_P (dC, dI) vwCl [(o0, .inl (cy 1, 1, .inr (.inl ((fun _ => 0))))), (m0, .inr (10, [.ref w0, .int 1]))] _ := hP
    have hD : va_D A [(o0, .inl (cy 1, 1, .inr (.inl ((fun _ => 0))))), (m0, .inr (10, [.ref w0, .int 1]))] := hD
    refine lv_istore (lv' := [(6, .int 0), (5, .int 1), (0, .ref b), (1, .ref a0), (2, .ref m0), (3, .ref o0), (4, .int 0)]) hx hb dL_law_1355 hl (by decide) rfl (fun ls hl => ?_)
    refine lv_aload_n hx hb dL_law_1357 rfl (lv_at hl 4 rfl) ?_
    have hFc := va_free (wc := [(m0, .inr (10, [.ref w0, .int 1]))]) hD hS hA [1] rfl
    refine va_calli (va_runV (As := []) (rest := []) ⟨hx, hb, hml, hown, hts⟩ (tm_m_thrown l hst dC dI cy m0 w0 1 H.size) (tp_cwV 0 hts tw_1317 tw_1318 tw_1319 tw_48 tw_1320 rfl rfl (by decide +kernel) ⟨Nat.le_of_ble_eq_true rfl, Nat.le_of_ble_eq_true rfl⟩) ⟨tp_blind, va_recv hK hP (ci := 10) (q0 := 1) rfl rfl, fun U hU hW => ⟨rfl, tp_pay hK hP hD hE hZ hS [1] (by decide) rfl hFc U hU hW⟩⟩ rfl rfl hl.1 rfl (lv_room (Nat.le_of_ble_eq_true rfl)) dL_law_1358 ⟨(Nat.le_of_ble_eq_true rfl), (Nat.le_of_ble_eq_true rfl)⟩) hS (fun q _ h => hFc q h) hFc (fun r_5 u t H1 locs ht hvm hw hB hz1 hk1 hS => ?_)
    obtain rfl := hw
    obtain ⟨f_6, hP1, hD1⟩ := hB
    subst f_6
    rw [ht] at hP1
    obtain ⟨hP, hD⟩ := va_join (wr := [(o0, .inl (cy 1, 1, .inr (.inl ((fun _ => 0)))))]) (w1 := [(m0, .inr (10, [.ref w0, .int 1]))]) hP hD [1] [0] rfl rfl (by decide) (by decide) hk1 hFc hP1 hD1
    generalize H1 = H at hP hS ⊢
    have hP : va_P (dC, dI) vwCl [(o0, .inl (cy 1, 1, .inr (.inl ((fun _ => 0))))), (m0, .inr (10, [.ref w0, .int 1]))] _ := hP
    have hD : va_D A [(o0, .inl (cy 1, 1, .inr (.inl ((fun _ => 0))))), (m0, .inr (10, [.ref w0, .int 1]))] := hD
    refine lv_iload hx hb dL_law_1361 (lv_at hl 1 rfl) ?_
    refine lv_icmp_eq (tgt := 1368) hx hb dL_law_1363 (by decide) (fun _ => ?_) (fun c_7 => absurd rfl c_7)
    refine lv_iload hx hb dL_law_1368 (lv_at hl 1 rfl) ?_
    refine lv_if_ne (tgt := 1385) hx hb dL_law_1370 (by decide) (fun _ => ?_) (fun c_8 => absurd c_8 (by decide))
    refine lv_goto (tgt := 2504) hx hb dL_law_1385 (by decide) ?_
    exact tc_end hd0 hs C1 hX (Nat.le_of_ble_eq_true rfl) (Nat.le_of_ble_eq_true rfl) H _ ls hS (lv_sub hl [2, 6] rfl)
theorem tw_429 : Cond.methodLink RL 204 yX8_vehicles ∈ tp_all := tp_mem 429 (by decide +kernel) rfl
theorem tw_1498 : Cond.code yX10_vehicles cX10_vehicles 1 (some .int) ∈ tp_all := tp_mem 1498 (by decide +kernel) rfl
theorem tw_1495 : Cond.methodLink RL 207 yX10_vehicles ∈ tp_all := tp_mem 1495 (by decide +kernel) rfl
theorem tw_1496 : Cond.instanceMethod yX10_vehicles ∈ tp_all := tp_mem 1496 (by decide +kernel) rfl
theorem tw_1497 : Cond.selects RX10 yX10_vehicles yX10_vehicles ∈ tp_all := tp_mem 1497 (by decide +kernel) rfl
theorem dL_law_1388 : decode cL_law 1388 = .ok (.aload_n 1, 1) := by decide +kernel
theorem dL_law_1389 : decode cL_law 1389 = .ok (.invokevirtual 204, 3) := by decide +kernel
theorem dL_law_1392 : decode cL_law 1392 = .ok (.aload_n 2, 1) := by decide +kernel
theorem dL_law_1393 : decode cL_law 1393 = .ok (.invokevirtual 207, 3) := by decide +kernel
theorem dL_law_1396 : decode cL_law 1396 = .ok (.if_icmp .eq 1108, 3) := by decide +kernel
set_option maxRecDepth 100000 in
set_option maxHeartbeats 4000000 in
/-- the case 20 -/
theorem tc_20 {p : Program} {l : Launch} {e : Env} {s0 s : State} {m : MethodId} {below : List Frame} {meth : Method} {c : Code} {A : Nat → Prop} (hst : l.stackTraces = false) {dC : Nat → ClassId} {dI : Nat → Nat → Nat} {cy : Nat → ClassId} {b : Nat} {xs : Nat → Int32} {d0 : Drawn} (hd0 : s0.drawn.sameBut d0 lw_cs) (hs : s = s0.setDrawn d0) (C1 : tc_At p s m meth c b #[Value.ref b] A dC dI cy) (hX : va_X b 7 xs s s.heap) {a0 : Nat} {a1 : Nat} {a2 : Nat} {aT : Nat} {b1 : Nat} {b2 : Nat} {b3 : Nat} {b4 : Nat} {b5 : Nat} {b6 : Nat} {b7 : Nat} {m0 : Nat} {w0 : Nat} {o0 : Nat} {r_phases : Nat} {r_phase : Nat} {r_phaseTicks : Nat} {r_set : Nat} {r_least : Nat} {r_greatest : Nat} {r_from : Nat} {r_to : Nat} {r_time : Nat} {r_room : Nat} {r_first : Nat} {r_rate : Nat} {r_cost : Nat} {r_isShut : Nat} {r_slowed : Nat} {r_row : Nat} {r_size : Nat} {r_came : Nat} {r_left : Nat} {r_mostQueue : Nat} {r_sumQueue : Nat} {r_turned : Nat} {r_flowFrom : Nat} {r_flowTo : Nat} {r_kind : Nat} {r_start : Nat} {r_period : Nat} {r_count : Nat} {r_flow : Nat} {r_began : Nat} {r_state : Nat} {r_link : Nat} {r_end : Nat} {r_gone : Nat} {r_trip : Nat} {r_delay : Nat} {r_way : Nat} (H : Heap) (locs : List Loc) (ls : Array Slot) (hP : va_P (dC, dI) vwCl [(a0, .inr (8, [.ref a1, .ref aT])), (a1, .inr (5, [.ref a2, .ref b1, .ref b2, .ref b3, .ref b4, .ref b5, .int 0, .int 1, .int 0, .int 0, .int 0, .int 0])), (a2, .inr (2, [.ref b6, .int 0, .ref b7, .int 0])), (m0, .inr (10, [.ref w0, .int 0])), (w0, .inr (9, [.int 0, .int 1, .int 0, .ref r_phases, .ref r_phase, .ref r_phaseTicks, .ref r_set, .ref r_least, .ref r_greatest, .int 0, .ref r_from, .ref r_to, .ref r_time, .ref r_room, .ref r_first, .ref r_rate, .ref r_cost, .ref r_isShut, .ref r_slowed, .ref r_row, .ref r_size, .ref r_came, .ref r_left, .ref r_mostQueue, .ref r_sumQueue, .ref r_turned, .int 0, .ref r_flowFrom, .ref r_flowTo, .ref r_kind, .ref r_start, .ref r_period, .ref r_count, .int 0, .ref r_flow, .ref r_began, .ref r_state, .ref r_link, .ref r_end, .ref r_gone, .ref r_trip, .ref r_delay, .ref r_way])), (o0, .inl (cy 1, 1, .inr (.inl ((fun _ => 0)))))] H) (hD : va_D A [(a0, .inr (8, [.ref a1, .ref aT])), (a1, .inr (5, [.ref a2, .ref b1, .ref b2, .ref b3, .ref b4, .ref b5, .int 0, .int 1, .int 0, .int 0, .int 0, .int 0])), (a2, .inr (2, [.ref b6, .int 0, .ref b7, .int 0])), (m0, .inr (10, [.ref w0, .int 0])), (w0, .inr (9, [.int 0, .int 1, .int 0, .ref r_phases, .ref r_phase, .ref r_phaseTicks, .ref r_set, .ref r_least, .ref r_greatest, .int 0, .ref r_from, .ref r_to, .ref r_time, .ref r_room, .ref r_first, .ref r_rate, .ref r_cost, .ref r_isShut, .ref r_slowed, .ref r_row, .ref r_size, .ref r_came, .ref r_left, .ref r_mostQueue, .ref r_sumQueue, .ref r_turned, .int 0, .ref r_flowFrom, .ref r_flowTo, .ref r_kind, .ref r_start, .ref r_period, .ref r_count, .int 0, .ref r_flow, .ref r_began, .ref r_state, .ref r_link, .ref r_end, .ref r_gone, .ref r_trip, .ref r_delay, .ref r_way])), (o0, .inl (cy 1, 1, .inr (.inl ((fun _ => 0)))))]) (hS : va_S A s.heap H locs) (hl : lv_has ls 9 [(0, .ref b), (1, .ref a0), (2, .ref m0), (3, .ref o0), (4, .int 0)]) : W p l e room_1 s m #[Value.ref b] below meth c H locs 1535 31585 (lw_Z below #[Value.ref b] s0) (F0 m 1388 ls []) := by
  have C2 := C1
  obtain ⟨hx, hb, hr, hml, hown, hts, hbl, hlocks, hK, hE, hZ, hA, hbA, hA2⟩ := C2
  refine lv_aload_n hx hb dL_law_1388 rfl (lv_at hl 1 rfl) ?_
  have hFc := va_free (wc := [(a0, .inr (8, [.ref a1, .ref aT])), (a1, .inr (5, [.ref a2, .ref b1, .ref b2, .ref b3, .ref b4, .ref b5, .int 0, .int 1, .int 0, .int 0, .int 0, .int 0])), (a2, .inr (2, [.ref b6, .int 0, .ref b7, .int 0]))]) hD hS hA [0, 1, 2] rfl
  refine va_calli (va_runV (As := []) (rest := []) ⟨hx, hb, hml, hown, hts⟩ (tm_vehicles l hst dC dI cy a0 a1 a2 aT b1 b2 b3 b4 b5 b6 b7 H.size) (tp_cwV 0 hts tw_429 tw_430 tw_431 tw_38 tw_432 rfl rfl (by decide +kernel) ⟨Nat.le_of_ble_eq_true rfl, Nat.le_of_ble_eq_true rfl⟩) ⟨tp_blind, va_recv hK hP (ci := 8) (q0 := 0) rfl rfl, fun U hU hW => ⟨rfl, tp_pay hK hP hD hE hZ hS [0, 1, 2] (by decide) rfl hFc U hU hW⟩⟩ rfl rfl hl.1 rfl (lv_room (Nat.le_of_ble_eq_true rfl)) dL_law_1389 ⟨(Nat.le_of_ble_eq_true rfl), (Nat.le_of_ble_eq_true rfl)⟩) hS (fun q _ h => hFc q h) hFc (fun r_1 u t H1 locs ht hvm hw hB hz1 hk1 hS => ?_)
  obtain rfl := hw
  obtain ⟨f_2, hP1, hD1⟩ := hB
  subst f_2
  rw [ht] at hP1
  obtain ⟨hP, hD⟩ := va_join (wr := [(m0, .inr (10, [.ref w0, .int 0])), (w0, .inr (9, [.int 0, .int 1, .int 0, .ref r_phases, .ref r_phase, .ref r_phaseTicks, .ref r_set, .ref r_least, .ref r_greatest, .int 0, .ref r_from, .ref r_to, .ref r_time, .ref r_room, .ref r_first, .ref r_rate, .ref r_cost, .ref r_isShut, .ref r_slowed, .ref r_row, .ref r_size, .ref r_came, .ref r_left, .ref r_mostQueue, .ref r_sumQueue, .ref r_turned, .int 0, .ref r_flowFrom, .ref r_flowTo, .ref r_kind, .ref r_start, .ref r_period, .ref r_count, .int 0, .ref r_flow, .ref r_began, .ref r_state, .ref r_link, .ref r_end, .ref r_gone, .ref r_trip, .ref r_delay, .ref r_way])), (o0, .inl (cy 1, 1, .inr (.inl ((fun _ => 0)))))]) (w1 := [(a0, .inr (8, [.ref a1, .ref aT])), (a1, .inr (5, [.ref a2, .ref b1, .ref b2, .ref b3, .ref b4, .ref b5, .int 0, .int 1, .int 0, .int 0, .int 0, .int 0])), (a2, .inr (2, [.ref b6, .int 0, .ref b7, .int 0]))]) hP hD [0, 1, 2] [3, 4, 5] rfl rfl (by decide) (by decide) hk1 hFc hP1 hD1
  generalize H1 = H at hP hS ⊢
  have hP : va_P (dC, dI) vwCl [(m0, .inr (10, [.ref w0, .int 0])), (w0, .inr (9, [.int 0, .int 1, .int 0, .ref r_phases, .ref r_phase, .ref r_phaseTicks, .ref r_set, .ref r_least, .ref r_greatest, .int 0, .ref r_from, .ref r_to, .ref r_time, .ref r_room, .ref r_first, .ref r_rate, .ref r_cost, .ref r_isShut, .ref r_slowed, .ref r_row, .ref r_size, .ref r_came, .ref r_left, .ref r_mostQueue, .ref r_sumQueue, .ref r_turned, .int 0, .ref r_flowFrom, .ref r_flowTo, .ref r_kind, .ref r_start, .ref r_period, .ref r_count, .int 0, .ref r_flow, .ref r_began, .ref r_state, .ref r_link, .ref r_end, .ref r_gone, .ref r_trip, .ref r_delay, .ref r_way])), (o0, .inl (cy 1, 1, .inr (.inl ((fun _ => 0))))), (a0, .inr (8, [.ref a1, .ref aT])), (a1, .inr (5, [.ref a2, .ref b1, .ref b2, .ref b3, .ref b4, .ref b5, .int 0, .int 1, .int 0, .int 0, .int 0, .int 0])), (a2, .inr (2, [.ref b6, .int 0, .ref b7, .int 0]))] _ := hP
  have hD : va_D A [(m0, .inr (10, [.ref w0, .int 0])), (w0, .inr (9, [.int 0, .int 1, .int 0, .ref r_phases, .ref r_phase, .ref r_phaseTicks, .ref r_set, .ref r_least, .ref r_greatest, .int 0, .ref r_from, .ref r_to, .ref r_time, .ref r_room, .ref r_first, .ref r_rate, .ref r_cost, .ref r_isShut, .ref r_slowed, .ref r_row, .ref r_size, .ref r_came, .ref r_left, .ref r_mostQueue, .ref r_sumQueue, .ref r_turned, .int 0, .ref r_flowFrom, .ref r_flowTo, .ref r_kind, .ref r_start, .ref r_period, .ref r_count, .int 0, .ref r_flow, .ref r_began, .ref r_state, .ref r_link, .ref r_end, .ref r_gone, .ref r_trip, .ref r_delay, .ref r_way])), (o0, .inl (cy 1, 1, .inr (.inl ((fun _ => 0))))), (a0, .inr (8, [.ref a1, .ref aT])), (a1, .inr (5, [.ref a2, .ref b1, .ref b2, .ref b3, .ref b4, .ref b5, .int 0, .int 1, .int 0, .int 0, .int 0, .int 0])), (a2, .inr (2, [.ref b6, .int 0, .ref b7, .int 0]))] := hD
  refine lv_aload_n hx hb dL_law_1392 rfl (lv_at hl 2 rfl) ?_
  have hFc := va_free (wc := [(m0, .inr (10, [.ref w0, .int 0])), (w0, .inr (9, [.int 0, .int 1, .int 0, .ref r_phases, .ref r_phase, .ref r_phaseTicks, .ref r_set, .ref r_least, .ref r_greatest, .int 0, .ref r_from, .ref r_to, .ref r_time, .ref r_room, .ref r_first, .ref r_rate, .ref r_cost, .ref r_isShut, .ref r_slowed, .ref r_row, .ref r_size, .ref r_came, .ref r_left, .ref r_mostQueue, .ref r_sumQueue, .ref r_turned, .int 0, .ref r_flowFrom, .ref r_flowTo, .ref r_kind, .ref r_start, .ref r_period, .ref r_count, .int 0, .ref r_flow, .ref r_began, .ref r_state, .ref r_link, .ref r_end, .ref r_gone, .ref r_trip, .ref r_delay, .ref r_way]))]) hD hS hA [0, 1] rfl
  refine va_calli (va_runV (As := []) (rest := [.int 0]) ⟨hx, hb, hml, hown, hts⟩ (tm_m_vehicles l hst dC dI cy m0 w0 0 r_phases r_phase r_phaseTicks r_set r_least r_greatest r_from r_to r_time r_room r_first r_rate r_cost r_isShut r_slowed r_row r_size r_came r_left r_mostQueue r_sumQueue r_turned r_flowFrom r_flowTo r_kind r_start r_period r_count r_flow r_began r_state r_link r_end r_gone r_trip r_delay r_way H.size) (tp_cwV 0 hts tw_1495 tw_1496 tw_1497 tw_48 tw_1498 rfl rfl (by decide +kernel) ⟨Nat.le_of_ble_eq_true rfl, Nat.le_of_ble_eq_true rfl⟩) ⟨tp_blind, va_recv hK hP (ci := 10) (q0 := 0) rfl rfl, fun U hU hW => ⟨rfl, tp_pay hK hP hD hE hZ hS [0, 1] (by decide) rfl hFc U hU hW⟩⟩ rfl rfl hl.1 rfl (lv_room (Nat.le_of_ble_eq_true rfl)) dL_law_1393 ⟨(Nat.le_of_ble_eq_true rfl), (Nat.le_of_ble_eq_true rfl)⟩) hS (fun q _ h => hFc q h) hFc (fun r_3 u t H1 locs ht hvm hw hB hz1 hk1 hS => ?_)
  obtain rfl := hw
  obtain ⟨f_4, hP1, hD1⟩ := hB
  subst f_4
  rw [ht] at hP1
  obtain ⟨hP, hD⟩ := va_join (wr := [(o0, .inl (cy 1, 1, .inr (.inl ((fun _ => 0))))), (a0, .inr (8, [.ref a1, .ref aT])), (a1, .inr (5, [.ref a2, .ref b1, .ref b2, .ref b3, .ref b4, .ref b5, .int 0, .int 1, .int 0, .int 0, .int 0, .int 0])), (a2, .inr (2, [.ref b6, .int 0, .ref b7, .int 0]))]) (w1 := [(m0, .inr (10, [.ref w0, .int 0]))]) hP hD [0, 1] [2, 3, 4, 5] rfl rfl (by decide) (by decide) hk1 hFc hP1 hD1
  generalize H1 = H at hP hS ⊢
  have hP : va_P (dC, dI) vwCl [(o0, .inl (cy 1, 1, .inr (.inl ((fun _ => 0))))), (a0, .inr (8, [.ref a1, .ref aT])), (a1, .inr (5, [.ref a2, .ref b1, .ref b2, .ref b3, .ref b4, .ref b5, .int 0, .int 1, .int 0, .int 0, .int 0, .int 0])), (a2, .inr (2, [.ref b6, .int 0, .ref b7, .int 0])), (m0, .inr (10, [.ref w0, .int 0]))] _ := hP
  have hD : va_D A [(o0, .inl (cy 1, 1, .inr (.inl ((fun _ => 0))))), (a0, .inr (8, [.ref a1, .ref aT])), (a1, .inr (5, [.ref a2, .ref b1, .ref b2, .ref b3, .ref b4, .ref b5, .int 0, .int 1, .int 0, .int 0, .int 0, .int 0])), (a2, .inr (2, [.ref b6, .int 0, .ref b7, .int 0])), (m0, .inr (10, [.ref w0, .int 0]))] := hD
  refine lv_icmp_eq (tgt := 2504) hx hb dL_law_1396 (by decide) (fun _ => ?_) (fun c_5 => absurd rfl c_5)
  exact tc_end hd0 hs C1 hX (Nat.le_of_ble_eq_true rfl) (Nat.le_of_ble_eq_true rfl) H _ ls hS (lv_sub hl [0, 4] rfl)
theorem tw_1006 : Cond.codeWith yL_stateOf cL_stateOf 4 (some .int) [(0, 9, 12, 19)] ∈ tp_all := tp_mem 1006 (by decide +kernel) rfl
theorem tw_1004 : Cond.methodLink RL 208 yL_stateOf ∈ tp_all := tp_mem 1004 (by decide +kernel) rfl
theorem tw_1005 : Cond.static yL_stateOf ∈ tp_all := tp_mem 1005 (by decide +kernel) rfl
theorem tw_1502 : Cond.code yX10_stateOf cX10_stateOf 2 (some .int) ∈ tp_all := tp_mem 1502 (by decide +kernel) rfl
theorem tw_1499 : Cond.methodLink RL 210 yX10_stateOf ∈ tp_all := tp_mem 1499 (by decide +kernel) rfl
theorem tw_1500 : Cond.instanceMethod yX10_stateOf ∈ tp_all := tp_mem 1500 (by decide +kernel) rfl
theorem tw_1501 : Cond.selects RX10 yX10_stateOf yX10_stateOf ∈ tp_all := tp_mem 1501 (by decide +kernel) rfl
theorem dL_law_1401 : decode cL_law 1401 = .ok (.aload_n 1, 1) := by decide +kernel
theorem dL_law_1402 : decode cL_law 1402 = .ok (.aload_n 0, 1) := by decide +kernel
theorem dL_law_1403 : decode cL_law 1403 = .ok (.iload 4, 2) := by decide +kernel
theorem dL_law_1405 : decode cL_law 1405 = .ok (.iconst 1, 1) := by decide +kernel
theorem dL_law_1406 : decode cL_law 1406 = .ok (.iadd, 1) := by decide +kernel
theorem dL_law_1407 : decode cL_law 1407 = .ok (.iaload, 1) := by decide +kernel
theorem dL_law_1408 : decode cL_law 1408 = .ok (.aload_n 3, 1) := by decide +kernel
theorem dL_law_1409 : decode cL_law 1409 = .ok (.invokestatic 208, 3) := by decide +kernel
theorem dL_law_1412 : decode cL_law 1412 = .ok (.istore 5, 2) := by decide +kernel
theorem dL_law_1414 : decode cL_law 1414 = .ok (.aload_n 2, 1) := by decide +kernel
theorem dL_law_1415 : decode cL_law 1415 = .ok (.aload_n 0, 1) := by decide +kernel
theorem dL_law_1416 : decode cL_law 1416 = .ok (.iload 4, 2) := by decide +kernel
theorem dL_law_1418 : decode cL_law 1418 = .ok (.iconst 1, 1) := by decide +kernel
theorem dL_law_1419 : decode cL_law 1419 = .ok (.iadd, 1) := by decide +kernel
theorem dL_law_1420 : decode cL_law 1420 = .ok (.iaload, 1) := by decide +kernel
theorem dL_law_1421 : decode cL_law 1421 = .ok (.invokevirtual 210, 3) := by decide +kernel
theorem dL_law_1424 : decode cL_law 1424 = .ok (.istore 6, 2) := by decide +kernel
theorem dL_law_1426 : decode cL_law 1426 = .ok (.aload_n 2, 1) := by decide +kernel
theorem dL_law_1427 : decode cL_law 1427 = .ok (.invokevirtual 133, 3) := by decide +kernel
theorem dL_law_1430 : decode cL_law 1430 = .ok (.iload 5, 2) := by decide +kernel
theorem dL_law_1432 : decode cL_law 1432 = .ok (.if_icmp .eq 5, 3) := by decide +kernel
theorem dL_law_1437 : decode cL_law 1437 = .ok (.iload 5, 2) := by decide +kernel
theorem dL_law_1439 : decode cL_law 1439 = .ok (.ifCond .ne 15, 3) := by decide +kernel
theorem dL_law_1454 : decode cL_law 1454 = .ok (.goto 1050, 3) := by decide +kernel
set_option maxRecDepth 100000 in
set_option maxHeartbeats 4000000 in
/-- the case 21 -/
theorem tc_21 {p : Program} {l : Launch} {e : Env} {s0 s : State} {m : MethodId} {below : List Frame} {meth : Method} {c : Code} {A : Nat → Prop} (hst : l.stackTraces = false) {dC : Nat → ClassId} {dI : Nat → Nat → Nat} {cy : Nat → ClassId} {b : Nat} {xs : Nat → Int32} {d0 : Drawn} (hd0 : s0.drawn.sameBut d0 lw_cs) (hs : s = s0.setDrawn d0) (C1 : tc_At p s m meth c b #[Value.ref b] A dC dI cy) (hX : va_X b 7 xs s s.heap) {a0 : Nat} {a1 : Nat} {a2 : Nat} {aT : Nat} {b1 : Nat} {b2 : Nat} {b3 : Nat} {b4 : Nat} {b5 : Nat} {b6 : Nat} {b7 : Nat} {m0 : Nat} {w0 : Nat} {o0 : Nat} {r_phases : Nat} {r_phase : Nat} {r_phaseTicks : Nat} {r_set : Nat} {r_least : Nat} {r_greatest : Nat} {r_from : Nat} {r_to : Nat} {r_time : Nat} {r_room : Nat} {r_first : Nat} {r_rate : Nat} {r_cost : Nat} {r_isShut : Nat} {r_slowed : Nat} {r_row : Nat} {r_size : Nat} {r_came : Nat} {r_left : Nat} {r_mostQueue : Nat} {r_sumQueue : Nat} {r_turned : Nat} {r_flowFrom : Nat} {r_flowTo : Nat} {r_kind : Nat} {r_start : Nat} {r_period : Nat} {r_count : Nat} {r_flow : Nat} {r_began : Nat} {r_state : Nat} {r_link : Nat} {r_end : Nat} {r_gone : Nat} {r_trip : Nat} {r_delay : Nat} {r_way : Nat} (H : Heap) (locs : List Loc) (ls : Array Slot) (hP : va_P (dC, dI) vwCl [(a0, .inr (8, [.ref a1, .ref aT])), (a1, .inr (5, [.ref a2, .ref b1, .ref b2, .ref b3, .ref b4, .ref b5, .int 0, .int 1, .int 0, .int 0, .int 0, .int 0])), (a2, .inr (2, [.ref b6, .int 0, .ref b7, .int 0])), (m0, .inr (10, [.ref w0, .int 0])), (w0, .inr (9, [.int 0, .int 1, .int 0, .ref r_phases, .ref r_phase, .ref r_phaseTicks, .ref r_set, .ref r_least, .ref r_greatest, .int 0, .ref r_from, .ref r_to, .ref r_time, .ref r_room, .ref r_first, .ref r_rate, .ref r_cost, .ref r_isShut, .ref r_slowed, .ref r_row, .ref r_size, .ref r_came, .ref r_left, .ref r_mostQueue, .ref r_sumQueue, .ref r_turned, .int 0, .ref r_flowFrom, .ref r_flowTo, .ref r_kind, .ref r_start, .ref r_period, .ref r_count, .int 0, .ref r_flow, .ref r_began, .ref r_state, .ref r_link, .ref r_end, .ref r_gone, .ref r_trip, .ref r_delay, .ref r_way])), (o0, .inl (cy 1, 1, .inr (.inl ((fun _ => 0)))))] H) (hD : va_D A [(a0, .inr (8, [.ref a1, .ref aT])), (a1, .inr (5, [.ref a2, .ref b1, .ref b2, .ref b3, .ref b4, .ref b5, .int 0, .int 1, .int 0, .int 0, .int 0, .int 0])), (a2, .inr (2, [.ref b6, .int 0, .ref b7, .int 0])), (m0, .inr (10, [.ref w0, .int 0])), (w0, .inr (9, [.int 0, .int 1, .int 0, .ref r_phases, .ref r_phase, .ref r_phaseTicks, .ref r_set, .ref r_least, .ref r_greatest, .int 0, .ref r_from, .ref r_to, .ref r_time, .ref r_room, .ref r_first, .ref r_rate, .ref r_cost, .ref r_isShut, .ref r_slowed, .ref r_row, .ref r_size, .ref r_came, .ref r_left, .ref r_mostQueue, .ref r_sumQueue, .ref r_turned, .int 0, .ref r_flowFrom, .ref r_flowTo, .ref r_kind, .ref r_start, .ref r_period, .ref r_count, .int 0, .ref r_flow, .ref r_began, .ref r_state, .ref r_link, .ref r_end, .ref r_gone, .ref r_trip, .ref r_delay, .ref r_way])), (o0, .inl (cy 1, 1, .inr (.inl ((fun _ => 0)))))]) (hS : va_S A s.heap H locs) (hl : lv_has ls 9 [(0, .ref b), (1, .ref a0), (2, .ref m0), (3, .ref o0), (4, .int 0)]) : W p l e room_1 s m #[Value.ref b] below meth c H locs 1535 31585 (lw_Z below #[Value.ref b] s0) (F0 m 1401 ls []) := by
  have C2 := C1
  obtain ⟨hx, hb, hr, hml, hown, hts, hbl, hlocks, hK, hE, hZ, hA, hbA, hA2⟩ := C2
  refine lv_aload_n hx hb dL_law_1401 rfl (lv_at hl 1 rfl) ?_
  refine lv_aload_n hx hb dL_law_1402 rfl (lv_at hl 0 rfl) ?_
  refine lv_iload hx hb dL_law_1403 (lv_at hl 4 rfl) ?_
  refine lv_iconst (v := 1) hx hb dL_law_1405 (by decide) ?_
  refine lv_iadd hx hb dL_law_1406 ?_
  refine va_sld hx hb hX hbl hbA hS (by unfold vp_in; decide) dL_law_1407 ?_
  refine lv_aload_n hx hb dL_law_1408 rfl (lv_at hl 3 rfl) ?_
  have hFc := va_free (wc := [(a0, .inr (8, [.ref a1, .ref aT])), (a1, .inr (5, [.ref a2, .ref b1, .ref b2, .ref b3, .ref b4, .ref b5, .int 0, .int 1, .int 0, .int 0, .int 0, .int 0])), (a2, .inr (2, [.ref b6, .int 0, .ref b7, .int 0])), (o0, .inl (cy 1, 1, .inr (.inl ((fun _ => 0)))))]) hD hS hA [0, 1, 2, 5] rfl
  refine vx_calli (vx_runSX (As := [.ref a0, .int (xs (0 + 1 : Int32).toNatClampNeg), .ref o0]) (rest := []) ⟨hx, hb, hml, hown, hts⟩ (tm_L_stateOf l hst dC dI cy a0 a1 a2 aT b1 b2 b3 b4 b5 b6 b7 o0 (xs (0 + 1 : Int32).toNatClampNeg) H.size) (tp_cwSW 3 hts tw_1004 tw_1005 tw_37 tw_1006 rfl rfl (by decide +kernel) ⟨Nat.le_of_ble_eq_true rfl, Nat.le_of_ble_eq_true rfl⟩) ⟨tp_blind, fun U hU hW => ⟨rfl, tp_pay hK hP hD hE hZ hS [0, 1, 2, 5] (by decide) rfl hFc U hU hW⟩⟩ rfl rfl hl.1 rfl (lv_room (Nat.le_of_ble_eq_true rfl)) dL_law_1409 ⟨(Nat.le_of_ble_eq_true rfl), (Nat.le_of_ble_eq_true rfl)⟩) hS (fun q _ h => hFc q h) hFc (fun q _ h => hFc q h) (fun E9 ce q9 u t H1 locs ht hvm hw hB hz1 hk1 hS hce hcv hcl => ?_) (fun r_1 u t H1 locs ht hvm hw hB hz1 hk1 hS => ?_)
  · obtain ⟨hE9, hB⟩ := hB
    exact hE9.elim
  · obtain rfl := hw
    obtain ⟨f_2, hP1, hD1⟩ := hB
    subst f_2
    rw [ht] at hP1
    obtain ⟨hP, hD⟩ := va_join (wr := [(m0, .inr (10, [.ref w0, .int 0])), (w0, .inr (9, [.int 0, .int 1, .int 0, .ref r_phases, .ref r_phase, .ref r_phaseTicks, .ref r_set, .ref r_least, .ref r_greatest, .int 0, .ref r_from, .ref r_to, .ref r_time, .ref r_room, .ref r_first, .ref r_rate, .ref r_cost, .ref r_isShut, .ref r_slowed, .ref r_row, .ref r_size, .ref r_came, .ref r_left, .ref r_mostQueue, .ref r_sumQueue, .ref r_turned, .int 0, .ref r_flowFrom, .ref r_flowTo, .ref r_kind, .ref r_start, .ref r_period, .ref r_count, .int 0, .ref r_flow, .ref r_began, .ref r_state, .ref r_link, .ref r_end, .ref r_gone, .ref r_trip, .ref r_delay, .ref r_way]))]) (w1 := [(o0, .inl (cy 1, 1, .inr (.inl ((fun _ => 0)))))]) hP hD [0, 1, 2, 5] [3, 4] rfl rfl (by decide) (by decide) hk1 hFc hP1 hD1
    generalize H1 = H at hP hS ⊢
    have hP : va_P (dC, dI) vwCl [(m0, .inr (10, [.ref w0, .int 0])), (w0, .inr (9, [.int 0, .int 1, .int 0, .ref r_phases, .ref r_phase, .ref r_phaseTicks, .ref r_set, .ref r_least, .ref r_greatest, .int 0, .ref r_from, .ref r_to, .ref r_time, .ref r_room, .ref r_first, .ref r_rate, .ref r_cost, .ref r_isShut, .ref r_slowed, .ref r_row, .ref r_size, .ref r_came, .ref r_left, .ref r_mostQueue, .ref r_sumQueue, .ref r_turned, .int 0, .ref r_flowFrom, .ref r_flowTo, .ref r_kind, .ref r_start, .ref r_period, .ref r_count, .int 0, .ref r_flow, .ref r_began, .ref r_state, .ref r_link, .ref r_end, .ref r_gone, .ref r_trip, .ref r_delay, .ref r_way])), (o0, .inl (cy 1, 1, .inr (.inl ((fun _ => 0)))))] _ := hP
    have hD : va_D A [(m0, .inr (10, [.ref w0, .int 0])), (w0, .inr (9, [.int 0, .int 1, .int 0, .ref r_phases, .ref r_phase, .ref r_phaseTicks, .ref r_set, .ref r_least, .ref r_greatest, .int 0, .ref r_from, .ref r_to, .ref r_time, .ref r_room, .ref r_first, .ref r_rate, .ref r_cost, .ref r_isShut, .ref r_slowed, .ref r_row, .ref r_size, .ref r_came, .ref r_left, .ref r_mostQueue, .ref r_sumQueue, .ref r_turned, .int 0, .ref r_flowFrom, .ref r_flowTo, .ref r_kind, .ref r_start, .ref r_period, .ref r_count, .int 0, .ref r_flow, .ref r_began, .ref r_state, .ref r_link, .ref r_end, .ref r_gone, .ref r_trip, .ref r_delay, .ref r_way])), (o0, .inl (cy 1, 1, .inr (.inl ((fun _ => 0)))))] := hD
    refine lv_istore (lv' := [(5, .int 1), (0, .ref b), (1, .ref a0), (2, .ref m0), (3, .ref o0), (4, .int 0)]) hx hb dL_law_1412 hl (by decide) rfl (fun ls hl => ?_)
    refine lv_aload_n hx hb dL_law_1414 rfl (lv_at hl 3 rfl) ?_
    refine lv_aload_n hx hb dL_law_1415 rfl (lv_at hl 1 rfl) ?_
    refine lv_iload hx hb dL_law_1416 (lv_at hl 5 rfl) ?_
    refine lv_iconst (v := 1) hx hb dL_law_1418 (by decide) ?_
    refine lv_iadd hx hb dL_law_1419 ?_
    refine va_sld hx hb hX hbl hbA hS (by unfold vp_in; decide) dL_law_1420 ?_
    have hFc := va_free (wc := [(m0, .inr (10, [.ref w0, .int 0])), (w0, .inr (9, [.int 0, .int 1, .int 0, .ref r_phases, .ref r_phase, .ref r_phaseTicks, .ref r_set, .ref r_least, .ref r_greatest, .int 0, .ref r_from, .ref r_to, .ref r_time, .ref r_room, .ref r_first, .ref r_rate, .ref r_cost, .ref r_isShut, .ref r_slowed, .ref r_row, .ref r_size, .ref r_came, .ref r_left, .ref r_mostQueue, .ref r_sumQueue, .ref r_turned, .int 0, .ref r_flowFrom, .ref r_flowTo, .ref r_kind, .ref r_start, .ref r_period, .ref r_count, .int 0, .ref r_flow, .ref r_began, .ref r_state, .ref r_link, .ref r_end, .ref r_gone, .ref r_trip, .ref r_delay, .ref r_way]))]) hD hS hA [0, 1] rfl
    refine va_calli (va_runV (As := [.int (xs (0 + 1 : Int32).toNatClampNeg)]) (rest := []) ⟨hx, hb, hml, hown, hts⟩ (tm_m_stateOf l hst dC dI cy m0 w0 0 r_phases r_phase r_phaseTicks r_set r_least r_greatest r_from r_to r_time r_room r_first r_rate r_cost r_isShut r_slowed r_row r_size r_came r_left r_mostQueue r_sumQueue r_turned r_flowFrom r_flowTo r_kind r_start r_period r_count r_flow r_began r_state r_link r_end r_gone r_trip r_delay r_way (xs (0 + 1 : Int32).toNatClampNeg) H.size) (tp_cwV 1 hts tw_1499 tw_1500 tw_1501 tw_48 tw_1502 rfl rfl (by decide +kernel) ⟨Nat.le_of_ble_eq_true rfl, Nat.le_of_ble_eq_true rfl⟩) ⟨tp_blind, va_recv hK hP (ci := 10) (q0 := 0) rfl rfl, fun U hU hW => ⟨rfl, tp_pay hK hP hD hE hZ hS [0, 1] (by decide) rfl hFc U hU hW⟩⟩ rfl rfl hl.1 rfl (lv_room (Nat.le_of_ble_eq_true rfl)) dL_law_1421 ⟨(Nat.le_of_ble_eq_true rfl), (Nat.le_of_ble_eq_true rfl)⟩) hS (fun q _ h => hFc q h) hFc (fun r_3 u t H1 locs ht hvm hw hB hz1 hk1 hS => ?_)
    obtain rfl := hw
    obtain ⟨f_4, hP1, hD1⟩ := hB
    subst f_4
    rw [ht] at hP1
    obtain ⟨hP, hD⟩ := va_join (wr := [(o0, .inl (cy 1, 1, .inr (.inl ((fun _ => 0)))))]) (w1 := [(m0, .inr (10, [.ref w0, .int 1]))]) hP hD [0, 1] [2] rfl rfl (by decide) (by decide) hk1 hFc hP1 hD1
    generalize H1 = H at hP hS ⊢
    have hP : va_P (dC, dI) vwCl [(o0, .inl (cy 1, 1, .inr (.inl ((fun _ => 0))))), (m0, .inr (10, [.ref w0, .int 1]))] _ := hP
    have hD : va_D A [(o0, .inl (cy 1, 1, .inr (.inl ((fun _ => 0))))), (m0, .inr (10, [.ref w0, .int 1]))] := hD
    refine lv_istore (lv' := [(6, .int 0), (5, .int 1), (0, .ref b), (1, .ref a0), (2, .ref m0), (3, .ref o0), (4, .int 0)]) hx hb dL_law_1424 hl (by decide) rfl (fun ls hl => ?_)
    refine lv_aload_n hx hb dL_law_1426 rfl (lv_at hl 4 rfl) ?_
    have hFc := va_free (wc := [(m0, .inr (10, [.ref w0, .int 1]))]) hD hS hA [1] rfl
    refine va_calli (va_runV (As := []) (rest := []) ⟨hx, hb, hml, hown, hts⟩ (tm_m_thrown l hst dC dI cy m0 w0 1 H.size) (tp_cwV 0 hts tw_1317 tw_1318 tw_1319 tw_48 tw_1320 rfl rfl (by decide +kernel) ⟨Nat.le_of_ble_eq_true rfl, Nat.le_of_ble_eq_true rfl⟩) ⟨tp_blind, va_recv hK hP (ci := 10) (q0 := 1) rfl rfl, fun U hU hW => ⟨rfl, tp_pay hK hP hD hE hZ hS [1] (by decide) rfl hFc U hU hW⟩⟩ rfl rfl hl.1 rfl (lv_room (Nat.le_of_ble_eq_true rfl)) dL_law_1427 ⟨(Nat.le_of_ble_eq_true rfl), (Nat.le_of_ble_eq_true rfl)⟩) hS (fun q _ h => hFc q h) hFc (fun r_5 u t H1 locs ht hvm hw hB hz1 hk1 hS => ?_)
    obtain rfl := hw
    obtain ⟨f_6, hP1, hD1⟩ := hB
    subst f_6
    rw [ht] at hP1
    obtain ⟨hP, hD⟩ := va_join (wr := [(o0, .inl (cy 1, 1, .inr (.inl ((fun _ => 0)))))]) (w1 := [(m0, .inr (10, [.ref w0, .int 1]))]) hP hD [1] [0] rfl rfl (by decide) (by decide) hk1 hFc hP1 hD1
    generalize H1 = H at hP hS ⊢
    have hP : va_P (dC, dI) vwCl [(o0, .inl (cy 1, 1, .inr (.inl ((fun _ => 0))))), (m0, .inr (10, [.ref w0, .int 1]))] _ := hP
    have hD : va_D A [(o0, .inl (cy 1, 1, .inr (.inl ((fun _ => 0))))), (m0, .inr (10, [.ref w0, .int 1]))] := hD
    refine lv_iload hx hb dL_law_1430 (lv_at hl 1 rfl) ?_
    refine lv_icmp_eq (tgt := 1437) hx hb dL_law_1432 (by decide) (fun _ => ?_) (fun c_7 => absurd rfl c_7)
    refine lv_iload hx hb dL_law_1437 (lv_at hl 1 rfl) ?_
    refine lv_if_ne (tgt := 1454) hx hb dL_law_1439 (by decide) (fun _ => ?_) (fun c_8 => absurd c_8 (by decide))
    refine lv_goto (tgt := 2504) hx hb dL_law_1454 (by decide) ?_
    exact tc_end hd0 hs C1 hX (Nat.le_of_ble_eq_true rfl) (Nat.le_of_ble_eq_true rfl) H _ ls hS (lv_sub hl [2, 6] rfl)
theorem tw_1010 : Cond.codeWith yL_linkOf cL_linkOf 4 (some .int) [(0, 9, 12, 19)] ∈ tp_all := tp_mem 1010 (by decide +kernel) rfl
theorem tw_1008 : Cond.methodLink RL 211 yL_linkOf ∈ tp_all := tp_mem 1008 (by decide +kernel) rfl
theorem tw_1009 : Cond.static yL_linkOf ∈ tp_all := tp_mem 1009 (by decide +kernel) rfl
theorem tw_1514 : Cond.code yX10_linkOf cX10_linkOf 2 (some .int) ∈ tp_all := tp_mem 1514 (by decide +kernel) rfl
theorem tw_1511 : Cond.methodLink RL 213 yX10_linkOf ∈ tp_all := tp_mem 1511 (by decide +kernel) rfl
theorem tw_1512 : Cond.instanceMethod yX10_linkOf ∈ tp_all := tp_mem 1512 (by decide +kernel) rfl
theorem tw_1513 : Cond.selects RX10 yX10_linkOf yX10_linkOf ∈ tp_all := tp_mem 1513 (by decide +kernel) rfl
theorem dL_law_1457 : decode cL_law 1457 = .ok (.aload_n 1, 1) := by decide +kernel
theorem dL_law_1458 : decode cL_law 1458 = .ok (.aload_n 0, 1) := by decide +kernel
theorem dL_law_1459 : decode cL_law 1459 = .ok (.iload 4, 2) := by decide +kernel
theorem dL_law_1461 : decode cL_law 1461 = .ok (.iconst 1, 1) := by decide +kernel
theorem dL_law_1462 : decode cL_law 1462 = .ok (.iadd, 1) := by decide +kernel
theorem dL_law_1463 : decode cL_law 1463 = .ok (.iaload, 1) := by decide +kernel
theorem dL_law_1464 : decode cL_law 1464 = .ok (.aload_n 3, 1) := by decide +kernel
theorem dL_law_1465 : decode cL_law 1465 = .ok (.invokestatic 211, 3) := by decide +kernel
theorem dL_law_1468 : decode cL_law 1468 = .ok (.istore 5, 2) := by decide +kernel
theorem dL_law_1470 : decode cL_law 1470 = .ok (.aload_n 2, 1) := by decide +kernel
theorem dL_law_1471 : decode cL_law 1471 = .ok (.aload_n 0, 1) := by decide +kernel
theorem dL_law_1472 : decode cL_law 1472 = .ok (.iload 4, 2) := by decide +kernel
theorem dL_law_1474 : decode cL_law 1474 = .ok (.iconst 1, 1) := by decide +kernel
theorem dL_law_1475 : decode cL_law 1475 = .ok (.iadd, 1) := by decide +kernel
theorem dL_law_1476 : decode cL_law 1476 = .ok (.iaload, 1) := by decide +kernel
theorem dL_law_1477 : decode cL_law 1477 = .ok (.invokevirtual 213, 3) := by decide +kernel
theorem dL_law_1480 : decode cL_law 1480 = .ok (.istore 6, 2) := by decide +kernel
theorem dL_law_1482 : decode cL_law 1482 = .ok (.aload_n 2, 1) := by decide +kernel
theorem dL_law_1483 : decode cL_law 1483 = .ok (.invokevirtual 133, 3) := by decide +kernel
theorem dL_law_1486 : decode cL_law 1486 = .ok (.iload 5, 2) := by decide +kernel
theorem dL_law_1488 : decode cL_law 1488 = .ok (.if_icmp .eq 5, 3) := by decide +kernel
theorem dL_law_1493 : decode cL_law 1493 = .ok (.iload 5, 2) := by decide +kernel
theorem dL_law_1495 : decode cL_law 1495 = .ok (.ifCond .ne 15, 3) := by decide +kernel
theorem dL_law_1510 : decode cL_law 1510 = .ok (.goto 994, 3) := by decide +kernel
set_option maxRecDepth 100000 in
set_option maxHeartbeats 4000000 in
/-- the case 22 -/
theorem tc_22 {p : Program} {l : Launch} {e : Env} {s0 s : State} {m : MethodId} {below : List Frame} {meth : Method} {c : Code} {A : Nat → Prop} (hst : l.stackTraces = false) {dC : Nat → ClassId} {dI : Nat → Nat → Nat} {cy : Nat → ClassId} {b : Nat} {xs : Nat → Int32} {d0 : Drawn} (hd0 : s0.drawn.sameBut d0 lw_cs) (hs : s = s0.setDrawn d0) (C1 : tc_At p s m meth c b #[Value.ref b] A dC dI cy) (hX : va_X b 7 xs s s.heap) {a0 : Nat} {a1 : Nat} {a2 : Nat} {aT : Nat} {b1 : Nat} {b2 : Nat} {b3 : Nat} {b4 : Nat} {b5 : Nat} {b6 : Nat} {b7 : Nat} {m0 : Nat} {w0 : Nat} {o0 : Nat} {r_phases : Nat} {r_phase : Nat} {r_phaseTicks : Nat} {r_set : Nat} {r_least : Nat} {r_greatest : Nat} {r_from : Nat} {r_to : Nat} {r_time : Nat} {r_room : Nat} {r_first : Nat} {r_rate : Nat} {r_cost : Nat} {r_isShut : Nat} {r_slowed : Nat} {r_row : Nat} {r_size : Nat} {r_came : Nat} {r_left : Nat} {r_mostQueue : Nat} {r_sumQueue : Nat} {r_turned : Nat} {r_flowFrom : Nat} {r_flowTo : Nat} {r_kind : Nat} {r_start : Nat} {r_period : Nat} {r_count : Nat} {r_flow : Nat} {r_began : Nat} {r_state : Nat} {r_link : Nat} {r_end : Nat} {r_gone : Nat} {r_trip : Nat} {r_delay : Nat} {r_way : Nat} (H : Heap) (locs : List Loc) (ls : Array Slot) (hP : va_P (dC, dI) vwCl [(a0, .inr (8, [.ref a1, .ref aT])), (a1, .inr (5, [.ref a2, .ref b1, .ref b2, .ref b3, .ref b4, .ref b5, .int 0, .int 1, .int 0, .int 0, .int 0, .int 0])), (a2, .inr (2, [.ref b6, .int 0, .ref b7, .int 0])), (m0, .inr (10, [.ref w0, .int 0])), (w0, .inr (9, [.int 0, .int 1, .int 0, .ref r_phases, .ref r_phase, .ref r_phaseTicks, .ref r_set, .ref r_least, .ref r_greatest, .int 0, .ref r_from, .ref r_to, .ref r_time, .ref r_room, .ref r_first, .ref r_rate, .ref r_cost, .ref r_isShut, .ref r_slowed, .ref r_row, .ref r_size, .ref r_came, .ref r_left, .ref r_mostQueue, .ref r_sumQueue, .ref r_turned, .int 0, .ref r_flowFrom, .ref r_flowTo, .ref r_kind, .ref r_start, .ref r_period, .ref r_count, .int 0, .ref r_flow, .ref r_began, .ref r_state, .ref r_link, .ref r_end, .ref r_gone, .ref r_trip, .ref r_delay, .ref r_way])), (o0, .inl (cy 1, 1, .inr (.inl ((fun _ => 0)))))] H) (hD : va_D A [(a0, .inr (8, [.ref a1, .ref aT])), (a1, .inr (5, [.ref a2, .ref b1, .ref b2, .ref b3, .ref b4, .ref b5, .int 0, .int 1, .int 0, .int 0, .int 0, .int 0])), (a2, .inr (2, [.ref b6, .int 0, .ref b7, .int 0])), (m0, .inr (10, [.ref w0, .int 0])), (w0, .inr (9, [.int 0, .int 1, .int 0, .ref r_phases, .ref r_phase, .ref r_phaseTicks, .ref r_set, .ref r_least, .ref r_greatest, .int 0, .ref r_from, .ref r_to, .ref r_time, .ref r_room, .ref r_first, .ref r_rate, .ref r_cost, .ref r_isShut, .ref r_slowed, .ref r_row, .ref r_size, .ref r_came, .ref r_left, .ref r_mostQueue, .ref r_sumQueue, .ref r_turned, .int 0, .ref r_flowFrom, .ref r_flowTo, .ref r_kind, .ref r_start, .ref r_period, .ref r_count, .int 0, .ref r_flow, .ref r_began, .ref r_state, .ref r_link, .ref r_end, .ref r_gone, .ref r_trip, .ref r_delay, .ref r_way])), (o0, .inl (cy 1, 1, .inr (.inl ((fun _ => 0)))))]) (hS : va_S A s.heap H locs) (hl : lv_has ls 9 [(0, .ref b), (1, .ref a0), (2, .ref m0), (3, .ref o0), (4, .int 0)]) : W p l e room_1 s m #[Value.ref b] below meth c H locs 1535 31585 (lw_Z below #[Value.ref b] s0) (F0 m 1457 ls []) := by
  have C2 := C1
  obtain ⟨hx, hb, hr, hml, hown, hts, hbl, hlocks, hK, hE, hZ, hA, hbA, hA2⟩ := C2
  refine lv_aload_n hx hb dL_law_1457 rfl (lv_at hl 1 rfl) ?_
  refine lv_aload_n hx hb dL_law_1458 rfl (lv_at hl 0 rfl) ?_
  refine lv_iload hx hb dL_law_1459 (lv_at hl 4 rfl) ?_
  refine lv_iconst (v := 1) hx hb dL_law_1461 (by decide) ?_
  refine lv_iadd hx hb dL_law_1462 ?_
  refine va_sld hx hb hX hbl hbA hS (by unfold vp_in; decide) dL_law_1463 ?_
  refine lv_aload_n hx hb dL_law_1464 rfl (lv_at hl 3 rfl) ?_
  have hFc := va_free (wc := [(a0, .inr (8, [.ref a1, .ref aT])), (a1, .inr (5, [.ref a2, .ref b1, .ref b2, .ref b3, .ref b4, .ref b5, .int 0, .int 1, .int 0, .int 0, .int 0, .int 0])), (a2, .inr (2, [.ref b6, .int 0, .ref b7, .int 0])), (o0, .inl (cy 1, 1, .inr (.inl ((fun _ => 0)))))]) hD hS hA [0, 1, 2, 5] rfl
  refine vx_calli (vx_runSX (As := [.ref a0, .int (xs (0 + 1 : Int32).toNatClampNeg), .ref o0]) (rest := []) ⟨hx, hb, hml, hown, hts⟩ (tm_L_linkOf l hst dC dI cy a0 a1 a2 aT b1 b2 b3 b4 b5 b6 b7 o0 (xs (0 + 1 : Int32).toNatClampNeg) H.size) (tp_cwSW 3 hts tw_1008 tw_1009 tw_37 tw_1010 rfl rfl (by decide +kernel) ⟨Nat.le_of_ble_eq_true rfl, Nat.le_of_ble_eq_true rfl⟩) ⟨tp_blind, fun U hU hW => ⟨rfl, tp_pay hK hP hD hE hZ hS [0, 1, 2, 5] (by decide) rfl hFc U hU hW⟩⟩ rfl rfl hl.1 rfl (lv_room (Nat.le_of_ble_eq_true rfl)) dL_law_1465 ⟨(Nat.le_of_ble_eq_true rfl), (Nat.le_of_ble_eq_true rfl)⟩) hS (fun q _ h => hFc q h) hFc (fun q _ h => hFc q h) (fun E9 ce q9 u t H1 locs ht hvm hw hB hz1 hk1 hS hce hcv hcl => ?_) (fun r_1 u t H1 locs ht hvm hw hB hz1 hk1 hS => ?_)
  · obtain ⟨hE9, hB⟩ := hB
    exact hE9.elim
  · obtain rfl := hw
    obtain ⟨f_2, hP1, hD1⟩ := hB
    subst f_2
    rw [ht] at hP1
    obtain ⟨hP, hD⟩ := va_join (wr := [(m0, .inr (10, [.ref w0, .int 0])), (w0, .inr (9, [.int 0, .int 1, .int 0, .ref r_phases, .ref r_phase, .ref r_phaseTicks, .ref r_set, .ref r_least, .ref r_greatest, .int 0, .ref r_from, .ref r_to, .ref r_time, .ref r_room, .ref r_first, .ref r_rate, .ref r_cost, .ref r_isShut, .ref r_slowed, .ref r_row, .ref r_size, .ref r_came, .ref r_left, .ref r_mostQueue, .ref r_sumQueue, .ref r_turned, .int 0, .ref r_flowFrom, .ref r_flowTo, .ref r_kind, .ref r_start, .ref r_period, .ref r_count, .int 0, .ref r_flow, .ref r_began, .ref r_state, .ref r_link, .ref r_end, .ref r_gone, .ref r_trip, .ref r_delay, .ref r_way]))]) (w1 := [(o0, .inl (cy 1, 1, .inr (.inl ((fun _ => 0)))))]) hP hD [0, 1, 2, 5] [3, 4] rfl rfl (by decide) (by decide) hk1 hFc hP1 hD1
    generalize H1 = H at hP hS ⊢
    have hP : va_P (dC, dI) vwCl [(m0, .inr (10, [.ref w0, .int 0])), (w0, .inr (9, [.int 0, .int 1, .int 0, .ref r_phases, .ref r_phase, .ref r_phaseTicks, .ref r_set, .ref r_least, .ref r_greatest, .int 0, .ref r_from, .ref r_to, .ref r_time, .ref r_room, .ref r_first, .ref r_rate, .ref r_cost, .ref r_isShut, .ref r_slowed, .ref r_row, .ref r_size, .ref r_came, .ref r_left, .ref r_mostQueue, .ref r_sumQueue, .ref r_turned, .int 0, .ref r_flowFrom, .ref r_flowTo, .ref r_kind, .ref r_start, .ref r_period, .ref r_count, .int 0, .ref r_flow, .ref r_began, .ref r_state, .ref r_link, .ref r_end, .ref r_gone, .ref r_trip, .ref r_delay, .ref r_way])), (o0, .inl (cy 1, 1, .inr (.inl ((fun _ => 0)))))] _ := hP
    have hD : va_D A [(m0, .inr (10, [.ref w0, .int 0])), (w0, .inr (9, [.int 0, .int 1, .int 0, .ref r_phases, .ref r_phase, .ref r_phaseTicks, .ref r_set, .ref r_least, .ref r_greatest, .int 0, .ref r_from, .ref r_to, .ref r_time, .ref r_room, .ref r_first, .ref r_rate, .ref r_cost, .ref r_isShut, .ref r_slowed, .ref r_row, .ref r_size, .ref r_came, .ref r_left, .ref r_mostQueue, .ref r_sumQueue, .ref r_turned, .int 0, .ref r_flowFrom, .ref r_flowTo, .ref r_kind, .ref r_start, .ref r_period, .ref r_count, .int 0, .ref r_flow, .ref r_began, .ref r_state, .ref r_link, .ref r_end, .ref r_gone, .ref r_trip, .ref r_delay, .ref r_way])), (o0, .inl (cy 1, 1, .inr (.inl ((fun _ => 0)))))] := hD
    refine lv_istore (lv' := [(5, .int 1), (0, .ref b), (1, .ref a0), (2, .ref m0), (3, .ref o0), (4, .int 0)]) hx hb dL_law_1468 hl (by decide) rfl (fun ls hl => ?_)
    refine lv_aload_n hx hb dL_law_1470 rfl (lv_at hl 3 rfl) ?_
    refine lv_aload_n hx hb dL_law_1471 rfl (lv_at hl 1 rfl) ?_
    refine lv_iload hx hb dL_law_1472 (lv_at hl 5 rfl) ?_
    refine lv_iconst (v := 1) hx hb dL_law_1474 (by decide) ?_
    refine lv_iadd hx hb dL_law_1475 ?_
    refine va_sld hx hb hX hbl hbA hS (by unfold vp_in; decide) dL_law_1476 ?_
    have hFc := va_free (wc := [(m0, .inr (10, [.ref w0, .int 0])), (w0, .inr (9, [.int 0, .int 1, .int 0, .ref r_phases, .ref r_phase, .ref r_phaseTicks, .ref r_set, .ref r_least, .ref r_greatest, .int 0, .ref r_from, .ref r_to, .ref r_time, .ref r_room, .ref r_first, .ref r_rate, .ref r_cost, .ref r_isShut, .ref r_slowed, .ref r_row, .ref r_size, .ref r_came, .ref r_left, .ref r_mostQueue, .ref r_sumQueue, .ref r_turned, .int 0, .ref r_flowFrom, .ref r_flowTo, .ref r_kind, .ref r_start, .ref r_period, .ref r_count, .int 0, .ref r_flow, .ref r_began, .ref r_state, .ref r_link, .ref r_end, .ref r_gone, .ref r_trip, .ref r_delay, .ref r_way]))]) hD hS hA [0, 1] rfl
    refine va_calli (va_runV (As := [.int (xs (0 + 1 : Int32).toNatClampNeg)]) (rest := []) ⟨hx, hb, hml, hown, hts⟩ (tm_m_linkOf l hst dC dI cy m0 w0 0 r_phases r_phase r_phaseTicks r_set r_least r_greatest r_from r_to r_time r_room r_first r_rate r_cost r_isShut r_slowed r_row r_size r_came r_left r_mostQueue r_sumQueue r_turned r_flowFrom r_flowTo r_kind r_start r_period r_count r_flow r_began r_state r_link r_end r_gone r_trip r_delay r_way (xs (0 + 1 : Int32).toNatClampNeg) H.size) (tp_cwV 1 hts tw_1511 tw_1512 tw_1513 tw_48 tw_1514 rfl rfl (by decide +kernel) ⟨Nat.le_of_ble_eq_true rfl, Nat.le_of_ble_eq_true rfl⟩) ⟨tp_blind, va_recv hK hP (ci := 10) (q0 := 0) rfl rfl, fun U hU hW => ⟨rfl, tp_pay hK hP hD hE hZ hS [0, 1] (by decide) rfl hFc U hU hW⟩⟩ rfl rfl hl.1 rfl (lv_room (Nat.le_of_ble_eq_true rfl)) dL_law_1477 ⟨(Nat.le_of_ble_eq_true rfl), (Nat.le_of_ble_eq_true rfl)⟩) hS (fun q _ h => hFc q h) hFc (fun r_3 u t H1 locs ht hvm hw hB hz1 hk1 hS => ?_)
    obtain rfl := hw
    obtain ⟨f_4, hP1, hD1⟩ := hB
    subst f_4
    rw [ht] at hP1
    obtain ⟨hP, hD⟩ := va_join (wr := [(o0, .inl (cy 1, 1, .inr (.inl ((fun _ => 0)))))]) (w1 := [(m0, .inr (10, [.ref w0, .int 1]))]) hP hD [0, 1] [2] rfl rfl (by decide) (by decide) hk1 hFc hP1 hD1
    generalize H1 = H at hP hS ⊢
    have hP : va_P (dC, dI) vwCl [(o0, .inl (cy 1, 1, .inr (.inl ((fun _ => 0))))), (m0, .inr (10, [.ref w0, .int 1]))] _ := hP
    have hD : va_D A [(o0, .inl (cy 1, 1, .inr (.inl ((fun _ => 0))))), (m0, .inr (10, [.ref w0, .int 1]))] := hD
    refine lv_istore (lv' := [(6, .int 0), (5, .int 1), (0, .ref b), (1, .ref a0), (2, .ref m0), (3, .ref o0), (4, .int 0)]) hx hb dL_law_1480 hl (by decide) rfl (fun ls hl => ?_)
    refine lv_aload_n hx hb dL_law_1482 rfl (lv_at hl 4 rfl) ?_
    have hFc := va_free (wc := [(m0, .inr (10, [.ref w0, .int 1]))]) hD hS hA [1] rfl
    refine va_calli (va_runV (As := []) (rest := []) ⟨hx, hb, hml, hown, hts⟩ (tm_m_thrown l hst dC dI cy m0 w0 1 H.size) (tp_cwV 0 hts tw_1317 tw_1318 tw_1319 tw_48 tw_1320 rfl rfl (by decide +kernel) ⟨Nat.le_of_ble_eq_true rfl, Nat.le_of_ble_eq_true rfl⟩) ⟨tp_blind, va_recv hK hP (ci := 10) (q0 := 1) rfl rfl, fun U hU hW => ⟨rfl, tp_pay hK hP hD hE hZ hS [1] (by decide) rfl hFc U hU hW⟩⟩ rfl rfl hl.1 rfl (lv_room (Nat.le_of_ble_eq_true rfl)) dL_law_1483 ⟨(Nat.le_of_ble_eq_true rfl), (Nat.le_of_ble_eq_true rfl)⟩) hS (fun q _ h => hFc q h) hFc (fun r_5 u t H1 locs ht hvm hw hB hz1 hk1 hS => ?_)
    obtain rfl := hw
    obtain ⟨f_6, hP1, hD1⟩ := hB
    subst f_6
    rw [ht] at hP1
    obtain ⟨hP, hD⟩ := va_join (wr := [(o0, .inl (cy 1, 1, .inr (.inl ((fun _ => 0)))))]) (w1 := [(m0, .inr (10, [.ref w0, .int 1]))]) hP hD [1] [0] rfl rfl (by decide) (by decide) hk1 hFc hP1 hD1
    generalize H1 = H at hP hS ⊢
    have hP : va_P (dC, dI) vwCl [(o0, .inl (cy 1, 1, .inr (.inl ((fun _ => 0))))), (m0, .inr (10, [.ref w0, .int 1]))] _ := hP
    have hD : va_D A [(o0, .inl (cy 1, 1, .inr (.inl ((fun _ => 0))))), (m0, .inr (10, [.ref w0, .int 1]))] := hD
    refine lv_iload hx hb dL_law_1486 (lv_at hl 1 rfl) ?_
    refine lv_icmp_eq (tgt := 1493) hx hb dL_law_1488 (by decide) (fun _ => ?_) (fun c_7 => absurd rfl c_7)
    refine lv_iload hx hb dL_law_1493 (lv_at hl 1 rfl) ?_
    refine lv_if_ne (tgt := 1510) hx hb dL_law_1495 (by decide) (fun _ => ?_) (fun c_8 => absurd c_8 (by decide))
    refine lv_goto (tgt := 2504) hx hb dL_law_1510 (by decide) ?_
    exact tc_end hd0 hs C1 hX (Nat.le_of_ble_eq_true rfl) (Nat.le_of_ble_eq_true rfl) H _ ls hS (lv_sub hl [2, 6] rfl)
theorem tw_1014 : Cond.codeWith yL_endOf cL_endOf 4 (some .int) [(0, 9, 12, 19)] ∈ tp_all := tp_mem 1014 (by decide +kernel) rfl
theorem tw_1012 : Cond.methodLink RL 214 yL_endOf ∈ tp_all := tp_mem 1012 (by decide +kernel) rfl
theorem tw_1013 : Cond.static yL_endOf ∈ tp_all := tp_mem 1013 (by decide +kernel) rfl
theorem tw_1518 : Cond.code yX10_endOf cX10_endOf 2 (some .int) ∈ tp_all := tp_mem 1518 (by decide +kernel) rfl
theorem tw_1515 : Cond.methodLink RL 216 yX10_endOf ∈ tp_all := tp_mem 1515 (by decide +kernel) rfl
theorem tw_1516 : Cond.instanceMethod yX10_endOf ∈ tp_all := tp_mem 1516 (by decide +kernel) rfl
theorem tw_1517 : Cond.selects RX10 yX10_endOf yX10_endOf ∈ tp_all := tp_mem 1517 (by decide +kernel) rfl
theorem dL_law_1513 : decode cL_law 1513 = .ok (.aload_n 1, 1) := by decide +kernel
theorem dL_law_1514 : decode cL_law 1514 = .ok (.aload_n 0, 1) := by decide +kernel
theorem dL_law_1515 : decode cL_law 1515 = .ok (.iload 4, 2) := by decide +kernel
theorem dL_law_1517 : decode cL_law 1517 = .ok (.iconst 1, 1) := by decide +kernel
theorem dL_law_1518 : decode cL_law 1518 = .ok (.iadd, 1) := by decide +kernel
theorem dL_law_1519 : decode cL_law 1519 = .ok (.iaload, 1) := by decide +kernel
theorem dL_law_1520 : decode cL_law 1520 = .ok (.aload_n 3, 1) := by decide +kernel
theorem dL_law_1521 : decode cL_law 1521 = .ok (.invokestatic 214, 3) := by decide +kernel
theorem dL_law_1524 : decode cL_law 1524 = .ok (.istore 5, 2) := by decide +kernel
theorem dL_law_1526 : decode cL_law 1526 = .ok (.aload_n 2, 1) := by decide +kernel
theorem dL_law_1527 : decode cL_law 1527 = .ok (.aload_n 0, 1) := by decide +kernel
theorem dL_law_1528 : decode cL_law 1528 = .ok (.iload 4, 2) := by decide +kernel
theorem dL_law_1530 : decode cL_law 1530 = .ok (.iconst 1, 1) := by decide +kernel
theorem dL_law_1531 : decode cL_law 1531 = .ok (.iadd, 1) := by decide +kernel
theorem dL_law_1532 : decode cL_law 1532 = .ok (.iaload, 1) := by decide +kernel
theorem dL_law_1533 : decode cL_law 1533 = .ok (.invokevirtual 216, 3) := by decide +kernel
theorem dL_law_1536 : decode cL_law 1536 = .ok (.istore 6, 2) := by decide +kernel
theorem dL_law_1538 : decode cL_law 1538 = .ok (.aload_n 2, 1) := by decide +kernel
theorem dL_law_1539 : decode cL_law 1539 = .ok (.invokevirtual 133, 3) := by decide +kernel
theorem dL_law_1542 : decode cL_law 1542 = .ok (.iload 5, 2) := by decide +kernel
theorem dL_law_1544 : decode cL_law 1544 = .ok (.if_icmp .eq 5, 3) := by decide +kernel
theorem dL_law_1549 : decode cL_law 1549 = .ok (.iload 5, 2) := by decide +kernel
theorem dL_law_1551 : decode cL_law 1551 = .ok (.ifCond .ne 15, 3) := by decide +kernel
theorem dL_law_1566 : decode cL_law 1566 = .ok (.goto 938, 3) := by decide +kernel
set_option maxRecDepth 100000 in
set_option maxHeartbeats 4000000 in
/-- the case 23 -/
theorem tc_23 {p : Program} {l : Launch} {e : Env} {s0 s : State} {m : MethodId} {below : List Frame} {meth : Method} {c : Code} {A : Nat → Prop} (hst : l.stackTraces = false) {dC : Nat → ClassId} {dI : Nat → Nat → Nat} {cy : Nat → ClassId} {b : Nat} {xs : Nat → Int32} {d0 : Drawn} (hd0 : s0.drawn.sameBut d0 lw_cs) (hs : s = s0.setDrawn d0) (C1 : tc_At p s m meth c b #[Value.ref b] A dC dI cy) (hX : va_X b 7 xs s s.heap) {a0 : Nat} {a1 : Nat} {a2 : Nat} {aT : Nat} {b1 : Nat} {b2 : Nat} {b3 : Nat} {b4 : Nat} {b5 : Nat} {b6 : Nat} {b7 : Nat} {m0 : Nat} {w0 : Nat} {o0 : Nat} {r_phases : Nat} {r_phase : Nat} {r_phaseTicks : Nat} {r_set : Nat} {r_least : Nat} {r_greatest : Nat} {r_from : Nat} {r_to : Nat} {r_time : Nat} {r_room : Nat} {r_first : Nat} {r_rate : Nat} {r_cost : Nat} {r_isShut : Nat} {r_slowed : Nat} {r_row : Nat} {r_size : Nat} {r_came : Nat} {r_left : Nat} {r_mostQueue : Nat} {r_sumQueue : Nat} {r_turned : Nat} {r_flowFrom : Nat} {r_flowTo : Nat} {r_kind : Nat} {r_start : Nat} {r_period : Nat} {r_count : Nat} {r_flow : Nat} {r_began : Nat} {r_state : Nat} {r_link : Nat} {r_end : Nat} {r_gone : Nat} {r_trip : Nat} {r_delay : Nat} {r_way : Nat} (H : Heap) (locs : List Loc) (ls : Array Slot) (hP : va_P (dC, dI) vwCl [(a0, .inr (8, [.ref a1, .ref aT])), (a1, .inr (5, [.ref a2, .ref b1, .ref b2, .ref b3, .ref b4, .ref b5, .int 0, .int 1, .int 0, .int 0, .int 0, .int 0])), (a2, .inr (2, [.ref b6, .int 0, .ref b7, .int 0])), (m0, .inr (10, [.ref w0, .int 0])), (w0, .inr (9, [.int 0, .int 1, .int 0, .ref r_phases, .ref r_phase, .ref r_phaseTicks, .ref r_set, .ref r_least, .ref r_greatest, .int 0, .ref r_from, .ref r_to, .ref r_time, .ref r_room, .ref r_first, .ref r_rate, .ref r_cost, .ref r_isShut, .ref r_slowed, .ref r_row, .ref r_size, .ref r_came, .ref r_left, .ref r_mostQueue, .ref r_sumQueue, .ref r_turned, .int 0, .ref r_flowFrom, .ref r_flowTo, .ref r_kind, .ref r_start, .ref r_period, .ref r_count, .int 0, .ref r_flow, .ref r_began, .ref r_state, .ref r_link, .ref r_end, .ref r_gone, .ref r_trip, .ref r_delay, .ref r_way])), (o0, .inl (cy 1, 1, .inr (.inl ((fun _ => 0)))))] H) (hD : va_D A [(a0, .inr (8, [.ref a1, .ref aT])), (a1, .inr (5, [.ref a2, .ref b1, .ref b2, .ref b3, .ref b4, .ref b5, .int 0, .int 1, .int 0, .int 0, .int 0, .int 0])), (a2, .inr (2, [.ref b6, .int 0, .ref b7, .int 0])), (m0, .inr (10, [.ref w0, .int 0])), (w0, .inr (9, [.int 0, .int 1, .int 0, .ref r_phases, .ref r_phase, .ref r_phaseTicks, .ref r_set, .ref r_least, .ref r_greatest, .int 0, .ref r_from, .ref r_to, .ref r_time, .ref r_room, .ref r_first, .ref r_rate, .ref r_cost, .ref r_isShut, .ref r_slowed, .ref r_row, .ref r_size, .ref r_came, .ref r_left, .ref r_mostQueue, .ref r_sumQueue, .ref r_turned, .int 0, .ref r_flowFrom, .ref r_flowTo, .ref r_kind, .ref r_start, .ref r_period, .ref r_count, .int 0, .ref r_flow, .ref r_began, .ref r_state, .ref r_link, .ref r_end, .ref r_gone, .ref r_trip, .ref r_delay, .ref r_way])), (o0, .inl (cy 1, 1, .inr (.inl ((fun _ => 0)))))]) (hS : va_S A s.heap H locs) (hl : lv_has ls 9 [(0, .ref b), (1, .ref a0), (2, .ref m0), (3, .ref o0), (4, .int 0)]) : W p l e room_1 s m #[Value.ref b] below meth c H locs 1535 31585 (lw_Z below #[Value.ref b] s0) (F0 m 1513 ls []) := by
  have C2 := C1
  obtain ⟨hx, hb, hr, hml, hown, hts, hbl, hlocks, hK, hE, hZ, hA, hbA, hA2⟩ := C2
  refine lv_aload_n hx hb dL_law_1513 rfl (lv_at hl 1 rfl) ?_
  refine lv_aload_n hx hb dL_law_1514 rfl (lv_at hl 0 rfl) ?_
  refine lv_iload hx hb dL_law_1515 (lv_at hl 4 rfl) ?_
  refine lv_iconst (v := 1) hx hb dL_law_1517 (by decide) ?_
  refine lv_iadd hx hb dL_law_1518 ?_
  refine va_sld hx hb hX hbl hbA hS (by unfold vp_in; decide) dL_law_1519 ?_
  refine lv_aload_n hx hb dL_law_1520 rfl (lv_at hl 3 rfl) ?_
  have hFc := va_free (wc := [(a0, .inr (8, [.ref a1, .ref aT])), (a1, .inr (5, [.ref a2, .ref b1, .ref b2, .ref b3, .ref b4, .ref b5, .int 0, .int 1, .int 0, .int 0, .int 0, .int 0])), (a2, .inr (2, [.ref b6, .int 0, .ref b7, .int 0])), (o0, .inl (cy 1, 1, .inr (.inl ((fun _ => 0)))))]) hD hS hA [0, 1, 2, 5] rfl
  refine vx_calli (vx_runSX (As := [.ref a0, .int (xs (0 + 1 : Int32).toNatClampNeg), .ref o0]) (rest := []) ⟨hx, hb, hml, hown, hts⟩ (tm_L_endOf l hst dC dI cy a0 a1 a2 aT b1 b2 b3 b4 b5 b6 b7 o0 (xs (0 + 1 : Int32).toNatClampNeg) H.size) (tp_cwSW 3 hts tw_1012 tw_1013 tw_37 tw_1014 rfl rfl (by decide +kernel) ⟨Nat.le_of_ble_eq_true rfl, Nat.le_of_ble_eq_true rfl⟩) ⟨tp_blind, fun U hU hW => ⟨rfl, tp_pay hK hP hD hE hZ hS [0, 1, 2, 5] (by decide) rfl hFc U hU hW⟩⟩ rfl rfl hl.1 rfl (lv_room (Nat.le_of_ble_eq_true rfl)) dL_law_1521 ⟨(Nat.le_of_ble_eq_true rfl), (Nat.le_of_ble_eq_true rfl)⟩) hS (fun q _ h => hFc q h) hFc (fun q _ h => hFc q h) (fun E9 ce q9 u t H1 locs ht hvm hw hB hz1 hk1 hS hce hcv hcl => ?_) (fun r_1 u t H1 locs ht hvm hw hB hz1 hk1 hS => ?_)
  · obtain ⟨hE9, hB⟩ := hB
    exact hE9.elim
  · obtain rfl := hw
    obtain ⟨f_2, hP1, hD1⟩ := hB
    subst f_2
    rw [ht] at hP1
    obtain ⟨hP, hD⟩ := va_join (wr := [(m0, .inr (10, [.ref w0, .int 0])), (w0, .inr (9, [.int 0, .int 1, .int 0, .ref r_phases, .ref r_phase, .ref r_phaseTicks, .ref r_set, .ref r_least, .ref r_greatest, .int 0, .ref r_from, .ref r_to, .ref r_time, .ref r_room, .ref r_first, .ref r_rate, .ref r_cost, .ref r_isShut, .ref r_slowed, .ref r_row, .ref r_size, .ref r_came, .ref r_left, .ref r_mostQueue, .ref r_sumQueue, .ref r_turned, .int 0, .ref r_flowFrom, .ref r_flowTo, .ref r_kind, .ref r_start, .ref r_period, .ref r_count, .int 0, .ref r_flow, .ref r_began, .ref r_state, .ref r_link, .ref r_end, .ref r_gone, .ref r_trip, .ref r_delay, .ref r_way]))]) (w1 := [(o0, .inl (cy 1, 1, .inr (.inl ((fun _ => 0)))))]) hP hD [0, 1, 2, 5] [3, 4] rfl rfl (by decide) (by decide) hk1 hFc hP1 hD1
    generalize H1 = H at hP hS ⊢
    have hP : va_P (dC, dI) vwCl [(m0, .inr (10, [.ref w0, .int 0])), (w0, .inr (9, [.int 0, .int 1, .int 0, .ref r_phases, .ref r_phase, .ref r_phaseTicks, .ref r_set, .ref r_least, .ref r_greatest, .int 0, .ref r_from, .ref r_to, .ref r_time, .ref r_room, .ref r_first, .ref r_rate, .ref r_cost, .ref r_isShut, .ref r_slowed, .ref r_row, .ref r_size, .ref r_came, .ref r_left, .ref r_mostQueue, .ref r_sumQueue, .ref r_turned, .int 0, .ref r_flowFrom, .ref r_flowTo, .ref r_kind, .ref r_start, .ref r_period, .ref r_count, .int 0, .ref r_flow, .ref r_began, .ref r_state, .ref r_link, .ref r_end, .ref r_gone, .ref r_trip, .ref r_delay, .ref r_way])), (o0, .inl (cy 1, 1, .inr (.inl ((fun _ => 0)))))] _ := hP
    have hD : va_D A [(m0, .inr (10, [.ref w0, .int 0])), (w0, .inr (9, [.int 0, .int 1, .int 0, .ref r_phases, .ref r_phase, .ref r_phaseTicks, .ref r_set, .ref r_least, .ref r_greatest, .int 0, .ref r_from, .ref r_to, .ref r_time, .ref r_room, .ref r_first, .ref r_rate, .ref r_cost, .ref r_isShut, .ref r_slowed, .ref r_row, .ref r_size, .ref r_came, .ref r_left, .ref r_mostQueue, .ref r_sumQueue, .ref r_turned, .int 0, .ref r_flowFrom, .ref r_flowTo, .ref r_kind, .ref r_start, .ref r_period, .ref r_count, .int 0, .ref r_flow, .ref r_began, .ref r_state, .ref r_link, .ref r_end, .ref r_gone, .ref r_trip, .ref r_delay, .ref r_way])), (o0, .inl (cy 1, 1, .inr (.inl ((fun _ => 0)))))] := hD
    refine lv_istore (lv' := [(5, .int 1), (0, .ref b), (1, .ref a0), (2, .ref m0), (3, .ref o0), (4, .int 0)]) hx hb dL_law_1524 hl (by decide) rfl (fun ls hl => ?_)
    refine lv_aload_n hx hb dL_law_1526 rfl (lv_at hl 3 rfl) ?_
    refine lv_aload_n hx hb dL_law_1527 rfl (lv_at hl 1 rfl) ?_
    refine lv_iload hx hb dL_law_1528 (lv_at hl 5 rfl) ?_
    refine lv_iconst (v := 1) hx hb dL_law_1530 (by decide) ?_
    refine lv_iadd hx hb dL_law_1531 ?_
    refine va_sld hx hb hX hbl hbA hS (by unfold vp_in; decide) dL_law_1532 ?_
    have hFc := va_free (wc := [(m0, .inr (10, [.ref w0, .int 0])), (w0, .inr (9, [.int 0, .int 1, .int 0, .ref r_phases, .ref r_phase, .ref r_phaseTicks, .ref r_set, .ref r_least, .ref r_greatest, .int 0, .ref r_from, .ref r_to, .ref r_time, .ref r_room, .ref r_first, .ref r_rate, .ref r_cost, .ref r_isShut, .ref r_slowed, .ref r_row, .ref r_size, .ref r_came, .ref r_left, .ref r_mostQueue, .ref r_sumQueue, .ref r_turned, .int 0, .ref r_flowFrom, .ref r_flowTo, .ref r_kind, .ref r_start, .ref r_period, .ref r_count, .int 0, .ref r_flow, .ref r_began, .ref r_state, .ref r_link, .ref r_end, .ref r_gone, .ref r_trip, .ref r_delay, .ref r_way]))]) hD hS hA [0, 1] rfl
    refine va_calli (va_runV (As := [.int (xs (0 + 1 : Int32).toNatClampNeg)]) (rest := []) ⟨hx, hb, hml, hown, hts⟩ (tm_m_endOf l hst dC dI cy m0 w0 0 r_phases r_phase r_phaseTicks r_set r_least r_greatest r_from r_to r_time r_room r_first r_rate r_cost r_isShut r_slowed r_row r_size r_came r_left r_mostQueue r_sumQueue r_turned r_flowFrom r_flowTo r_kind r_start r_period r_count r_flow r_began r_state r_link r_end r_gone r_trip r_delay r_way (xs (0 + 1 : Int32).toNatClampNeg) H.size) (tp_cwV 1 hts tw_1515 tw_1516 tw_1517 tw_48 tw_1518 rfl rfl (by decide +kernel) ⟨Nat.le_of_ble_eq_true rfl, Nat.le_of_ble_eq_true rfl⟩) ⟨tp_blind, va_recv hK hP (ci := 10) (q0 := 0) rfl rfl, fun U hU hW => ⟨rfl, tp_pay hK hP hD hE hZ hS [0, 1] (by decide) rfl hFc U hU hW⟩⟩ rfl rfl hl.1 rfl (lv_room (Nat.le_of_ble_eq_true rfl)) dL_law_1533 ⟨(Nat.le_of_ble_eq_true rfl), (Nat.le_of_ble_eq_true rfl)⟩) hS (fun q _ h => hFc q h) hFc (fun r_3 u t H1 locs ht hvm hw hB hz1 hk1 hS => ?_)
    obtain rfl := hw
    obtain ⟨f_4, hP1, hD1⟩ := hB
    subst f_4
    rw [ht] at hP1
    obtain ⟨hP, hD⟩ := va_join (wr := [(o0, .inl (cy 1, 1, .inr (.inl ((fun _ => 0)))))]) (w1 := [(m0, .inr (10, [.ref w0, .int 1]))]) hP hD [0, 1] [2] rfl rfl (by decide) (by decide) hk1 hFc hP1 hD1
    generalize H1 = H at hP hS ⊢
    have hP : va_P (dC, dI) vwCl [(o0, .inl (cy 1, 1, .inr (.inl ((fun _ => 0))))), (m0, .inr (10, [.ref w0, .int 1]))] _ := hP
    have hD : va_D A [(o0, .inl (cy 1, 1, .inr (.inl ((fun _ => 0))))), (m0, .inr (10, [.ref w0, .int 1]))] := hD
    refine lv_istore (lv' := [(6, .int 0), (5, .int 1), (0, .ref b), (1, .ref a0), (2, .ref m0), (3, .ref o0), (4, .int 0)]) hx hb dL_law_1536 hl (by decide) rfl (fun ls hl => ?_)
    refine lv_aload_n hx hb dL_law_1538 rfl (lv_at hl 4 rfl) ?_
    have hFc := va_free (wc := [(m0, .inr (10, [.ref w0, .int 1]))]) hD hS hA [1] rfl
    refine va_calli (va_runV (As := []) (rest := []) ⟨hx, hb, hml, hown, hts⟩ (tm_m_thrown l hst dC dI cy m0 w0 1 H.size) (tp_cwV 0 hts tw_1317 tw_1318 tw_1319 tw_48 tw_1320 rfl rfl (by decide +kernel) ⟨Nat.le_of_ble_eq_true rfl, Nat.le_of_ble_eq_true rfl⟩) ⟨tp_blind, va_recv hK hP (ci := 10) (q0 := 1) rfl rfl, fun U hU hW => ⟨rfl, tp_pay hK hP hD hE hZ hS [1] (by decide) rfl hFc U hU hW⟩⟩ rfl rfl hl.1 rfl (lv_room (Nat.le_of_ble_eq_true rfl)) dL_law_1539 ⟨(Nat.le_of_ble_eq_true rfl), (Nat.le_of_ble_eq_true rfl)⟩) hS (fun q _ h => hFc q h) hFc (fun r_5 u t H1 locs ht hvm hw hB hz1 hk1 hS => ?_)
    obtain rfl := hw
    obtain ⟨f_6, hP1, hD1⟩ := hB
    subst f_6
    rw [ht] at hP1
    obtain ⟨hP, hD⟩ := va_join (wr := [(o0, .inl (cy 1, 1, .inr (.inl ((fun _ => 0)))))]) (w1 := [(m0, .inr (10, [.ref w0, .int 1]))]) hP hD [1] [0] rfl rfl (by decide) (by decide) hk1 hFc hP1 hD1
    generalize H1 = H at hP hS ⊢
    have hP : va_P (dC, dI) vwCl [(o0, .inl (cy 1, 1, .inr (.inl ((fun _ => 0))))), (m0, .inr (10, [.ref w0, .int 1]))] _ := hP
    have hD : va_D A [(o0, .inl (cy 1, 1, .inr (.inl ((fun _ => 0))))), (m0, .inr (10, [.ref w0, .int 1]))] := hD
    refine lv_iload hx hb dL_law_1542 (lv_at hl 1 rfl) ?_
    refine lv_icmp_eq (tgt := 1549) hx hb dL_law_1544 (by decide) (fun _ => ?_) (fun c_7 => absurd rfl c_7)
    refine lv_iload hx hb dL_law_1549 (lv_at hl 1 rfl) ?_
    refine lv_if_ne (tgt := 1566) hx hb dL_law_1551 (by decide) (fun _ => ?_) (fun c_8 => absurd c_8 (by decide))
    refine lv_goto (tgt := 2504) hx hb dL_law_1566 (by decide) ?_
    exact tc_end hd0 hs C1 hX (Nat.le_of_ble_eq_true rfl) (Nat.le_of_ble_eq_true rfl) H _ ls hS (lv_sub hl [2, 6] rfl)
theorem tw_1018 : Cond.codeWith yL_linksOf cL_linksOf 4 (some .int) [(0, 9, 12, 19)] ∈ tp_all := tp_mem 1018 (by decide +kernel) rfl
theorem tw_1016 : Cond.methodLink RL 217 yL_linksOf ∈ tp_all := tp_mem 1016 (by decide +kernel) rfl
theorem tw_1017 : Cond.static yL_linksOf ∈ tp_all := tp_mem 1017 (by decide +kernel) rfl
theorem tw_1522 : Cond.code yX10_linksOf cX10_linksOf 2 (some .int) ∈ tp_all := tp_mem 1522 (by decide +kernel) rfl
theorem tw_1519 : Cond.methodLink RL 219 yX10_linksOf ∈ tp_all := tp_mem 1519 (by decide +kernel) rfl
theorem tw_1520 : Cond.instanceMethod yX10_linksOf ∈ tp_all := tp_mem 1520 (by decide +kernel) rfl
theorem tw_1521 : Cond.selects RX10 yX10_linksOf yX10_linksOf ∈ tp_all := tp_mem 1521 (by decide +kernel) rfl
theorem dL_law_1569 : decode cL_law 1569 = .ok (.aload_n 1, 1) := by decide +kernel
theorem dL_law_1570 : decode cL_law 1570 = .ok (.aload_n 0, 1) := by decide +kernel
theorem dL_law_1571 : decode cL_law 1571 = .ok (.iload 4, 2) := by decide +kernel
theorem dL_law_1573 : decode cL_law 1573 = .ok (.iconst 1, 1) := by decide +kernel
theorem dL_law_1574 : decode cL_law 1574 = .ok (.iadd, 1) := by decide +kernel
theorem dL_law_1575 : decode cL_law 1575 = .ok (.iaload, 1) := by decide +kernel
theorem dL_law_1576 : decode cL_law 1576 = .ok (.aload_n 3, 1) := by decide +kernel
theorem dL_law_1577 : decode cL_law 1577 = .ok (.invokestatic 217, 3) := by decide +kernel
theorem dL_law_1580 : decode cL_law 1580 = .ok (.istore 5, 2) := by decide +kernel
theorem dL_law_1582 : decode cL_law 1582 = .ok (.aload_n 2, 1) := by decide +kernel
theorem dL_law_1583 : decode cL_law 1583 = .ok (.aload_n 0, 1) := by decide +kernel
theorem dL_law_1584 : decode cL_law 1584 = .ok (.iload 4, 2) := by decide +kernel
theorem dL_law_1586 : decode cL_law 1586 = .ok (.iconst 1, 1) := by decide +kernel
theorem dL_law_1587 : decode cL_law 1587 = .ok (.iadd, 1) := by decide +kernel
theorem dL_law_1588 : decode cL_law 1588 = .ok (.iaload, 1) := by decide +kernel
theorem dL_law_1589 : decode cL_law 1589 = .ok (.invokevirtual 219, 3) := by decide +kernel
theorem dL_law_1592 : decode cL_law 1592 = .ok (.istore 6, 2) := by decide +kernel
theorem dL_law_1594 : decode cL_law 1594 = .ok (.aload_n 2, 1) := by decide +kernel
theorem dL_law_1595 : decode cL_law 1595 = .ok (.invokevirtual 133, 3) := by decide +kernel
theorem dL_law_1598 : decode cL_law 1598 = .ok (.iload 5, 2) := by decide +kernel
theorem dL_law_1600 : decode cL_law 1600 = .ok (.if_icmp .eq 5, 3) := by decide +kernel
theorem dL_law_1605 : decode cL_law 1605 = .ok (.iload 5, 2) := by decide +kernel
theorem dL_law_1607 : decode cL_law 1607 = .ok (.ifCond .ne 15, 3) := by decide +kernel
theorem dL_law_1622 : decode cL_law 1622 = .ok (.goto 882, 3) := by decide +kernel
set_option maxRecDepth 100000 in
set_option maxHeartbeats 4000000 in
/-- the case 24 -/
theorem tc_24 {p : Program} {l : Launch} {e : Env} {s0 s : State} {m : MethodId} {below : List Frame} {meth : Method} {c : Code} {A : Nat → Prop} (hst : l.stackTraces = false) {dC : Nat → ClassId} {dI : Nat → Nat → Nat} {cy : Nat → ClassId} {b : Nat} {xs : Nat → Int32} {d0 : Drawn} (hd0 : s0.drawn.sameBut d0 lw_cs) (hs : s = s0.setDrawn d0) (C1 : tc_At p s m meth c b #[Value.ref b] A dC dI cy) (hX : va_X b 7 xs s s.heap) {a0 : Nat} {a1 : Nat} {a2 : Nat} {aT : Nat} {b1 : Nat} {b2 : Nat} {b3 : Nat} {b4 : Nat} {b5 : Nat} {b6 : Nat} {b7 : Nat} {m0 : Nat} {w0 : Nat} {o0 : Nat} {r_phases : Nat} {r_phase : Nat} {r_phaseTicks : Nat} {r_set : Nat} {r_least : Nat} {r_greatest : Nat} {r_from : Nat} {r_to : Nat} {r_time : Nat} {r_room : Nat} {r_first : Nat} {r_rate : Nat} {r_cost : Nat} {r_isShut : Nat} {r_slowed : Nat} {r_row : Nat} {r_size : Nat} {r_came : Nat} {r_left : Nat} {r_mostQueue : Nat} {r_sumQueue : Nat} {r_turned : Nat} {r_flowFrom : Nat} {r_flowTo : Nat} {r_kind : Nat} {r_start : Nat} {r_period : Nat} {r_count : Nat} {r_flow : Nat} {r_began : Nat} {r_state : Nat} {r_link : Nat} {r_end : Nat} {r_gone : Nat} {r_trip : Nat} {r_delay : Nat} {r_way : Nat} (H : Heap) (locs : List Loc) (ls : Array Slot) (hP : va_P (dC, dI) vwCl [(a0, .inr (8, [.ref a1, .ref aT])), (a1, .inr (5, [.ref a2, .ref b1, .ref b2, .ref b3, .ref b4, .ref b5, .int 0, .int 1, .int 0, .int 0, .int 0, .int 0])), (a2, .inr (2, [.ref b6, .int 0, .ref b7, .int 0])), (m0, .inr (10, [.ref w0, .int 0])), (w0, .inr (9, [.int 0, .int 1, .int 0, .ref r_phases, .ref r_phase, .ref r_phaseTicks, .ref r_set, .ref r_least, .ref r_greatest, .int 0, .ref r_from, .ref r_to, .ref r_time, .ref r_room, .ref r_first, .ref r_rate, .ref r_cost, .ref r_isShut, .ref r_slowed, .ref r_row, .ref r_size, .ref r_came, .ref r_left, .ref r_mostQueue, .ref r_sumQueue, .ref r_turned, .int 0, .ref r_flowFrom, .ref r_flowTo, .ref r_kind, .ref r_start, .ref r_period, .ref r_count, .int 0, .ref r_flow, .ref r_began, .ref r_state, .ref r_link, .ref r_end, .ref r_gone, .ref r_trip, .ref r_delay, .ref r_way])), (o0, .inl (cy 1, 1, .inr (.inl ((fun _ => 0)))))] H) (hD : va_D A [(a0, .inr (8, [.ref a1, .ref aT])), (a1, .inr (5, [.ref a2, .ref b1, .ref b2, .ref b3, .ref b4, .ref b5, .int 0, .int 1, .int 0, .int 0, .int 0, .int 0])), (a2, .inr (2, [.ref b6, .int 0, .ref b7, .int 0])), (m0, .inr (10, [.ref w0, .int 0])), (w0, .inr (9, [.int 0, .int 1, .int 0, .ref r_phases, .ref r_phase, .ref r_phaseTicks, .ref r_set, .ref r_least, .ref r_greatest, .int 0, .ref r_from, .ref r_to, .ref r_time, .ref r_room, .ref r_first, .ref r_rate, .ref r_cost, .ref r_isShut, .ref r_slowed, .ref r_row, .ref r_size, .ref r_came, .ref r_left, .ref r_mostQueue, .ref r_sumQueue, .ref r_turned, .int 0, .ref r_flowFrom, .ref r_flowTo, .ref r_kind, .ref r_start, .ref r_period, .ref r_count, .int 0, .ref r_flow, .ref r_began, .ref r_state, .ref r_link, .ref r_end, .ref r_gone, .ref r_trip, .ref r_delay, .ref r_way])), (o0, .inl (cy 1, 1, .inr (.inl ((fun _ => 0)))))]) (hS : va_S A s.heap H locs) (hl : lv_has ls 9 [(0, .ref b), (1, .ref a0), (2, .ref m0), (3, .ref o0), (4, .int 0)]) : W p l e room_1 s m #[Value.ref b] below meth c H locs 1535 31585 (lw_Z below #[Value.ref b] s0) (F0 m 1569 ls []) := by
  have C2 := C1
  obtain ⟨hx, hb, hr, hml, hown, hts, hbl, hlocks, hK, hE, hZ, hA, hbA, hA2⟩ := C2
  refine lv_aload_n hx hb dL_law_1569 rfl (lv_at hl 1 rfl) ?_
  refine lv_aload_n hx hb dL_law_1570 rfl (lv_at hl 0 rfl) ?_
  refine lv_iload hx hb dL_law_1571 (lv_at hl 4 rfl) ?_
  refine lv_iconst (v := 1) hx hb dL_law_1573 (by decide) ?_
  refine lv_iadd hx hb dL_law_1574 ?_
  refine va_sld hx hb hX hbl hbA hS (by unfold vp_in; decide) dL_law_1575 ?_
  refine lv_aload_n hx hb dL_law_1576 rfl (lv_at hl 3 rfl) ?_
  have hFc := va_free (wc := [(a0, .inr (8, [.ref a1, .ref aT])), (a1, .inr (5, [.ref a2, .ref b1, .ref b2, .ref b3, .ref b4, .ref b5, .int 0, .int 1, .int 0, .int 0, .int 0, .int 0])), (a2, .inr (2, [.ref b6, .int 0, .ref b7, .int 0])), (o0, .inl (cy 1, 1, .inr (.inl ((fun _ => 0)))))]) hD hS hA [0, 1, 2, 5] rfl
  refine vx_calli (vx_runSX (As := [.ref a0, .int (xs (0 + 1 : Int32).toNatClampNeg), .ref o0]) (rest := []) ⟨hx, hb, hml, hown, hts⟩ (tm_L_linksOf l hst dC dI cy a0 a1 a2 aT b1 b2 b3 b4 b5 b6 b7 o0 (xs (0 + 1 : Int32).toNatClampNeg) H.size) (tp_cwSW 3 hts tw_1016 tw_1017 tw_37 tw_1018 rfl rfl (by decide +kernel) ⟨Nat.le_of_ble_eq_true rfl, Nat.le_of_ble_eq_true rfl⟩) ⟨tp_blind, fun U hU hW => ⟨rfl, tp_pay hK hP hD hE hZ hS [0, 1, 2, 5] (by decide) rfl hFc U hU hW⟩⟩ rfl rfl hl.1 rfl (lv_room (Nat.le_of_ble_eq_true rfl)) dL_law_1577 ⟨(Nat.le_of_ble_eq_true rfl), (Nat.le_of_ble_eq_true rfl)⟩) hS (fun q _ h => hFc q h) hFc (fun q _ h => hFc q h) (fun E9 ce q9 u t H1 locs ht hvm hw hB hz1 hk1 hS hce hcv hcl => ?_) (fun r_1 u t H1 locs ht hvm hw hB hz1 hk1 hS => ?_)
  · obtain ⟨hE9, hB⟩ := hB
    exact hE9.elim
  · obtain rfl := hw
    obtain ⟨f_2, hP1, hD1⟩ := hB
    subst f_2
    rw [ht] at hP1
    obtain ⟨hP, hD⟩ := va_join (wr := [(m0, .inr (10, [.ref w0, .int 0])), (w0, .inr (9, [.int 0, .int 1, .int 0, .ref r_phases, .ref r_phase, .ref r_phaseTicks, .ref r_set, .ref r_least, .ref r_greatest, .int 0, .ref r_from, .ref r_to, .ref r_time, .ref r_room, .ref r_first, .ref r_rate, .ref r_cost, .ref r_isShut, .ref r_slowed, .ref r_row, .ref r_size, .ref r_came, .ref r_left, .ref r_mostQueue, .ref r_sumQueue, .ref r_turned, .int 0, .ref r_flowFrom, .ref r_flowTo, .ref r_kind, .ref r_start, .ref r_period, .ref r_count, .int 0, .ref r_flow, .ref r_began, .ref r_state, .ref r_link, .ref r_end, .ref r_gone, .ref r_trip, .ref r_delay, .ref r_way]))]) (w1 := [(o0, .inl (cy 1, 1, .inr (.inl ((fun _ => 0)))))]) hP hD [0, 1, 2, 5] [3, 4] rfl rfl (by decide) (by decide) hk1 hFc hP1 hD1
    generalize H1 = H at hP hS ⊢
    have hP : va_P (dC, dI) vwCl [(m0, .inr (10, [.ref w0, .int 0])), (w0, .inr (9, [.int 0, .int 1, .int 0, .ref r_phases, .ref r_phase, .ref r_phaseTicks, .ref r_set, .ref r_least, .ref r_greatest, .int 0, .ref r_from, .ref r_to, .ref r_time, .ref r_room, .ref r_first, .ref r_rate, .ref r_cost, .ref r_isShut, .ref r_slowed, .ref r_row, .ref r_size, .ref r_came, .ref r_left, .ref r_mostQueue, .ref r_sumQueue, .ref r_turned, .int 0, .ref r_flowFrom, .ref r_flowTo, .ref r_kind, .ref r_start, .ref r_period, .ref r_count, .int 0, .ref r_flow, .ref r_began, .ref r_state, .ref r_link, .ref r_end, .ref r_gone, .ref r_trip, .ref r_delay, .ref r_way])), (o0, .inl (cy 1, 1, .inr (.inl ((fun _ => 0)))))] _ := hP
    have hD : va_D A [(m0, .inr (10, [.ref w0, .int 0])), (w0, .inr (9, [.int 0, .int 1, .int 0, .ref r_phases, .ref r_phase, .ref r_phaseTicks, .ref r_set, .ref r_least, .ref r_greatest, .int 0, .ref r_from, .ref r_to, .ref r_time, .ref r_room, .ref r_first, .ref r_rate, .ref r_cost, .ref r_isShut, .ref r_slowed, .ref r_row, .ref r_size, .ref r_came, .ref r_left, .ref r_mostQueue, .ref r_sumQueue, .ref r_turned, .int 0, .ref r_flowFrom, .ref r_flowTo, .ref r_kind, .ref r_start, .ref r_period, .ref r_count, .int 0, .ref r_flow, .ref r_began, .ref r_state, .ref r_link, .ref r_end, .ref r_gone, .ref r_trip, .ref r_delay, .ref r_way])), (o0, .inl (cy 1, 1, .inr (.inl ((fun _ => 0)))))] := hD
    refine lv_istore (lv' := [(5, .int 1), (0, .ref b), (1, .ref a0), (2, .ref m0), (3, .ref o0), (4, .int 0)]) hx hb dL_law_1580 hl (by decide) rfl (fun ls hl => ?_)
    refine lv_aload_n hx hb dL_law_1582 rfl (lv_at hl 3 rfl) ?_
    refine lv_aload_n hx hb dL_law_1583 rfl (lv_at hl 1 rfl) ?_
    refine lv_iload hx hb dL_law_1584 (lv_at hl 5 rfl) ?_
    refine lv_iconst (v := 1) hx hb dL_law_1586 (by decide) ?_
    refine lv_iadd hx hb dL_law_1587 ?_
    refine va_sld hx hb hX hbl hbA hS (by unfold vp_in; decide) dL_law_1588 ?_
    have hFc := va_free (wc := [(m0, .inr (10, [.ref w0, .int 0])), (w0, .inr (9, [.int 0, .int 1, .int 0, .ref r_phases, .ref r_phase, .ref r_phaseTicks, .ref r_set, .ref r_least, .ref r_greatest, .int 0, .ref r_from, .ref r_to, .ref r_time, .ref r_room, .ref r_first, .ref r_rate, .ref r_cost, .ref r_isShut, .ref r_slowed, .ref r_row, .ref r_size, .ref r_came, .ref r_left, .ref r_mostQueue, .ref r_sumQueue, .ref r_turned, .int 0, .ref r_flowFrom, .ref r_flowTo, .ref r_kind, .ref r_start, .ref r_period, .ref r_count, .int 0, .ref r_flow, .ref r_began, .ref r_state, .ref r_link, .ref r_end, .ref r_gone, .ref r_trip, .ref r_delay, .ref r_way]))]) hD hS hA [0, 1] rfl
    refine va_calli (va_runV (As := [.int (xs (0 + 1 : Int32).toNatClampNeg)]) (rest := []) ⟨hx, hb, hml, hown, hts⟩ (tm_m_linksOf l hst dC dI cy m0 w0 0 r_phases r_phase r_phaseTicks r_set r_least r_greatest r_from r_to r_time r_room r_first r_rate r_cost r_isShut r_slowed r_row r_size r_came r_left r_mostQueue r_sumQueue r_turned r_flowFrom r_flowTo r_kind r_start r_period r_count r_flow r_began r_state r_link r_end r_gone r_trip r_delay r_way (xs (0 + 1 : Int32).toNatClampNeg) H.size) (tp_cwV 1 hts tw_1519 tw_1520 tw_1521 tw_48 tw_1522 rfl rfl (by decide +kernel) ⟨Nat.le_of_ble_eq_true rfl, Nat.le_of_ble_eq_true rfl⟩) ⟨tp_blind, va_recv hK hP (ci := 10) (q0 := 0) rfl rfl, fun U hU hW => ⟨rfl, tp_pay hK hP hD hE hZ hS [0, 1] (by decide) rfl hFc U hU hW⟩⟩ rfl rfl hl.1 rfl (lv_room (Nat.le_of_ble_eq_true rfl)) dL_law_1589 ⟨(Nat.le_of_ble_eq_true rfl), (Nat.le_of_ble_eq_true rfl)⟩) hS (fun q _ h => hFc q h) hFc (fun r_3 u t H1 locs ht hvm hw hB hz1 hk1 hS => ?_)
    obtain rfl := hw
    obtain ⟨f_4, hP1, hD1⟩ := hB
    subst f_4
    rw [ht] at hP1
    obtain ⟨hP, hD⟩ := va_join (wr := [(o0, .inl (cy 1, 1, .inr (.inl ((fun _ => 0)))))]) (w1 := [(m0, .inr (10, [.ref w0, .int 1]))]) hP hD [0, 1] [2] rfl rfl (by decide) (by decide) hk1 hFc hP1 hD1
    generalize H1 = H at hP hS ⊢
    have hP : va_P (dC, dI) vwCl [(o0, .inl (cy 1, 1, .inr (.inl ((fun _ => 0))))), (m0, .inr (10, [.ref w0, .int 1]))] _ := hP
    have hD : va_D A [(o0, .inl (cy 1, 1, .inr (.inl ((fun _ => 0))))), (m0, .inr (10, [.ref w0, .int 1]))] := hD
    refine lv_istore (lv' := [(6, .int 0), (5, .int 1), (0, .ref b), (1, .ref a0), (2, .ref m0), (3, .ref o0), (4, .int 0)]) hx hb dL_law_1592 hl (by decide) rfl (fun ls hl => ?_)
    refine lv_aload_n hx hb dL_law_1594 rfl (lv_at hl 4 rfl) ?_
    have hFc := va_free (wc := [(m0, .inr (10, [.ref w0, .int 1]))]) hD hS hA [1] rfl
    refine va_calli (va_runV (As := []) (rest := []) ⟨hx, hb, hml, hown, hts⟩ (tm_m_thrown l hst dC dI cy m0 w0 1 H.size) (tp_cwV 0 hts tw_1317 tw_1318 tw_1319 tw_48 tw_1320 rfl rfl (by decide +kernel) ⟨Nat.le_of_ble_eq_true rfl, Nat.le_of_ble_eq_true rfl⟩) ⟨tp_blind, va_recv hK hP (ci := 10) (q0 := 1) rfl rfl, fun U hU hW => ⟨rfl, tp_pay hK hP hD hE hZ hS [1] (by decide) rfl hFc U hU hW⟩⟩ rfl rfl hl.1 rfl (lv_room (Nat.le_of_ble_eq_true rfl)) dL_law_1595 ⟨(Nat.le_of_ble_eq_true rfl), (Nat.le_of_ble_eq_true rfl)⟩) hS (fun q _ h => hFc q h) hFc (fun r_5 u t H1 locs ht hvm hw hB hz1 hk1 hS => ?_)
    obtain rfl := hw
    obtain ⟨f_6, hP1, hD1⟩ := hB
    subst f_6
    rw [ht] at hP1
    obtain ⟨hP, hD⟩ := va_join (wr := [(o0, .inl (cy 1, 1, .inr (.inl ((fun _ => 0)))))]) (w1 := [(m0, .inr (10, [.ref w0, .int 1]))]) hP hD [1] [0] rfl rfl (by decide) (by decide) hk1 hFc hP1 hD1
    generalize H1 = H at hP hS ⊢
    have hP : va_P (dC, dI) vwCl [(o0, .inl (cy 1, 1, .inr (.inl ((fun _ => 0))))), (m0, .inr (10, [.ref w0, .int 1]))] _ := hP
    have hD : va_D A [(o0, .inl (cy 1, 1, .inr (.inl ((fun _ => 0))))), (m0, .inr (10, [.ref w0, .int 1]))] := hD
    refine lv_iload hx hb dL_law_1598 (lv_at hl 1 rfl) ?_
    refine lv_icmp_eq (tgt := 1605) hx hb dL_law_1600 (by decide) (fun _ => ?_) (fun c_7 => absurd rfl c_7)
    refine lv_iload hx hb dL_law_1605 (lv_at hl 1 rfl) ?_
    refine lv_if_ne (tgt := 1622) hx hb dL_law_1607 (by decide) (fun _ => ?_) (fun c_8 => absurd c_8 (by decide))
    refine lv_goto (tgt := 2504) hx hb dL_law_1622 (by decide) ?_
    exact tc_end hd0 hs C1 hX (Nat.le_of_ble_eq_true rfl) (Nat.le_of_ble_eq_true rfl) H _ ls hS (lv_sub hl [2, 6] rfl)
theorem tw_1022 : Cond.codeWith yL_linkAt cL_linkAt 5 (some .int) [(0, 10, 13, 19)] ∈ tp_all := tp_mem 1022 (by decide +kernel) rfl
theorem tw_1020 : Cond.methodLink RL 220 yL_linkAt ∈ tp_all := tp_mem 1020 (by decide +kernel) rfl
theorem tw_1021 : Cond.static yL_linkAt ∈ tp_all := tp_mem 1021 (by decide +kernel) rfl
theorem tw_1526 : Cond.code yX10_linkAt cX10_linkAt 3 (some .int) ∈ tp_all := tp_mem 1526 (by decide +kernel) rfl
theorem tw_1523 : Cond.methodLink RL 222 yX10_linkAt ∈ tp_all := tp_mem 1523 (by decide +kernel) rfl
theorem tw_1524 : Cond.instanceMethod yX10_linkAt ∈ tp_all := tp_mem 1524 (by decide +kernel) rfl
theorem tw_1525 : Cond.selects RX10 yX10_linkAt yX10_linkAt ∈ tp_all := tp_mem 1525 (by decide +kernel) rfl
theorem dL_law_1625 : decode cL_law 1625 = .ok (.aload_n 1, 1) := by decide +kernel
theorem dL_law_1626 : decode cL_law 1626 = .ok (.aload_n 0, 1) := by decide +kernel
theorem dL_law_1627 : decode cL_law 1627 = .ok (.iload 4, 2) := by decide +kernel
theorem dL_law_1629 : decode cL_law 1629 = .ok (.iconst 1, 1) := by decide +kernel
theorem dL_law_1630 : decode cL_law 1630 = .ok (.iadd, 1) := by decide +kernel
theorem dL_law_1631 : decode cL_law 1631 = .ok (.iaload, 1) := by decide +kernel
theorem dL_law_1632 : decode cL_law 1632 = .ok (.aload_n 0, 1) := by decide +kernel
theorem dL_law_1633 : decode cL_law 1633 = .ok (.iload 4, 2) := by decide +kernel
theorem dL_law_1635 : decode cL_law 1635 = .ok (.iconst 2, 1) := by decide +kernel
theorem dL_law_1636 : decode cL_law 1636 = .ok (.iadd, 1) := by decide +kernel
theorem dL_law_1637 : decode cL_law 1637 = .ok (.iaload, 1) := by decide +kernel
theorem dL_law_1638 : decode cL_law 1638 = .ok (.aload_n 3, 1) := by decide +kernel
theorem dL_law_1639 : decode cL_law 1639 = .ok (.invokestatic 220, 3) := by decide +kernel
theorem dL_law_1642 : decode cL_law 1642 = .ok (.istore 5, 2) := by decide +kernel
theorem dL_law_1644 : decode cL_law 1644 = .ok (.aload_n 2, 1) := by decide +kernel
theorem dL_law_1645 : decode cL_law 1645 = .ok (.aload_n 0, 1) := by decide +kernel
theorem dL_law_1646 : decode cL_law 1646 = .ok (.iload 4, 2) := by decide +kernel
theorem dL_law_1648 : decode cL_law 1648 = .ok (.iconst 1, 1) := by decide +kernel
theorem dL_law_1649 : decode cL_law 1649 = .ok (.iadd, 1) := by decide +kernel
theorem dL_law_1650 : decode cL_law 1650 = .ok (.iaload, 1) := by decide +kernel
theorem dL_law_1651 : decode cL_law 1651 = .ok (.aload_n 0, 1) := by decide +kernel
theorem dL_law_1652 : decode cL_law 1652 = .ok (.iload 4, 2) := by decide +kernel
theorem dL_law_1654 : decode cL_law 1654 = .ok (.iconst 2, 1) := by decide +kernel
theorem dL_law_1655 : decode cL_law 1655 = .ok (.iadd, 1) := by decide +kernel
theorem dL_law_1656 : decode cL_law 1656 = .ok (.iaload, 1) := by decide +kernel
theorem dL_law_1657 : decode cL_law 1657 = .ok (.invokevirtual 222, 3) := by decide +kernel
theorem dL_law_1660 : decode cL_law 1660 = .ok (.istore 6, 2) := by decide +kernel
theorem dL_law_1662 : decode cL_law 1662 = .ok (.aload_n 2, 1) := by decide +kernel
theorem dL_law_1663 : decode cL_law 1663 = .ok (.invokevirtual 133, 3) := by decide +kernel
theorem dL_law_1666 : decode cL_law 1666 = .ok (.iload 5, 2) := by decide +kernel
theorem dL_law_1668 : decode cL_law 1668 = .ok (.if_icmp .eq 5, 3) := by decide +kernel
theorem dL_law_1673 : decode cL_law 1673 = .ok (.iload 5, 2) := by decide +kernel
theorem dL_law_1675 : decode cL_law 1675 = .ok (.ifCond .ne 15, 3) := by decide +kernel
theorem dL_law_1690 : decode cL_law 1690 = .ok (.goto 814, 3) := by decide +kernel
set_option maxRecDepth 100000 in
set_option maxHeartbeats 4000000 in
/-- the case 25 -/
theorem tc_25 {p : Program} {l : Launch} {e : Env} {s0 s : State} {m : MethodId} {below : List Frame} {meth : Method} {c : Code} {A : Nat → Prop} (hst : l.stackTraces = false) {dC : Nat → ClassId} {dI : Nat → Nat → Nat} {cy : Nat → ClassId} {b : Nat} {xs : Nat → Int32} {d0 : Drawn} (hd0 : s0.drawn.sameBut d0 lw_cs) (hs : s = s0.setDrawn d0) (C1 : tc_At p s m meth c b #[Value.ref b] A dC dI cy) (hX : va_X b 7 xs s s.heap) {a0 : Nat} {a1 : Nat} {a2 : Nat} {aT : Nat} {b1 : Nat} {b2 : Nat} {b3 : Nat} {b4 : Nat} {b5 : Nat} {b6 : Nat} {b7 : Nat} {m0 : Nat} {w0 : Nat} {o0 : Nat} {r_phases : Nat} {r_phase : Nat} {r_phaseTicks : Nat} {r_set : Nat} {r_least : Nat} {r_greatest : Nat} {r_from : Nat} {r_to : Nat} {r_time : Nat} {r_room : Nat} {r_first : Nat} {r_rate : Nat} {r_cost : Nat} {r_isShut : Nat} {r_slowed : Nat} {r_row : Nat} {r_size : Nat} {r_came : Nat} {r_left : Nat} {r_mostQueue : Nat} {r_sumQueue : Nat} {r_turned : Nat} {r_flowFrom : Nat} {r_flowTo : Nat} {r_kind : Nat} {r_start : Nat} {r_period : Nat} {r_count : Nat} {r_flow : Nat} {r_began : Nat} {r_state : Nat} {r_link : Nat} {r_end : Nat} {r_gone : Nat} {r_trip : Nat} {r_delay : Nat} {r_way : Nat} (H : Heap) (locs : List Loc) (ls : Array Slot) (hP : va_P (dC, dI) vwCl [(a0, .inr (8, [.ref a1, .ref aT])), (a1, .inr (5, [.ref a2, .ref b1, .ref b2, .ref b3, .ref b4, .ref b5, .int 0, .int 1, .int 0, .int 0, .int 0, .int 0])), (a2, .inr (2, [.ref b6, .int 0, .ref b7, .int 0])), (m0, .inr (10, [.ref w0, .int 0])), (w0, .inr (9, [.int 0, .int 1, .int 0, .ref r_phases, .ref r_phase, .ref r_phaseTicks, .ref r_set, .ref r_least, .ref r_greatest, .int 0, .ref r_from, .ref r_to, .ref r_time, .ref r_room, .ref r_first, .ref r_rate, .ref r_cost, .ref r_isShut, .ref r_slowed, .ref r_row, .ref r_size, .ref r_came, .ref r_left, .ref r_mostQueue, .ref r_sumQueue, .ref r_turned, .int 0, .ref r_flowFrom, .ref r_flowTo, .ref r_kind, .ref r_start, .ref r_period, .ref r_count, .int 0, .ref r_flow, .ref r_began, .ref r_state, .ref r_link, .ref r_end, .ref r_gone, .ref r_trip, .ref r_delay, .ref r_way])), (o0, .inl (cy 1, 1, .inr (.inl ((fun _ => 0)))))] H) (hD : va_D A [(a0, .inr (8, [.ref a1, .ref aT])), (a1, .inr (5, [.ref a2, .ref b1, .ref b2, .ref b3, .ref b4, .ref b5, .int 0, .int 1, .int 0, .int 0, .int 0, .int 0])), (a2, .inr (2, [.ref b6, .int 0, .ref b7, .int 0])), (m0, .inr (10, [.ref w0, .int 0])), (w0, .inr (9, [.int 0, .int 1, .int 0, .ref r_phases, .ref r_phase, .ref r_phaseTicks, .ref r_set, .ref r_least, .ref r_greatest, .int 0, .ref r_from, .ref r_to, .ref r_time, .ref r_room, .ref r_first, .ref r_rate, .ref r_cost, .ref r_isShut, .ref r_slowed, .ref r_row, .ref r_size, .ref r_came, .ref r_left, .ref r_mostQueue, .ref r_sumQueue, .ref r_turned, .int 0, .ref r_flowFrom, .ref r_flowTo, .ref r_kind, .ref r_start, .ref r_period, .ref r_count, .int 0, .ref r_flow, .ref r_began, .ref r_state, .ref r_link, .ref r_end, .ref r_gone, .ref r_trip, .ref r_delay, .ref r_way])), (o0, .inl (cy 1, 1, .inr (.inl ((fun _ => 0)))))]) (hS : va_S A s.heap H locs) (hl : lv_has ls 9 [(0, .ref b), (1, .ref a0), (2, .ref m0), (3, .ref o0), (4, .int 0)]) : W p l e room_1 s m #[Value.ref b] below meth c H locs 1535 31585 (lw_Z below #[Value.ref b] s0) (F0 m 1625 ls []) := by
  have C2 := C1
  obtain ⟨hx, hb, hr, hml, hown, hts, hbl, hlocks, hK, hE, hZ, hA, hbA, hA2⟩ := C2
  refine lv_aload_n hx hb dL_law_1625 rfl (lv_at hl 1 rfl) ?_
  refine lv_aload_n hx hb dL_law_1626 rfl (lv_at hl 0 rfl) ?_
  refine lv_iload hx hb dL_law_1627 (lv_at hl 4 rfl) ?_
  refine lv_iconst (v := 1) hx hb dL_law_1629 (by decide) ?_
  refine lv_iadd hx hb dL_law_1630 ?_
  refine va_sld hx hb hX hbl hbA hS (by unfold vp_in; decide) dL_law_1631 ?_
  refine lv_aload_n hx hb dL_law_1632 rfl (lv_at hl 0 rfl) ?_
  refine lv_iload hx hb dL_law_1633 (lv_at hl 4 rfl) ?_
  refine lv_iconst (v := 2) hx hb dL_law_1635 (by decide) ?_
  refine lv_iadd hx hb dL_law_1636 ?_
  refine va_sld hx hb hX hbl hbA hS (by unfold vp_in; decide) dL_law_1637 ?_
  refine lv_aload_n hx hb dL_law_1638 rfl (lv_at hl 3 rfl) ?_
  have hFc := va_free (wc := [(a0, .inr (8, [.ref a1, .ref aT])), (a1, .inr (5, [.ref a2, .ref b1, .ref b2, .ref b3, .ref b4, .ref b5, .int 0, .int 1, .int 0, .int 0, .int 0, .int 0])), (a2, .inr (2, [.ref b6, .int 0, .ref b7, .int 0])), (o0, .inl (cy 1, 1, .inr (.inl ((fun _ => 0)))))]) hD hS hA [0, 1, 2, 5] rfl
  refine vx_calli (vx_runSX (As := [.ref a0, .int (xs (0 + 1 : Int32).toNatClampNeg), .int (xs (0 + 2 : Int32).toNatClampNeg), .ref o0]) (rest := []) ⟨hx, hb, hml, hown, hts⟩ (tm_L_linkAt l hst dC dI cy a0 a1 a2 aT b1 b2 b3 b4 b5 b6 b7 o0 (xs (0 + 1 : Int32).toNatClampNeg) (xs (0 + 2 : Int32).toNatClampNeg) H.size) (tp_cwSW 4 hts tw_1020 tw_1021 tw_37 tw_1022 rfl rfl (by decide +kernel) ⟨Nat.le_of_ble_eq_true rfl, Nat.le_of_ble_eq_true rfl⟩) ⟨tp_blind, fun U hU hW => ⟨rfl, tp_pay hK hP hD hE hZ hS [0, 1, 2, 5] (by decide) rfl hFc U hU hW⟩⟩ rfl rfl hl.1 rfl (lv_room (Nat.le_of_ble_eq_true rfl)) dL_law_1639 ⟨(Nat.le_of_ble_eq_true rfl), (Nat.le_of_ble_eq_true rfl)⟩) hS (fun q _ h => hFc q h) hFc (fun q _ h => hFc q h) (fun E9 ce q9 u t H1 locs ht hvm hw hB hz1 hk1 hS hce hcv hcl => ?_) (fun r_1 u t H1 locs ht hvm hw hB hz1 hk1 hS => ?_)
  · obtain ⟨hE9, hB⟩ := hB
    exact hE9.elim
  · obtain rfl := hw
    obtain ⟨f_2, hP1, hD1⟩ := hB
    subst f_2
    rw [ht] at hP1
    obtain ⟨hP, hD⟩ := va_join (wr := [(m0, .inr (10, [.ref w0, .int 0])), (w0, .inr (9, [.int 0, .int 1, .int 0, .ref r_phases, .ref r_phase, .ref r_phaseTicks, .ref r_set, .ref r_least, .ref r_greatest, .int 0, .ref r_from, .ref r_to, .ref r_time, .ref r_room, .ref r_first, .ref r_rate, .ref r_cost, .ref r_isShut, .ref r_slowed, .ref r_row, .ref r_size, .ref r_came, .ref r_left, .ref r_mostQueue, .ref r_sumQueue, .ref r_turned, .int 0, .ref r_flowFrom, .ref r_flowTo, .ref r_kind, .ref r_start, .ref r_period, .ref r_count, .int 0, .ref r_flow, .ref r_began, .ref r_state, .ref r_link, .ref r_end, .ref r_gone, .ref r_trip, .ref r_delay, .ref r_way]))]) (w1 := [(o0, .inl (cy 1, 1, .inr (.inl ((fun _ => 0)))))]) hP hD [0, 1, 2, 5] [3, 4] rfl rfl (by decide) (by decide) hk1 hFc hP1 hD1
    generalize H1 = H at hP hS ⊢
    have hP : va_P (dC, dI) vwCl [(m0, .inr (10, [.ref w0, .int 0])), (w0, .inr (9, [.int 0, .int 1, .int 0, .ref r_phases, .ref r_phase, .ref r_phaseTicks, .ref r_set, .ref r_least, .ref r_greatest, .int 0, .ref r_from, .ref r_to, .ref r_time, .ref r_room, .ref r_first, .ref r_rate, .ref r_cost, .ref r_isShut, .ref r_slowed, .ref r_row, .ref r_size, .ref r_came, .ref r_left, .ref r_mostQueue, .ref r_sumQueue, .ref r_turned, .int 0, .ref r_flowFrom, .ref r_flowTo, .ref r_kind, .ref r_start, .ref r_period, .ref r_count, .int 0, .ref r_flow, .ref r_began, .ref r_state, .ref r_link, .ref r_end, .ref r_gone, .ref r_trip, .ref r_delay, .ref r_way])), (o0, .inl (cy 1, 1, .inr (.inl ((fun _ => 0)))))] _ := hP
    have hD : va_D A [(m0, .inr (10, [.ref w0, .int 0])), (w0, .inr (9, [.int 0, .int 1, .int 0, .ref r_phases, .ref r_phase, .ref r_phaseTicks, .ref r_set, .ref r_least, .ref r_greatest, .int 0, .ref r_from, .ref r_to, .ref r_time, .ref r_room, .ref r_first, .ref r_rate, .ref r_cost, .ref r_isShut, .ref r_slowed, .ref r_row, .ref r_size, .ref r_came, .ref r_left, .ref r_mostQueue, .ref r_sumQueue, .ref r_turned, .int 0, .ref r_flowFrom, .ref r_flowTo, .ref r_kind, .ref r_start, .ref r_period, .ref r_count, .int 0, .ref r_flow, .ref r_began, .ref r_state, .ref r_link, .ref r_end, .ref r_gone, .ref r_trip, .ref r_delay, .ref r_way])), (o0, .inl (cy 1, 1, .inr (.inl ((fun _ => 0)))))] := hD
    refine lv_istore (lv' := [(5, .int 1), (0, .ref b), (1, .ref a0), (2, .ref m0), (3, .ref o0), (4, .int 0)]) hx hb dL_law_1642 hl (by decide) rfl (fun ls hl => ?_)
    refine lv_aload_n hx hb dL_law_1644 rfl (lv_at hl 3 rfl) ?_
    refine lv_aload_n hx hb dL_law_1645 rfl (lv_at hl 1 rfl) ?_
    refine lv_iload hx hb dL_law_1646 (lv_at hl 5 rfl) ?_
    refine lv_iconst (v := 1) hx hb dL_law_1648 (by decide) ?_
    refine lv_iadd hx hb dL_law_1649 ?_
    refine va_sld hx hb hX hbl hbA hS (by unfold vp_in; decide) dL_law_1650 ?_
    refine lv_aload_n hx hb dL_law_1651 rfl (lv_at hl 1 rfl) ?_
    refine lv_iload hx hb dL_law_1652 (lv_at hl 5 rfl) ?_
    refine lv_iconst (v := 2) hx hb dL_law_1654 (by decide) ?_
    refine lv_iadd hx hb dL_law_1655 ?_
    refine va_sld hx hb hX hbl hbA hS (by unfold vp_in; decide) dL_law_1656 ?_
    have hFc := va_free (wc := [(m0, .inr (10, [.ref w0, .int 0])), (w0, .inr (9, [.int 0, .int 1, .int 0, .ref r_phases, .ref r_phase, .ref r_phaseTicks, .ref r_set, .ref r_least, .ref r_greatest, .int 0, .ref r_from, .ref r_to, .ref r_time, .ref r_room, .ref r_first, .ref r_rate, .ref r_cost, .ref r_isShut, .ref r_slowed, .ref r_row, .ref r_size, .ref r_came, .ref r_left, .ref r_mostQueue, .ref r_sumQueue, .ref r_turned, .int 0, .ref r_flowFrom, .ref r_flowTo, .ref r_kind, .ref r_start, .ref r_period, .ref r_count, .int 0, .ref r_flow, .ref r_began, .ref r_state, .ref r_link, .ref r_end, .ref r_gone, .ref r_trip, .ref r_delay, .ref r_way]))]) hD hS hA [0, 1] rfl
    refine va_calli (va_runV (As := [.int (xs (0 + 1 : Int32).toNatClampNeg), .int (xs (0 + 2 : Int32).toNatClampNeg)]) (rest := []) ⟨hx, hb, hml, hown, hts⟩ (tm_m_linkAt l hst dC dI cy m0 w0 0 r_phases r_phase r_phaseTicks r_set r_least r_greatest r_from r_to r_time r_room r_first r_rate r_cost r_isShut r_slowed r_row r_size r_came r_left r_mostQueue r_sumQueue r_turned r_flowFrom r_flowTo r_kind r_start r_period r_count r_flow r_began r_state r_link r_end r_gone r_trip r_delay r_way (xs (0 + 1 : Int32).toNatClampNeg) (xs (0 + 2 : Int32).toNatClampNeg) H.size) (tp_cwV 2 hts tw_1523 tw_1524 tw_1525 tw_48 tw_1526 rfl rfl (by decide +kernel) ⟨Nat.le_of_ble_eq_true rfl, Nat.le_of_ble_eq_true rfl⟩) ⟨tp_blind, va_recv hK hP (ci := 10) (q0 := 0) rfl rfl, fun U hU hW => ⟨rfl, tp_pay hK hP hD hE hZ hS [0, 1] (by decide) rfl hFc U hU hW⟩⟩ rfl rfl hl.1 rfl (lv_room (Nat.le_of_ble_eq_true rfl)) dL_law_1657 ⟨(Nat.le_of_ble_eq_true rfl), (Nat.le_of_ble_eq_true rfl)⟩) hS (fun q _ h => hFc q h) hFc (fun r_3 u t H1 locs ht hvm hw hB hz1 hk1 hS => ?_)
    obtain rfl := hw
    obtain ⟨f_4, hP1, hD1⟩ := hB
    subst f_4
    rw [ht] at hP1
    obtain ⟨hP, hD⟩ := va_join (wr := [(o0, .inl (cy 1, 1, .inr (.inl ((fun _ => 0)))))]) (w1 := [(m0, .inr (10, [.ref w0, .int 1]))]) hP hD [0, 1] [2] rfl rfl (by decide) (by decide) hk1 hFc hP1 hD1
    generalize H1 = H at hP hS ⊢
    have hP : va_P (dC, dI) vwCl [(o0, .inl (cy 1, 1, .inr (.inl ((fun _ => 0))))), (m0, .inr (10, [.ref w0, .int 1]))] _ := hP
    have hD : va_D A [(o0, .inl (cy 1, 1, .inr (.inl ((fun _ => 0))))), (m0, .inr (10, [.ref w0, .int 1]))] := hD
    refine lv_istore (lv' := [(6, .int 0), (5, .int 1), (0, .ref b), (1, .ref a0), (2, .ref m0), (3, .ref o0), (4, .int 0)]) hx hb dL_law_1660 hl (by decide) rfl (fun ls hl => ?_)
    refine lv_aload_n hx hb dL_law_1662 rfl (lv_at hl 4 rfl) ?_
    have hFc := va_free (wc := [(m0, .inr (10, [.ref w0, .int 1]))]) hD hS hA [1] rfl
    refine va_calli (va_runV (As := []) (rest := []) ⟨hx, hb, hml, hown, hts⟩ (tm_m_thrown l hst dC dI cy m0 w0 1 H.size) (tp_cwV 0 hts tw_1317 tw_1318 tw_1319 tw_48 tw_1320 rfl rfl (by decide +kernel) ⟨Nat.le_of_ble_eq_true rfl, Nat.le_of_ble_eq_true rfl⟩) ⟨tp_blind, va_recv hK hP (ci := 10) (q0 := 1) rfl rfl, fun U hU hW => ⟨rfl, tp_pay hK hP hD hE hZ hS [1] (by decide) rfl hFc U hU hW⟩⟩ rfl rfl hl.1 rfl (lv_room (Nat.le_of_ble_eq_true rfl)) dL_law_1663 ⟨(Nat.le_of_ble_eq_true rfl), (Nat.le_of_ble_eq_true rfl)⟩) hS (fun q _ h => hFc q h) hFc (fun r_5 u t H1 locs ht hvm hw hB hz1 hk1 hS => ?_)
    obtain rfl := hw
    obtain ⟨f_6, hP1, hD1⟩ := hB
    subst f_6
    rw [ht] at hP1
    obtain ⟨hP, hD⟩ := va_join (wr := [(o0, .inl (cy 1, 1, .inr (.inl ((fun _ => 0)))))]) (w1 := [(m0, .inr (10, [.ref w0, .int 1]))]) hP hD [1] [0] rfl rfl (by decide) (by decide) hk1 hFc hP1 hD1
    generalize H1 = H at hP hS ⊢
    have hP : va_P (dC, dI) vwCl [(o0, .inl (cy 1, 1, .inr (.inl ((fun _ => 0))))), (m0, .inr (10, [.ref w0, .int 1]))] _ := hP
    have hD : va_D A [(o0, .inl (cy 1, 1, .inr (.inl ((fun _ => 0))))), (m0, .inr (10, [.ref w0, .int 1]))] := hD
    refine lv_iload hx hb dL_law_1666 (lv_at hl 1 rfl) ?_
    refine lv_icmp_eq (tgt := 1673) hx hb dL_law_1668 (by decide) (fun _ => ?_) (fun c_7 => absurd rfl c_7)
    refine lv_iload hx hb dL_law_1673 (lv_at hl 1 rfl) ?_
    refine lv_if_ne (tgt := 1690) hx hb dL_law_1675 (by decide) (fun _ => ?_) (fun c_8 => absurd c_8 (by decide))
    refine lv_goto (tgt := 2504) hx hb dL_law_1690 (by decide) ?_
    exact tc_end hd0 hs C1 hX (Nat.le_of_ble_eq_true rfl) (Nat.le_of_ble_eq_true rfl) H _ ls hS (lv_sub hl [2, 6] rfl)
theorem tw_1034 : Cond.codeWith yL_tripOf cL_tripOf 4 (some .int) [(0, 9, 12, 19)] ∈ tp_all := tp_mem 1034 (by decide +kernel) rfl
theorem tw_1032 : Cond.methodLink RL 223 yL_tripOf ∈ tp_all := tp_mem 1032 (by decide +kernel) rfl
theorem tw_1033 : Cond.static yL_tripOf ∈ tp_all := tp_mem 1033 (by decide +kernel) rfl
theorem tw_1530 : Cond.code yX10_tripOf cX10_tripOf 2 (some .int) ∈ tp_all := tp_mem 1530 (by decide +kernel) rfl
theorem tw_1527 : Cond.methodLink RL 225 yX10_tripOf ∈ tp_all := tp_mem 1527 (by decide +kernel) rfl
theorem tw_1528 : Cond.instanceMethod yX10_tripOf ∈ tp_all := tp_mem 1528 (by decide +kernel) rfl
theorem tw_1529 : Cond.selects RX10 yX10_tripOf yX10_tripOf ∈ tp_all := tp_mem 1529 (by decide +kernel) rfl
theorem dL_law_1693 : decode cL_law 1693 = .ok (.aload_n 1, 1) := by decide +kernel
theorem dL_law_1694 : decode cL_law 1694 = .ok (.aload_n 0, 1) := by decide +kernel
theorem dL_law_1695 : decode cL_law 1695 = .ok (.iload 4, 2) := by decide +kernel
theorem dL_law_1697 : decode cL_law 1697 = .ok (.iconst 1, 1) := by decide +kernel
theorem dL_law_1698 : decode cL_law 1698 = .ok (.iadd, 1) := by decide +kernel
theorem dL_law_1699 : decode cL_law 1699 = .ok (.iaload, 1) := by decide +kernel
theorem dL_law_1700 : decode cL_law 1700 = .ok (.aload_n 3, 1) := by decide +kernel
theorem dL_law_1701 : decode cL_law 1701 = .ok (.invokestatic 223, 3) := by decide +kernel
theorem dL_law_1704 : decode cL_law 1704 = .ok (.istore 5, 2) := by decide +kernel
theorem dL_law_1706 : decode cL_law 1706 = .ok (.aload_n 2, 1) := by decide +kernel
theorem dL_law_1707 : decode cL_law 1707 = .ok (.aload_n 0, 1) := by decide +kernel
theorem dL_law_1708 : decode cL_law 1708 = .ok (.iload 4, 2) := by decide +kernel
theorem dL_law_1710 : decode cL_law 1710 = .ok (.iconst 1, 1) := by decide +kernel
theorem dL_law_1711 : decode cL_law 1711 = .ok (.iadd, 1) := by decide +kernel
theorem dL_law_1712 : decode cL_law 1712 = .ok (.iaload, 1) := by decide +kernel
theorem dL_law_1713 : decode cL_law 1713 = .ok (.invokevirtual 225, 3) := by decide +kernel
theorem dL_law_1716 : decode cL_law 1716 = .ok (.istore 6, 2) := by decide +kernel
theorem dL_law_1718 : decode cL_law 1718 = .ok (.aload_n 2, 1) := by decide +kernel
theorem dL_law_1719 : decode cL_law 1719 = .ok (.invokevirtual 133, 3) := by decide +kernel
theorem dL_law_1722 : decode cL_law 1722 = .ok (.iload 5, 2) := by decide +kernel
theorem dL_law_1724 : decode cL_law 1724 = .ok (.if_icmp .eq 5, 3) := by decide +kernel
theorem dL_law_1729 : decode cL_law 1729 = .ok (.iload 5, 2) := by decide +kernel
theorem dL_law_1731 : decode cL_law 1731 = .ok (.ifCond .ne 15, 3) := by decide +kernel
theorem dL_law_1746 : decode cL_law 1746 = .ok (.goto 758, 3) := by decide +kernel
set_option maxRecDepth 100000 in
set_option maxHeartbeats 4000000 in
/-- the case 26 -/
theorem tc_26 {p : Program} {l : Launch} {e : Env} {s0 s : State} {m : MethodId} {below : List Frame} {meth : Method} {c : Code} {A : Nat → Prop} (hst : l.stackTraces = false) {dC : Nat → ClassId} {dI : Nat → Nat → Nat} {cy : Nat → ClassId} {b : Nat} {xs : Nat → Int32} {d0 : Drawn} (hd0 : s0.drawn.sameBut d0 lw_cs) (hs : s = s0.setDrawn d0) (C1 : tc_At p s m meth c b #[Value.ref b] A dC dI cy) (hX : va_X b 7 xs s s.heap) {a0 : Nat} {a1 : Nat} {a2 : Nat} {aT : Nat} {b1 : Nat} {b2 : Nat} {b3 : Nat} {b4 : Nat} {b5 : Nat} {b6 : Nat} {b7 : Nat} {m0 : Nat} {w0 : Nat} {o0 : Nat} {r_phases : Nat} {r_phase : Nat} {r_phaseTicks : Nat} {r_set : Nat} {r_least : Nat} {r_greatest : Nat} {r_from : Nat} {r_to : Nat} {r_time : Nat} {r_room : Nat} {r_first : Nat} {r_rate : Nat} {r_cost : Nat} {r_isShut : Nat} {r_slowed : Nat} {r_row : Nat} {r_size : Nat} {r_came : Nat} {r_left : Nat} {r_mostQueue : Nat} {r_sumQueue : Nat} {r_turned : Nat} {r_flowFrom : Nat} {r_flowTo : Nat} {r_kind : Nat} {r_start : Nat} {r_period : Nat} {r_count : Nat} {r_flow : Nat} {r_began : Nat} {r_state : Nat} {r_link : Nat} {r_end : Nat} {r_gone : Nat} {r_trip : Nat} {r_delay : Nat} {r_way : Nat} (H : Heap) (locs : List Loc) (ls : Array Slot) (hP : va_P (dC, dI) vwCl [(a0, .inr (8, [.ref a1, .ref aT])), (a1, .inr (5, [.ref a2, .ref b1, .ref b2, .ref b3, .ref b4, .ref b5, .int 0, .int 1, .int 0, .int 0, .int 0, .int 0])), (a2, .inr (2, [.ref b6, .int 0, .ref b7, .int 0])), (m0, .inr (10, [.ref w0, .int 0])), (w0, .inr (9, [.int 0, .int 1, .int 0, .ref r_phases, .ref r_phase, .ref r_phaseTicks, .ref r_set, .ref r_least, .ref r_greatest, .int 0, .ref r_from, .ref r_to, .ref r_time, .ref r_room, .ref r_first, .ref r_rate, .ref r_cost, .ref r_isShut, .ref r_slowed, .ref r_row, .ref r_size, .ref r_came, .ref r_left, .ref r_mostQueue, .ref r_sumQueue, .ref r_turned, .int 0, .ref r_flowFrom, .ref r_flowTo, .ref r_kind, .ref r_start, .ref r_period, .ref r_count, .int 0, .ref r_flow, .ref r_began, .ref r_state, .ref r_link, .ref r_end, .ref r_gone, .ref r_trip, .ref r_delay, .ref r_way])), (o0, .inl (cy 1, 1, .inr (.inl ((fun _ => 0)))))] H) (hD : va_D A [(a0, .inr (8, [.ref a1, .ref aT])), (a1, .inr (5, [.ref a2, .ref b1, .ref b2, .ref b3, .ref b4, .ref b5, .int 0, .int 1, .int 0, .int 0, .int 0, .int 0])), (a2, .inr (2, [.ref b6, .int 0, .ref b7, .int 0])), (m0, .inr (10, [.ref w0, .int 0])), (w0, .inr (9, [.int 0, .int 1, .int 0, .ref r_phases, .ref r_phase, .ref r_phaseTicks, .ref r_set, .ref r_least, .ref r_greatest, .int 0, .ref r_from, .ref r_to, .ref r_time, .ref r_room, .ref r_first, .ref r_rate, .ref r_cost, .ref r_isShut, .ref r_slowed, .ref r_row, .ref r_size, .ref r_came, .ref r_left, .ref r_mostQueue, .ref r_sumQueue, .ref r_turned, .int 0, .ref r_flowFrom, .ref r_flowTo, .ref r_kind, .ref r_start, .ref r_period, .ref r_count, .int 0, .ref r_flow, .ref r_began, .ref r_state, .ref r_link, .ref r_end, .ref r_gone, .ref r_trip, .ref r_delay, .ref r_way])), (o0, .inl (cy 1, 1, .inr (.inl ((fun _ => 0)))))]) (hS : va_S A s.heap H locs) (hl : lv_has ls 9 [(0, .ref b), (1, .ref a0), (2, .ref m0), (3, .ref o0), (4, .int 0)]) : W p l e room_1 s m #[Value.ref b] below meth c H locs 1535 31585 (lw_Z below #[Value.ref b] s0) (F0 m 1693 ls []) := by
  have C2 := C1
  obtain ⟨hx, hb, hr, hml, hown, hts, hbl, hlocks, hK, hE, hZ, hA, hbA, hA2⟩ := C2
  refine lv_aload_n hx hb dL_law_1693 rfl (lv_at hl 1 rfl) ?_
  refine lv_aload_n hx hb dL_law_1694 rfl (lv_at hl 0 rfl) ?_
  refine lv_iload hx hb dL_law_1695 (lv_at hl 4 rfl) ?_
  refine lv_iconst (v := 1) hx hb dL_law_1697 (by decide) ?_
  refine lv_iadd hx hb dL_law_1698 ?_
  refine va_sld hx hb hX hbl hbA hS (by unfold vp_in; decide) dL_law_1699 ?_
  refine lv_aload_n hx hb dL_law_1700 rfl (lv_at hl 3 rfl) ?_
  have hFc := va_free (wc := [(a0, .inr (8, [.ref a1, .ref aT])), (a1, .inr (5, [.ref a2, .ref b1, .ref b2, .ref b3, .ref b4, .ref b5, .int 0, .int 1, .int 0, .int 0, .int 0, .int 0])), (a2, .inr (2, [.ref b6, .int 0, .ref b7, .int 0])), (o0, .inl (cy 1, 1, .inr (.inl ((fun _ => 0)))))]) hD hS hA [0, 1, 2, 5] rfl
  refine vx_calli (vx_runSX (As := [.ref a0, .int (xs (0 + 1 : Int32).toNatClampNeg), .ref o0]) (rest := []) ⟨hx, hb, hml, hown, hts⟩ (tm_L_tripOf l hst dC dI cy a0 a1 a2 aT b1 b2 b3 b4 b5 b6 b7 o0 (xs (0 + 1 : Int32).toNatClampNeg) H.size) (tp_cwSW 3 hts tw_1032 tw_1033 tw_37 tw_1034 rfl rfl (by decide +kernel) ⟨Nat.le_of_ble_eq_true rfl, Nat.le_of_ble_eq_true rfl⟩) ⟨tp_blind, fun U hU hW => ⟨rfl, tp_pay hK hP hD hE hZ hS [0, 1, 2, 5] (by decide) rfl hFc U hU hW⟩⟩ rfl rfl hl.1 rfl (lv_room (Nat.le_of_ble_eq_true rfl)) dL_law_1701 ⟨(Nat.le_of_ble_eq_true rfl), (Nat.le_of_ble_eq_true rfl)⟩) hS (fun q _ h => hFc q h) hFc (fun q _ h => hFc q h) (fun E9 ce q9 u t H1 locs ht hvm hw hB hz1 hk1 hS hce hcv hcl => ?_) (fun r_1 u t H1 locs ht hvm hw hB hz1 hk1 hS => ?_)
  · obtain ⟨hE9, hB⟩ := hB
    exact hE9.elim
  · obtain rfl := hw
    obtain ⟨f_2, hP1, hD1⟩ := hB
    subst f_2
    rw [ht] at hP1
    obtain ⟨hP, hD⟩ := va_join (wr := [(m0, .inr (10, [.ref w0, .int 0])), (w0, .inr (9, [.int 0, .int 1, .int 0, .ref r_phases, .ref r_phase, .ref r_phaseTicks, .ref r_set, .ref r_least, .ref r_greatest, .int 0, .ref r_from, .ref r_to, .ref r_time, .ref r_room, .ref r_first, .ref r_rate, .ref r_cost, .ref r_isShut, .ref r_slowed, .ref r_row, .ref r_size, .ref r_came, .ref r_left, .ref r_mostQueue, .ref r_sumQueue, .ref r_turned, .int 0, .ref r_flowFrom, .ref r_flowTo, .ref r_kind, .ref r_start, .ref r_period, .ref r_count, .int 0, .ref r_flow, .ref r_began, .ref r_state, .ref r_link, .ref r_end, .ref r_gone, .ref r_trip, .ref r_delay, .ref r_way]))]) (w1 := [(o0, .inl (cy 1, 1, .inr (.inl ((fun _ => 0)))))]) hP hD [0, 1, 2, 5] [3, 4] rfl rfl (by decide) (by decide) hk1 hFc hP1 hD1
    generalize H1 = H at hP hS ⊢
    have hP : va_P (dC, dI) vwCl [(m0, .inr (10, [.ref w0, .int 0])), (w0, .inr (9, [.int 0, .int 1, .int 0, .ref r_phases, .ref r_phase, .ref r_phaseTicks, .ref r_set, .ref r_least, .ref r_greatest, .int 0, .ref r_from, .ref r_to, .ref r_time, .ref r_room, .ref r_first, .ref r_rate, .ref r_cost, .ref r_isShut, .ref r_slowed, .ref r_row, .ref r_size, .ref r_came, .ref r_left, .ref r_mostQueue, .ref r_sumQueue, .ref r_turned, .int 0, .ref r_flowFrom, .ref r_flowTo, .ref r_kind, .ref r_start, .ref r_period, .ref r_count, .int 0, .ref r_flow, .ref r_began, .ref r_state, .ref r_link, .ref r_end, .ref r_gone, .ref r_trip, .ref r_delay, .ref r_way])), (o0, .inl (cy 1, 1, .inr (.inl ((fun _ => 0)))))] _ := hP
    have hD : va_D A [(m0, .inr (10, [.ref w0, .int 0])), (w0, .inr (9, [.int 0, .int 1, .int 0, .ref r_phases, .ref r_phase, .ref r_phaseTicks, .ref r_set, .ref r_least, .ref r_greatest, .int 0, .ref r_from, .ref r_to, .ref r_time, .ref r_room, .ref r_first, .ref r_rate, .ref r_cost, .ref r_isShut, .ref r_slowed, .ref r_row, .ref r_size, .ref r_came, .ref r_left, .ref r_mostQueue, .ref r_sumQueue, .ref r_turned, .int 0, .ref r_flowFrom, .ref r_flowTo, .ref r_kind, .ref r_start, .ref r_period, .ref r_count, .int 0, .ref r_flow, .ref r_began, .ref r_state, .ref r_link, .ref r_end, .ref r_gone, .ref r_trip, .ref r_delay, .ref r_way])), (o0, .inl (cy 1, 1, .inr (.inl ((fun _ => 0)))))] := hD
    refine lv_istore (lv' := [(5, .int 1), (0, .ref b), (1, .ref a0), (2, .ref m0), (3, .ref o0), (4, .int 0)]) hx hb dL_law_1704 hl (by decide) rfl (fun ls hl => ?_)
    refine lv_aload_n hx hb dL_law_1706 rfl (lv_at hl 3 rfl) ?_
    refine lv_aload_n hx hb dL_law_1707 rfl (lv_at hl 1 rfl) ?_
    refine lv_iload hx hb dL_law_1708 (lv_at hl 5 rfl) ?_
    refine lv_iconst (v := 1) hx hb dL_law_1710 (by decide) ?_
    refine lv_iadd hx hb dL_law_1711 ?_
    refine va_sld hx hb hX hbl hbA hS (by unfold vp_in; decide) dL_law_1712 ?_
    have hFc := va_free (wc := [(m0, .inr (10, [.ref w0, .int 0])), (w0, .inr (9, [.int 0, .int 1, .int 0, .ref r_phases, .ref r_phase, .ref r_phaseTicks, .ref r_set, .ref r_least, .ref r_greatest, .int 0, .ref r_from, .ref r_to, .ref r_time, .ref r_room, .ref r_first, .ref r_rate, .ref r_cost, .ref r_isShut, .ref r_slowed, .ref r_row, .ref r_size, .ref r_came, .ref r_left, .ref r_mostQueue, .ref r_sumQueue, .ref r_turned, .int 0, .ref r_flowFrom, .ref r_flowTo, .ref r_kind, .ref r_start, .ref r_period, .ref r_count, .int 0, .ref r_flow, .ref r_began, .ref r_state, .ref r_link, .ref r_end, .ref r_gone, .ref r_trip, .ref r_delay, .ref r_way]))]) hD hS hA [0, 1] rfl
    refine va_calli (va_runV (As := [.int (xs (0 + 1 : Int32).toNatClampNeg)]) (rest := []) ⟨hx, hb, hml, hown, hts⟩ (tm_m_tripOf l hst dC dI cy m0 w0 0 r_phases r_phase r_phaseTicks r_set r_least r_greatest r_from r_to r_time r_room r_first r_rate r_cost r_isShut r_slowed r_row r_size r_came r_left r_mostQueue r_sumQueue r_turned r_flowFrom r_flowTo r_kind r_start r_period r_count r_flow r_began r_state r_link r_end r_gone r_trip r_delay r_way (xs (0 + 1 : Int32).toNatClampNeg) H.size) (tp_cwV 1 hts tw_1527 tw_1528 tw_1529 tw_48 tw_1530 rfl rfl (by decide +kernel) ⟨Nat.le_of_ble_eq_true rfl, Nat.le_of_ble_eq_true rfl⟩) ⟨tp_blind, va_recv hK hP (ci := 10) (q0 := 0) rfl rfl, fun U hU hW => ⟨rfl, tp_pay hK hP hD hE hZ hS [0, 1] (by decide) rfl hFc U hU hW⟩⟩ rfl rfl hl.1 rfl (lv_room (Nat.le_of_ble_eq_true rfl)) dL_law_1713 ⟨(Nat.le_of_ble_eq_true rfl), (Nat.le_of_ble_eq_true rfl)⟩) hS (fun q _ h => hFc q h) hFc (fun r_3 u t H1 locs ht hvm hw hB hz1 hk1 hS => ?_)
    obtain rfl := hw
    obtain ⟨f_4, hP1, hD1⟩ := hB
    subst f_4
    rw [ht] at hP1
    obtain ⟨hP, hD⟩ := va_join (wr := [(o0, .inl (cy 1, 1, .inr (.inl ((fun _ => 0)))))]) (w1 := [(m0, .inr (10, [.ref w0, .int 1]))]) hP hD [0, 1] [2] rfl rfl (by decide) (by decide) hk1 hFc hP1 hD1
    generalize H1 = H at hP hS ⊢
    have hP : va_P (dC, dI) vwCl [(o0, .inl (cy 1, 1, .inr (.inl ((fun _ => 0))))), (m0, .inr (10, [.ref w0, .int 1]))] _ := hP
    have hD : va_D A [(o0, .inl (cy 1, 1, .inr (.inl ((fun _ => 0))))), (m0, .inr (10, [.ref w0, .int 1]))] := hD
    refine lv_istore (lv' := [(6, .int 0), (5, .int 1), (0, .ref b), (1, .ref a0), (2, .ref m0), (3, .ref o0), (4, .int 0)]) hx hb dL_law_1716 hl (by decide) rfl (fun ls hl => ?_)
    refine lv_aload_n hx hb dL_law_1718 rfl (lv_at hl 4 rfl) ?_
    have hFc := va_free (wc := [(m0, .inr (10, [.ref w0, .int 1]))]) hD hS hA [1] rfl
    refine va_calli (va_runV (As := []) (rest := []) ⟨hx, hb, hml, hown, hts⟩ (tm_m_thrown l hst dC dI cy m0 w0 1 H.size) (tp_cwV 0 hts tw_1317 tw_1318 tw_1319 tw_48 tw_1320 rfl rfl (by decide +kernel) ⟨Nat.le_of_ble_eq_true rfl, Nat.le_of_ble_eq_true rfl⟩) ⟨tp_blind, va_recv hK hP (ci := 10) (q0 := 1) rfl rfl, fun U hU hW => ⟨rfl, tp_pay hK hP hD hE hZ hS [1] (by decide) rfl hFc U hU hW⟩⟩ rfl rfl hl.1 rfl (lv_room (Nat.le_of_ble_eq_true rfl)) dL_law_1719 ⟨(Nat.le_of_ble_eq_true rfl), (Nat.le_of_ble_eq_true rfl)⟩) hS (fun q _ h => hFc q h) hFc (fun r_5 u t H1 locs ht hvm hw hB hz1 hk1 hS => ?_)
    obtain rfl := hw
    obtain ⟨f_6, hP1, hD1⟩ := hB
    subst f_6
    rw [ht] at hP1
    obtain ⟨hP, hD⟩ := va_join (wr := [(o0, .inl (cy 1, 1, .inr (.inl ((fun _ => 0)))))]) (w1 := [(m0, .inr (10, [.ref w0, .int 1]))]) hP hD [1] [0] rfl rfl (by decide) (by decide) hk1 hFc hP1 hD1
    generalize H1 = H at hP hS ⊢
    have hP : va_P (dC, dI) vwCl [(o0, .inl (cy 1, 1, .inr (.inl ((fun _ => 0))))), (m0, .inr (10, [.ref w0, .int 1]))] _ := hP
    have hD : va_D A [(o0, .inl (cy 1, 1, .inr (.inl ((fun _ => 0))))), (m0, .inr (10, [.ref w0, .int 1]))] := hD
    refine lv_iload hx hb dL_law_1722 (lv_at hl 1 rfl) ?_
    refine lv_icmp_eq (tgt := 1729) hx hb dL_law_1724 (by decide) (fun _ => ?_) (fun c_7 => absurd rfl c_7)
    refine lv_iload hx hb dL_law_1729 (lv_at hl 1 rfl) ?_
    refine lv_if_ne (tgt := 1746) hx hb dL_law_1731 (by decide) (fun _ => ?_) (fun c_8 => absurd c_8 (by decide))
    refine lv_goto (tgt := 2504) hx hb dL_law_1746 (by decide) ?_
    exact tc_end hd0 hs C1 hX (Nat.le_of_ble_eq_true rfl) (Nat.le_of_ble_eq_true rfl) H _ ls hS (lv_sub hl [2, 6] rfl)
theorem tw_1038 : Cond.codeWith yL_delayOf cL_delayOf 4 (some .int) [(0, 9, 12, 19)] ∈ tp_all := tp_mem 1038 (by decide +kernel) rfl
theorem tw_1036 : Cond.methodLink RL 226 yL_delayOf ∈ tp_all := tp_mem 1036 (by decide +kernel) rfl
theorem tw_1037 : Cond.static yL_delayOf ∈ tp_all := tp_mem 1037 (by decide +kernel) rfl
theorem tw_1534 : Cond.code yX10_delayOf cX10_delayOf 2 (some .int) ∈ tp_all := tp_mem 1534 (by decide +kernel) rfl
theorem tw_1531 : Cond.methodLink RL 228 yX10_delayOf ∈ tp_all := tp_mem 1531 (by decide +kernel) rfl
theorem tw_1532 : Cond.instanceMethod yX10_delayOf ∈ tp_all := tp_mem 1532 (by decide +kernel) rfl
theorem tw_1533 : Cond.selects RX10 yX10_delayOf yX10_delayOf ∈ tp_all := tp_mem 1533 (by decide +kernel) rfl
theorem dL_law_1749 : decode cL_law 1749 = .ok (.aload_n 1, 1) := by decide +kernel
theorem dL_law_1750 : decode cL_law 1750 = .ok (.aload_n 0, 1) := by decide +kernel
theorem dL_law_1751 : decode cL_law 1751 = .ok (.iload 4, 2) := by decide +kernel
theorem dL_law_1753 : decode cL_law 1753 = .ok (.iconst 1, 1) := by decide +kernel
theorem dL_law_1754 : decode cL_law 1754 = .ok (.iadd, 1) := by decide +kernel
theorem dL_law_1755 : decode cL_law 1755 = .ok (.iaload, 1) := by decide +kernel
theorem dL_law_1756 : decode cL_law 1756 = .ok (.aload_n 3, 1) := by decide +kernel
theorem dL_law_1757 : decode cL_law 1757 = .ok (.invokestatic 226, 3) := by decide +kernel
theorem dL_law_1760 : decode cL_law 1760 = .ok (.istore 5, 2) := by decide +kernel
theorem dL_law_1762 : decode cL_law 1762 = .ok (.aload_n 2, 1) := by decide +kernel
theorem dL_law_1763 : decode cL_law 1763 = .ok (.aload_n 0, 1) := by decide +kernel
theorem dL_law_1764 : decode cL_law 1764 = .ok (.iload 4, 2) := by decide +kernel
theorem dL_law_1766 : decode cL_law 1766 = .ok (.iconst 1, 1) := by decide +kernel
theorem dL_law_1767 : decode cL_law 1767 = .ok (.iadd, 1) := by decide +kernel
theorem dL_law_1768 : decode cL_law 1768 = .ok (.iaload, 1) := by decide +kernel
theorem dL_law_1769 : decode cL_law 1769 = .ok (.invokevirtual 228, 3) := by decide +kernel
theorem dL_law_1772 : decode cL_law 1772 = .ok (.istore 6, 2) := by decide +kernel
theorem dL_law_1774 : decode cL_law 1774 = .ok (.aload_n 2, 1) := by decide +kernel
theorem dL_law_1775 : decode cL_law 1775 = .ok (.invokevirtual 133, 3) := by decide +kernel
theorem dL_law_1778 : decode cL_law 1778 = .ok (.iload 5, 2) := by decide +kernel
theorem dL_law_1780 : decode cL_law 1780 = .ok (.if_icmp .eq 5, 3) := by decide +kernel
theorem dL_law_1785 : decode cL_law 1785 = .ok (.iload 5, 2) := by decide +kernel
theorem dL_law_1787 : decode cL_law 1787 = .ok (.ifCond .ne 15, 3) := by decide +kernel
theorem dL_law_1802 : decode cL_law 1802 = .ok (.goto 702, 3) := by decide +kernel
set_option maxRecDepth 100000 in
set_option maxHeartbeats 4000000 in
/-- the case 27 -/
theorem tc_27 {p : Program} {l : Launch} {e : Env} {s0 s : State} {m : MethodId} {below : List Frame} {meth : Method} {c : Code} {A : Nat → Prop} (hst : l.stackTraces = false) {dC : Nat → ClassId} {dI : Nat → Nat → Nat} {cy : Nat → ClassId} {b : Nat} {xs : Nat → Int32} {d0 : Drawn} (hd0 : s0.drawn.sameBut d0 lw_cs) (hs : s = s0.setDrawn d0) (C1 : tc_At p s m meth c b #[Value.ref b] A dC dI cy) (hX : va_X b 7 xs s s.heap) {a0 : Nat} {a1 : Nat} {a2 : Nat} {aT : Nat} {b1 : Nat} {b2 : Nat} {b3 : Nat} {b4 : Nat} {b5 : Nat} {b6 : Nat} {b7 : Nat} {m0 : Nat} {w0 : Nat} {o0 : Nat} {r_phases : Nat} {r_phase : Nat} {r_phaseTicks : Nat} {r_set : Nat} {r_least : Nat} {r_greatest : Nat} {r_from : Nat} {r_to : Nat} {r_time : Nat} {r_room : Nat} {r_first : Nat} {r_rate : Nat} {r_cost : Nat} {r_isShut : Nat} {r_slowed : Nat} {r_row : Nat} {r_size : Nat} {r_came : Nat} {r_left : Nat} {r_mostQueue : Nat} {r_sumQueue : Nat} {r_turned : Nat} {r_flowFrom : Nat} {r_flowTo : Nat} {r_kind : Nat} {r_start : Nat} {r_period : Nat} {r_count : Nat} {r_flow : Nat} {r_began : Nat} {r_state : Nat} {r_link : Nat} {r_end : Nat} {r_gone : Nat} {r_trip : Nat} {r_delay : Nat} {r_way : Nat} (H : Heap) (locs : List Loc) (ls : Array Slot) (hP : va_P (dC, dI) vwCl [(a0, .inr (8, [.ref a1, .ref aT])), (a1, .inr (5, [.ref a2, .ref b1, .ref b2, .ref b3, .ref b4, .ref b5, .int 0, .int 1, .int 0, .int 0, .int 0, .int 0])), (a2, .inr (2, [.ref b6, .int 0, .ref b7, .int 0])), (m0, .inr (10, [.ref w0, .int 0])), (w0, .inr (9, [.int 0, .int 1, .int 0, .ref r_phases, .ref r_phase, .ref r_phaseTicks, .ref r_set, .ref r_least, .ref r_greatest, .int 0, .ref r_from, .ref r_to, .ref r_time, .ref r_room, .ref r_first, .ref r_rate, .ref r_cost, .ref r_isShut, .ref r_slowed, .ref r_row, .ref r_size, .ref r_came, .ref r_left, .ref r_mostQueue, .ref r_sumQueue, .ref r_turned, .int 0, .ref r_flowFrom, .ref r_flowTo, .ref r_kind, .ref r_start, .ref r_period, .ref r_count, .int 0, .ref r_flow, .ref r_began, .ref r_state, .ref r_link, .ref r_end, .ref r_gone, .ref r_trip, .ref r_delay, .ref r_way])), (o0, .inl (cy 1, 1, .inr (.inl ((fun _ => 0)))))] H) (hD : va_D A [(a0, .inr (8, [.ref a1, .ref aT])), (a1, .inr (5, [.ref a2, .ref b1, .ref b2, .ref b3, .ref b4, .ref b5, .int 0, .int 1, .int 0, .int 0, .int 0, .int 0])), (a2, .inr (2, [.ref b6, .int 0, .ref b7, .int 0])), (m0, .inr (10, [.ref w0, .int 0])), (w0, .inr (9, [.int 0, .int 1, .int 0, .ref r_phases, .ref r_phase, .ref r_phaseTicks, .ref r_set, .ref r_least, .ref r_greatest, .int 0, .ref r_from, .ref r_to, .ref r_time, .ref r_room, .ref r_first, .ref r_rate, .ref r_cost, .ref r_isShut, .ref r_slowed, .ref r_row, .ref r_size, .ref r_came, .ref r_left, .ref r_mostQueue, .ref r_sumQueue, .ref r_turned, .int 0, .ref r_flowFrom, .ref r_flowTo, .ref r_kind, .ref r_start, .ref r_period, .ref r_count, .int 0, .ref r_flow, .ref r_began, .ref r_state, .ref r_link, .ref r_end, .ref r_gone, .ref r_trip, .ref r_delay, .ref r_way])), (o0, .inl (cy 1, 1, .inr (.inl ((fun _ => 0)))))]) (hS : va_S A s.heap H locs) (hl : lv_has ls 9 [(0, .ref b), (1, .ref a0), (2, .ref m0), (3, .ref o0), (4, .int 0)]) : W p l e room_1 s m #[Value.ref b] below meth c H locs 1535 31585 (lw_Z below #[Value.ref b] s0) (F0 m 1749 ls []) := by
  have C2 := C1
  obtain ⟨hx, hb, hr, hml, hown, hts, hbl, hlocks, hK, hE, hZ, hA, hbA, hA2⟩ := C2
  refine lv_aload_n hx hb dL_law_1749 rfl (lv_at hl 1 rfl) ?_
  refine lv_aload_n hx hb dL_law_1750 rfl (lv_at hl 0 rfl) ?_
  refine lv_iload hx hb dL_law_1751 (lv_at hl 4 rfl) ?_
  refine lv_iconst (v := 1) hx hb dL_law_1753 (by decide) ?_
  refine lv_iadd hx hb dL_law_1754 ?_
  refine va_sld hx hb hX hbl hbA hS (by unfold vp_in; decide) dL_law_1755 ?_
  refine lv_aload_n hx hb dL_law_1756 rfl (lv_at hl 3 rfl) ?_
  have hFc := va_free (wc := [(a0, .inr (8, [.ref a1, .ref aT])), (a1, .inr (5, [.ref a2, .ref b1, .ref b2, .ref b3, .ref b4, .ref b5, .int 0, .int 1, .int 0, .int 0, .int 0, .int 0])), (a2, .inr (2, [.ref b6, .int 0, .ref b7, .int 0])), (o0, .inl (cy 1, 1, .inr (.inl ((fun _ => 0)))))]) hD hS hA [0, 1, 2, 5] rfl
  refine vx_calli (vx_runSX (As := [.ref a0, .int (xs (0 + 1 : Int32).toNatClampNeg), .ref o0]) (rest := []) ⟨hx, hb, hml, hown, hts⟩ (tm_L_delayOf l hst dC dI cy a0 a1 a2 aT b1 b2 b3 b4 b5 b6 b7 o0 (xs (0 + 1 : Int32).toNatClampNeg) H.size) (tp_cwSW 3 hts tw_1036 tw_1037 tw_37 tw_1038 rfl rfl (by decide +kernel) ⟨Nat.le_of_ble_eq_true rfl, Nat.le_of_ble_eq_true rfl⟩) ⟨tp_blind, fun U hU hW => ⟨rfl, tp_pay hK hP hD hE hZ hS [0, 1, 2, 5] (by decide) rfl hFc U hU hW⟩⟩ rfl rfl hl.1 rfl (lv_room (Nat.le_of_ble_eq_true rfl)) dL_law_1757 ⟨(Nat.le_of_ble_eq_true rfl), (Nat.le_of_ble_eq_true rfl)⟩) hS (fun q _ h => hFc q h) hFc (fun q _ h => hFc q h) (fun E9 ce q9 u t H1 locs ht hvm hw hB hz1 hk1 hS hce hcv hcl => ?_) (fun r_1 u t H1 locs ht hvm hw hB hz1 hk1 hS => ?_)
  · obtain ⟨hE9, hB⟩ := hB
    exact hE9.elim
  · obtain rfl := hw
    obtain ⟨f_2, hP1, hD1⟩ := hB
    subst f_2
    rw [ht] at hP1
    obtain ⟨hP, hD⟩ := va_join (wr := [(m0, .inr (10, [.ref w0, .int 0])), (w0, .inr (9, [.int 0, .int 1, .int 0, .ref r_phases, .ref r_phase, .ref r_phaseTicks, .ref r_set, .ref r_least, .ref r_greatest, .int 0, .ref r_from, .ref r_to, .ref r_time, .ref r_room, .ref r_first, .ref r_rate, .ref r_cost, .ref r_isShut, .ref r_slowed, .ref r_row, .ref r_size, .ref r_came, .ref r_left, .ref r_mostQueue, .ref r_sumQueue, .ref r_turned, .int 0, .ref r_flowFrom, .ref r_flowTo, .ref r_kind, .ref r_start, .ref r_period, .ref r_count, .int 0, .ref r_flow, .ref r_began, .ref r_state, .ref r_link, .ref r_end, .ref r_gone, .ref r_trip, .ref r_delay, .ref r_way]))]) (w1 := [(o0, .inl (cy 1, 1, .inr (.inl ((fun _ => 0)))))]) hP hD [0, 1, 2, 5] [3, 4] rfl rfl (by decide) (by decide) hk1 hFc hP1 hD1
    generalize H1 = H at hP hS ⊢
    have hP : va_P (dC, dI) vwCl [(m0, .inr (10, [.ref w0, .int 0])), (w0, .inr (9, [.int 0, .int 1, .int 0, .ref r_phases, .ref r_phase, .ref r_phaseTicks, .ref r_set, .ref r_least, .ref r_greatest, .int 0, .ref r_from, .ref r_to, .ref r_time, .ref r_room, .ref r_first, .ref r_rate, .ref r_cost, .ref r_isShut, .ref r_slowed, .ref r_row, .ref r_size, .ref r_came, .ref r_left, .ref r_mostQueue, .ref r_sumQueue, .ref r_turned, .int 0, .ref r_flowFrom, .ref r_flowTo, .ref r_kind, .ref r_start, .ref r_period, .ref r_count, .int 0, .ref r_flow, .ref r_began, .ref r_state, .ref r_link, .ref r_end, .ref r_gone, .ref r_trip, .ref r_delay, .ref r_way])), (o0, .inl (cy 1, 1, .inr (.inl ((fun _ => 0)))))] _ := hP
    have hD : va_D A [(m0, .inr (10, [.ref w0, .int 0])), (w0, .inr (9, [.int 0, .int 1, .int 0, .ref r_phases, .ref r_phase, .ref r_phaseTicks, .ref r_set, .ref r_least, .ref r_greatest, .int 0, .ref r_from, .ref r_to, .ref r_time, .ref r_room, .ref r_first, .ref r_rate, .ref r_cost, .ref r_isShut, .ref r_slowed, .ref r_row, .ref r_size, .ref r_came, .ref r_left, .ref r_mostQueue, .ref r_sumQueue, .ref r_turned, .int 0, .ref r_flowFrom, .ref r_flowTo, .ref r_kind, .ref r_start, .ref r_period, .ref r_count, .int 0, .ref r_flow, .ref r_began, .ref r_state, .ref r_link, .ref r_end, .ref r_gone, .ref r_trip, .ref r_delay, .ref r_way])), (o0, .inl (cy 1, 1, .inr (.inl ((fun _ => 0)))))] := hD
    refine lv_istore (lv' := [(5, .int 1), (0, .ref b), (1, .ref a0), (2, .ref m0), (3, .ref o0), (4, .int 0)]) hx hb dL_law_1760 hl (by decide) rfl (fun ls hl => ?_)
    refine lv_aload_n hx hb dL_law_1762 rfl (lv_at hl 3 rfl) ?_
    refine lv_aload_n hx hb dL_law_1763 rfl (lv_at hl 1 rfl) ?_
    refine lv_iload hx hb dL_law_1764 (lv_at hl 5 rfl) ?_
    refine lv_iconst (v := 1) hx hb dL_law_1766 (by decide) ?_
    refine lv_iadd hx hb dL_law_1767 ?_
    refine va_sld hx hb hX hbl hbA hS (by unfold vp_in; decide) dL_law_1768 ?_
    have hFc := va_free (wc := [(m0, .inr (10, [.ref w0, .int 0])), (w0, .inr (9, [.int 0, .int 1, .int 0, .ref r_phases, .ref r_phase, .ref r_phaseTicks, .ref r_set, .ref r_least, .ref r_greatest, .int 0, .ref r_from, .ref r_to, .ref r_time, .ref r_room, .ref r_first, .ref r_rate, .ref r_cost, .ref r_isShut, .ref r_slowed, .ref r_row, .ref r_size, .ref r_came, .ref r_left, .ref r_mostQueue, .ref r_sumQueue, .ref r_turned, .int 0, .ref r_flowFrom, .ref r_flowTo, .ref r_kind, .ref r_start, .ref r_period, .ref r_count, .int 0, .ref r_flow, .ref r_began, .ref r_state, .ref r_link, .ref r_end, .ref r_gone, .ref r_trip, .ref r_delay, .ref r_way]))]) hD hS hA [0, 1] rfl
    refine va_calli (va_runV (As := [.int (xs (0 + 1 : Int32).toNatClampNeg)]) (rest := []) ⟨hx, hb, hml, hown, hts⟩ (tm_m_delayOf l hst dC dI cy m0 w0 0 r_phases r_phase r_phaseTicks r_set r_least r_greatest r_from r_to r_time r_room r_first r_rate r_cost r_isShut r_slowed r_row r_size r_came r_left r_mostQueue r_sumQueue r_turned r_flowFrom r_flowTo r_kind r_start r_period r_count r_flow r_began r_state r_link r_end r_gone r_trip r_delay r_way (xs (0 + 1 : Int32).toNatClampNeg) H.size) (tp_cwV 1 hts tw_1531 tw_1532 tw_1533 tw_48 tw_1534 rfl rfl (by decide +kernel) ⟨Nat.le_of_ble_eq_true rfl, Nat.le_of_ble_eq_true rfl⟩) ⟨tp_blind, va_recv hK hP (ci := 10) (q0 := 0) rfl rfl, fun U hU hW => ⟨rfl, tp_pay hK hP hD hE hZ hS [0, 1] (by decide) rfl hFc U hU hW⟩⟩ rfl rfl hl.1 rfl (lv_room (Nat.le_of_ble_eq_true rfl)) dL_law_1769 ⟨(Nat.le_of_ble_eq_true rfl), (Nat.le_of_ble_eq_true rfl)⟩) hS (fun q _ h => hFc q h) hFc (fun r_3 u t H1 locs ht hvm hw hB hz1 hk1 hS => ?_)
    obtain rfl := hw
    obtain ⟨f_4, hP1, hD1⟩ := hB
    subst f_4
    rw [ht] at hP1
    obtain ⟨hP, hD⟩ := va_join (wr := [(o0, .inl (cy 1, 1, .inr (.inl ((fun _ => 0)))))]) (w1 := [(m0, .inr (10, [.ref w0, .int 1]))]) hP hD [0, 1] [2] rfl rfl (by decide) (by decide) hk1 hFc hP1 hD1
    generalize H1 = H at hP hS ⊢
    have hP : va_P (dC, dI) vwCl [(o0, .inl (cy 1, 1, .inr (.inl ((fun _ => 0))))), (m0, .inr (10, [.ref w0, .int 1]))] _ := hP
    have hD : va_D A [(o0, .inl (cy 1, 1, .inr (.inl ((fun _ => 0))))), (m0, .inr (10, [.ref w0, .int 1]))] := hD
    refine lv_istore (lv' := [(6, .int 0), (5, .int 1), (0, .ref b), (1, .ref a0), (2, .ref m0), (3, .ref o0), (4, .int 0)]) hx hb dL_law_1772 hl (by decide) rfl (fun ls hl => ?_)
    refine lv_aload_n hx hb dL_law_1774 rfl (lv_at hl 4 rfl) ?_
    have hFc := va_free (wc := [(m0, .inr (10, [.ref w0, .int 1]))]) hD hS hA [1] rfl
    refine va_calli (va_runV (As := []) (rest := []) ⟨hx, hb, hml, hown, hts⟩ (tm_m_thrown l hst dC dI cy m0 w0 1 H.size) (tp_cwV 0 hts tw_1317 tw_1318 tw_1319 tw_48 tw_1320 rfl rfl (by decide +kernel) ⟨Nat.le_of_ble_eq_true rfl, Nat.le_of_ble_eq_true rfl⟩) ⟨tp_blind, va_recv hK hP (ci := 10) (q0 := 1) rfl rfl, fun U hU hW => ⟨rfl, tp_pay hK hP hD hE hZ hS [1] (by decide) rfl hFc U hU hW⟩⟩ rfl rfl hl.1 rfl (lv_room (Nat.le_of_ble_eq_true rfl)) dL_law_1775 ⟨(Nat.le_of_ble_eq_true rfl), (Nat.le_of_ble_eq_true rfl)⟩) hS (fun q _ h => hFc q h) hFc (fun r_5 u t H1 locs ht hvm hw hB hz1 hk1 hS => ?_)
    obtain rfl := hw
    obtain ⟨f_6, hP1, hD1⟩ := hB
    subst f_6
    rw [ht] at hP1
    obtain ⟨hP, hD⟩ := va_join (wr := [(o0, .inl (cy 1, 1, .inr (.inl ((fun _ => 0)))))]) (w1 := [(m0, .inr (10, [.ref w0, .int 1]))]) hP hD [1] [0] rfl rfl (by decide) (by decide) hk1 hFc hP1 hD1
    generalize H1 = H at hP hS ⊢
    have hP : va_P (dC, dI) vwCl [(o0, .inl (cy 1, 1, .inr (.inl ((fun _ => 0))))), (m0, .inr (10, [.ref w0, .int 1]))] _ := hP
    have hD : va_D A [(o0, .inl (cy 1, 1, .inr (.inl ((fun _ => 0))))), (m0, .inr (10, [.ref w0, .int 1]))] := hD
    refine lv_iload hx hb dL_law_1778 (lv_at hl 1 rfl) ?_
    refine lv_icmp_eq (tgt := 1785) hx hb dL_law_1780 (by decide) (fun _ => ?_) (fun c_7 => absurd rfl c_7)
    refine lv_iload hx hb dL_law_1785 (lv_at hl 1 rfl) ?_
    refine lv_if_ne (tgt := 1802) hx hb dL_law_1787 (by decide) (fun _ => ?_) (fun c_8 => absurd c_8 (by decide))
    refine lv_goto (tgt := 2504) hx hb dL_law_1802 (by decide) ?_
    exact tc_end hd0 hs C1 hX (Nat.le_of_ble_eq_true rfl) (Nat.le_of_ble_eq_true rfl) H _ ls hS (lv_sub hl [2, 6] rfl)

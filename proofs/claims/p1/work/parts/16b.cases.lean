set_option maxRecDepth 100000 in
set_option maxHeartbeats 4000000 in
/-- the case 28 -/
theorem tc_28 {p : Program} {l : Launch} {e : Env} {s0 s : State} {m : MethodId} {below : List Frame} {meth : Method} {c : Code} {A : Nat → Prop} (hst : l.stackTraces = false) {dC : Nat → ClassId} {dI : Nat → Nat → Nat} {cy : Nat → ClassId} {b : Nat} {xs : Nat → Int32} {d0 : Drawn} (hd0 : s0.drawn.sameBut d0 lw_cs) (hs : s = s0.setDrawn d0) (C1 : tc_At p s m meth c b #[Value.ref b] A dC dI cy) (hX : va_X b 7 xs s s.heap) {a0 : Nat} {a1 : Nat} {a2 : Nat} {aT : Nat} {b1 : Nat} {b2 : Nat} {b3 : Nat} {b4 : Nat} {b5 : Nat} {b6 : Nat} {b7 : Nat} {m0 : Nat} {w0 : Nat} {o0 : Nat} {r_phases : Nat} {r_phase : Nat} {r_phaseTicks : Nat} {r_set : Nat} {r_least : Nat} {r_greatest : Nat} {r_from : Nat} {r_to : Nat} {r_time : Nat} {r_room : Nat} {r_first : Nat} {r_rate : Nat} {r_cost : Nat} {r_isShut : Nat} {r_slowed : Nat} {r_row : Nat} {r_size : Nat} {r_came : Nat} {r_left : Nat} {r_mostQueue : Nat} {r_sumQueue : Nat} {r_turned : Nat} {r_flowFrom : Nat} {r_flowTo : Nat} {r_kind : Nat} {r_start : Nat} {r_period : Nat} {r_count : Nat} {r_flow : Nat} {r_began : Nat} {r_state : Nat} {r_link : Nat} {r_end : Nat} {r_gone : Nat} {r_trip : Nat} {r_delay : Nat} {r_way : Nat} (H : Heap) (locs : List Loc) (ls : Array Slot) (hP : va_P (dC, dI) vwCl [(a0, .inr (8, [.ref a1, .ref aT])), (a1, .inr (5, [.ref a2, .ref b1, .ref b2, .ref b3, .ref b4, .ref b5, .int 0, .int 1, .int 0, .int 0, .int 0, .int 0])), (a2, .inr (2, [.ref b6, .int 0, .ref b7, .int 0])), (m0, .inr (10, [.ref w0, .int 0])), (w0, .inr (9, [.int 0, .int 1, .int 0, .ref r_phases, .ref r_phase, .ref r_phaseTicks, .ref r_set, .ref r_least, .ref r_greatest, .int 0, .ref r_from, .ref r_to, .ref r_time, .ref r_room, .ref r_first, .ref r_rate, .ref r_cost, .ref r_isShut, .ref r_slowed, .ref r_row, .ref r_size, .ref r_came, .ref r_left, .ref r_mostQueue, .ref r_sumQueue, .ref r_turned, .int 0, .ref r_flowFrom, .ref r_flowTo, .ref r_kind, .ref r_start, .ref r_period, .ref r_count, .int 0, .ref r_flow, .ref r_began, .ref r_state, .ref r_link, .ref r_end, .ref r_gone, .ref r_trip, .ref r_delay, .ref r_way])), (o0, .inl (cy 1, 1, .inr (.inl ((fun _ => 0)))))] H) (hD : va_D A [(a0, .inr (8, [.ref a1, .ref aT])), (a1, .inr (5, [.ref a2, .ref b1, .ref b2, .ref b3, .ref b4, .ref b5, .int 0, .int 1, .int 0, .int 0, .int 0, .int 0])), (a2, .inr (2, [.ref b6, .int 0, .ref b7, .int 0])), (m0, .inr (10, [.ref w0, .int 0])), (w0, .inr (9, [.int 0, .int 1, .int 0, .ref r_phases, .ref r_phase, .ref r_phaseTicks, .ref r_set, .ref r_least, .ref r_greatest, .int 0, .ref r_from, .ref r_to, .ref r_time, .ref r_room, .ref r_first, .ref r_rate, .ref r_cost, .ref r_isShut, .ref r_slowed, .ref r_row, .ref r_size, .ref r_came, .ref r_left, .ref r_mostQueue, .ref r_sumQueue, .ref r_turned, .int 0, .ref r_flowFrom, .ref r_flowTo, .ref r_kind, .ref r_start, .ref r_period, .ref r_count, .int 0, .ref r_flow, .ref r_began, .ref r_state, .ref r_link, .ref r_end, .ref r_gone, .ref r_trip, .ref r_delay, .ref r_way])), (o0, .inl (cy 1, 1, .inr (.inl ((fun _ => 0)))))]) (hS : va_S A s.heap H locs) (hl : lv_has ls 9 [(0, .ref b), (1, .ref a0), (2, .ref m0), (3, .ref o0), (4, .int 0)]) : W p l e room_1 s m #[Value.ref b] below meth c H locs 1535 31585 (lw_Z below #[Value.ref b] s0) (F0 m 1805 ls []) := by
  have C2 := C1
  obtain ⟨hx, hb, hr, hml, hown, hts, hbl, hlocks, hK, hE, hZ, hA, hbA, hA2⟩ := C2
  refine lv_aload_n hx hb dL_law_1805 rfl (lv_at hl 1 rfl) ?_
  refine lv_aload_n hx hb dL_law_1806 rfl (lv_at hl 0 rfl) ?_
  refine lv_iload hx hb dL_law_1807 (lv_at hl 4 rfl) ?_
  refine lv_iconst (v := 1) hx hb dL_law_1809 (by decide) ?_
  refine lv_iadd hx hb dL_law_1810 ?_
  refine va_sld hx hb hX hbl hbA hS (by unfold vp_in; decide) dL_law_1811 ?_
  refine lv_aload_n hx hb dL_law_1812 rfl (lv_at hl 3 rfl) ?_
  have hFc := va_free (wc := [(a0, .inr (8, [.ref a1, .ref aT])), (a1, .inr (5, [.ref a2, .ref b1, .ref b2, .ref b3, .ref b4, .ref b5, .int 0, .int 1, .int 0, .int 0, .int 0, .int 0])), (a2, .inr (2, [.ref b6, .int 0, .ref b7, .int 0])), (o0, .inl (cy 1, 1, .inr (.inl ((fun _ => 0)))))]) hD hS hA [0, 1, 2, 5] rfl
  refine vx_calli (vx_runSX (As := [.ref a0, .int (xs (0 + 1 : Int32).toNatClampNeg), .ref o0]) (rest := []) ⟨hx, hb, hml, hown, hts⟩ (tm_L_waiting l hst dC dI cy a0 a1 a2 aT b1 b2 b3 b4 b5 b6 b7 o0 (xs (0 + 1 : Int32).toNatClampNeg) H.size) (tp_cwSW 3 hts tw_1040 tw_1041 tw_37 tw_1042 rfl rfl (by decide +kernel) ⟨Nat.le_of_ble_eq_true rfl, Nat.le_of_ble_eq_true rfl⟩) ⟨tp_blind, fun U hU hW => ⟨rfl, tp_pay hK hP hD hE hZ hS [0, 1, 2, 5] (by decide) rfl hFc U hU hW⟩⟩ rfl rfl hl.1 rfl (lv_room (Nat.le_of_ble_eq_true rfl)) dL_law_1813 ⟨(Nat.le_of_ble_eq_true rfl), (Nat.le_of_ble_eq_true rfl)⟩) hS (fun q _ h => hFc q h) hFc (fun q _ h => hFc q h) (fun E9 ce q9 u t H1 locs ht hvm hw hB hz1 hk1 hS hce hcv hcl => ?_) (fun r_1 u t H1 locs ht hvm hw hB hz1 hk1 hS => ?_)
  · obtain ⟨hE9, hB⟩ := hB
    exact hE9.elim
  · obtain rfl := hw
    obtain ⟨f_2, hP1, hD1⟩ := hB
    subst f_2
    rw [ht] at hP1
    obtain ⟨hP, hD⟩ := va_join (wr := [(m0, .inr (10, [.ref w0, .int 0])), (w0, .inr (9, [.int 0, .int 1, .int 0, .ref r_phases, .ref r_phase, .ref r_phaseTicks, .ref r_set, .ref r_least, .ref r_greatest, .int 0, .ref r_from, .ref r_to, .ref r_time, .ref r_room, .ref r_first, .ref r_rate, .ref r_cost, .ref r_isShut, .ref r_slowed, .ref r_row, .ref r_size, .ref r_came, .ref r_left, .ref r_mostQueue, .ref r_sumQueue, .ref r_turned, .int 0, .ref r_flowFrom, .ref r_flowTo, .ref r_kind, .ref r_start, .ref r_period, .ref r_count, .int 0, .ref r_flow, .ref r_began, .ref r_state, .ref r_link, .ref r_end, .ref r_gone, .ref r_trip, .ref r_delay, .ref r_way]))]) (w1 := [(o0, .inl (cy 1, 1, .inr (.inl ((fun _ => 0)))))]) hP hD [0, 1, 2, 5] [3, 4] rfl rfl (by decide) (by decide) hk1 hFc hP1 hD1
    generalize H1 = H at hP hS ⊢
    have hP : va_P (dC, dI) vwCl [(m0, .inr (10, [.ref w0, .int 0])), (w0, .inr (9, [.int 0, .int 1, .int 0, .ref r_phases, .ref r_phase, .ref r_phaseTicks, .ref r_set, .ref r_least, .ref r_greatest, .int 0, .ref r_from, .ref r_to, .ref r_time, .ref r_room, .ref r_first, .ref r_rate, .ref r_cost, .ref r_isShut, .ref r_slowed, .ref r_row, .ref r_size, .ref r_came, .ref r_left, .ref r_mostQueue, .ref r_sumQueue, .ref r_turned, .int 0, .ref r_flowFrom, .ref r_flowTo, .ref r_kind, .ref r_start, .ref r_period, .ref r_count, .int 0, .ref r_flow, .ref r_began, .ref r_state, .ref r_link, .ref r_end, .ref r_gone, .ref r_trip, .ref r_delay, .ref r_way])), (o0, .inl (cy 1, 1, .inr (.inl ((fun _ => 0)))))] _ := hP
    have hD : va_D A [(m0, .inr (10, [.ref w0, .int 0])), (w0, .inr (9, [.int 0, .int 1, .int 0, .ref r_phases, .ref r_phase, .ref r_phaseTicks, .ref r_set, .ref r_least, .ref r_greatest, .int 0, .ref r_from, .ref r_to, .ref r_time, .ref r_room, .ref r_first, .ref r_rate, .ref r_cost, .ref r_isShut, .ref r_slowed, .ref r_row, .ref r_size, .ref r_came, .ref r_left, .ref r_mostQueue, .ref r_sumQueue, .ref r_turned, .int 0, .ref r_flowFrom, .ref r_flowTo, .ref r_kind, .ref r_start, .ref r_period, .ref r_count, .int 0, .ref r_flow, .ref r_began, .ref r_state, .ref r_link, .ref r_end, .ref r_gone, .ref r_trip, .ref r_delay, .ref r_way])), (o0, .inl (cy 1, 1, .inr (.inl ((fun _ => 0)))))] := hD
    refine lv_istore (lv' := [(5, .int 1), (0, .ref b), (1, .ref a0), (2, .ref m0), (3, .ref o0), (4, .int 0)]) hx hb dL_law_1816 hl (by decide) rfl (fun ls hl => ?_)
    refine lv_aload_n hx hb dL_law_1818 rfl (lv_at hl 3 rfl) ?_
    refine lv_aload_n hx hb dL_law_1819 rfl (lv_at hl 1 rfl) ?_
    refine lv_iload hx hb dL_law_1820 (lv_at hl 5 rfl) ?_
    refine lv_iconst (v := 1) hx hb dL_law_1822 (by decide) ?_
    refine lv_iadd hx hb dL_law_1823 ?_
    refine va_sld hx hb hX hbl hbA hS (by unfold vp_in; decide) dL_law_1824 ?_
    have hFc := va_free (wc := [(m0, .inr (10, [.ref w0, .int 0])), (w0, .inr (9, [.int 0, .int 1, .int 0, .ref r_phases, .ref r_phase, .ref r_phaseTicks, .ref r_set, .ref r_least, .ref r_greatest, .int 0, .ref r_from, .ref r_to, .ref r_time, .ref r_room, .ref r_first, .ref r_rate, .ref r_cost, .ref r_isShut, .ref r_slowed, .ref r_row, .ref r_size, .ref r_came, .ref r_left, .ref r_mostQueue, .ref r_sumQueue, .ref r_turned, .int 0, .ref r_flowFrom, .ref r_flowTo, .ref r_kind, .ref r_start, .ref r_period, .ref r_count, .int 0, .ref r_flow, .ref r_began, .ref r_state, .ref r_link, .ref r_end, .ref r_gone, .ref r_trip, .ref r_delay, .ref r_way]))]) hD hS hA [0, 1] rfl
    refine va_calli (va_runV (As := [.int (xs (0 + 1 : Int32).toNatClampNeg)]) (rest := []) ⟨hx, hb, hml, hown, hts⟩ (tm_m_waiting l hst dC dI cy m0 w0 0 r_phases r_phase r_phaseTicks r_set r_least r_greatest r_from r_to r_time r_room r_first r_rate r_cost r_isShut r_slowed r_row r_size r_came r_left r_mostQueue r_sumQueue r_turned r_flowFrom r_flowTo r_kind r_start r_period r_count r_flow r_began r_state r_link r_end r_gone r_trip r_delay r_way (xs (0 + 1 : Int32).toNatClampNeg) H.size) (tp_cwV 1 hts tw_1535 tw_1536 tw_1537 tw_48 tw_1538 rfl rfl (by decide +kernel) ⟨Nat.le_of_ble_eq_true rfl, Nat.le_of_ble_eq_true rfl⟩) ⟨tp_blind, va_recv hK hP (ci := 10) (q0 := 0) rfl rfl, fun U hU hW => ⟨rfl, tp_pay hK hP hD hE hZ hS [0, 1] (by decide) rfl hFc U hU hW⟩⟩ rfl rfl hl.1 rfl (lv_room (Nat.le_of_ble_eq_true rfl)) dL_law_1825 ⟨(Nat.le_of_ble_eq_true rfl), (Nat.le_of_ble_eq_true rfl)⟩) hS (fun q _ h => hFc q h) hFc (fun r_3 u t H1 locs ht hvm hw hB hz1 hk1 hS => ?_)
    obtain rfl := hw
    obtain ⟨f_4, hP1, hD1⟩ := hB
    subst f_4
    rw [ht] at hP1
    obtain ⟨hP, hD⟩ := va_join (wr := [(o0, .inl (cy 1, 1, .inr (.inl ((fun _ => 0)))))]) (w1 := [(m0, .inr (10, [.ref w0, .int 1]))]) hP hD [0, 1] [2] rfl rfl (by decide) (by decide) hk1 hFc hP1 hD1
    generalize H1 = H at hP hS ⊢
    have hP : va_P (dC, dI) vwCl [(o0, .inl (cy 1, 1, .inr (.inl ((fun _ => 0))))), (m0, .inr (10, [.ref w0, .int 1]))] _ := hP
    have hD : va_D A [(o0, .inl (cy 1, 1, .inr (.inl ((fun _ => 0))))), (m0, .inr (10, [.ref w0, .int 1]))] := hD
    refine lv_istore (lv' := [(6, .int 0), (5, .int 1), (0, .ref b), (1, .ref a0), (2, .ref m0), (3, .ref o0), (4, .int 0)]) hx hb dL_law_1828 hl (by decide) rfl (fun ls hl => ?_)
    refine lv_aload_n hx hb dL_law_1830 rfl (lv_at hl 4 rfl) ?_
    have hFc := va_free (wc := [(m0, .inr (10, [.ref w0, .int 1]))]) hD hS hA [1] rfl
    refine va_calli (va_runV (As := []) (rest := []) ⟨hx, hb, hml, hown, hts⟩ (tm_m_thrown l hst dC dI cy m0 w0 1 H.size) (tp_cwV 0 hts tw_1317 tw_1318 tw_1319 tw_48 tw_1320 rfl rfl (by decide +kernel) ⟨Nat.le_of_ble_eq_true rfl, Nat.le_of_ble_eq_true rfl⟩) ⟨tp_blind, va_recv hK hP (ci := 10) (q0 := 1) rfl rfl, fun U hU hW => ⟨rfl, tp_pay hK hP hD hE hZ hS [1] (by decide) rfl hFc U hU hW⟩⟩ rfl rfl hl.1 rfl (lv_room (Nat.le_of_ble_eq_true rfl)) dL_law_1831 ⟨(Nat.le_of_ble_eq_true rfl), (Nat.le_of_ble_eq_true rfl)⟩) hS (fun q _ h => hFc q h) hFc (fun r_5 u t H1 locs ht hvm hw hB hz1 hk1 hS => ?_)
    obtain rfl := hw
    obtain ⟨f_6, hP1, hD1⟩ := hB
    subst f_6
    rw [ht] at hP1
    obtain ⟨hP, hD⟩ := va_join (wr := [(o0, .inl (cy 1, 1, .inr (.inl ((fun _ => 0)))))]) (w1 := [(m0, .inr (10, [.ref w0, .int 1]))]) hP hD [1] [0] rfl rfl (by decide) (by decide) hk1 hFc hP1 hD1
    generalize H1 = H at hP hS ⊢
    have hP : va_P (dC, dI) vwCl [(o0, .inl (cy 1, 1, .inr (.inl ((fun _ => 0))))), (m0, .inr (10, [.ref w0, .int 1]))] _ := hP
    have hD : va_D A [(o0, .inl (cy 1, 1, .inr (.inl ((fun _ => 0))))), (m0, .inr (10, [.ref w0, .int 1]))] := hD
    refine lv_iload hx hb dL_law_1834 (lv_at hl 1 rfl) ?_
    refine lv_icmp_eq (tgt := 1841) hx hb dL_law_1836 (by decide) (fun _ => ?_) (fun c_7 => absurd rfl c_7)
    refine lv_iload hx hb dL_law_1841 (lv_at hl 1 rfl) ?_
    refine lv_if_ne (tgt := 1858) hx hb dL_law_1843 (by decide) (fun _ => ?_) (fun c_8 => absurd c_8 (by decide))
    refine lv_goto (tgt := 2504) hx hb dL_law_1858 (by decide) ?_
    exact tc_end hd0 hs C1 hX (Nat.le_of_ble_eq_true rfl) (Nat.le_of_ble_eq_true rfl) H _ ls hS (lv_sub hl [2, 6] rfl)
set_option maxRecDepth 100000 in
set_option maxHeartbeats 4000000 in
/-- the case 29 -/
theorem tc_29 {p : Program} {l : Launch} {e : Env} {s0 s : State} {m : MethodId} {below : List Frame} {meth : Method} {c : Code} {A : Nat → Prop} (hst : l.stackTraces = false) {dC : Nat → ClassId} {dI : Nat → Nat → Nat} {cy : Nat → ClassId} {b : Nat} {xs : Nat → Int32} {d0 : Drawn} (hd0 : s0.drawn.sameBut d0 lw_cs) (hs : s = s0.setDrawn d0) (C1 : tc_At p s m meth c b #[Value.ref b] A dC dI cy) (hX : va_X b 7 xs s s.heap) {a0 : Nat} {a1 : Nat} {a2 : Nat} {aT : Nat} {b1 : Nat} {b2 : Nat} {b3 : Nat} {b4 : Nat} {b5 : Nat} {b6 : Nat} {b7 : Nat} {m0 : Nat} {w0 : Nat} {o0 : Nat} {r_phases : Nat} {r_phase : Nat} {r_phaseTicks : Nat} {r_set : Nat} {r_least : Nat} {r_greatest : Nat} {r_from : Nat} {r_to : Nat} {r_time : Nat} {r_room : Nat} {r_first : Nat} {r_rate : Nat} {r_cost : Nat} {r_isShut : Nat} {r_slowed : Nat} {r_row : Nat} {r_size : Nat} {r_came : Nat} {r_left : Nat} {r_mostQueue : Nat} {r_sumQueue : Nat} {r_turned : Nat} {r_flowFrom : Nat} {r_flowTo : Nat} {r_kind : Nat} {r_start : Nat} {r_period : Nat} {r_count : Nat} {r_flow : Nat} {r_began : Nat} {r_state : Nat} {r_link : Nat} {r_end : Nat} {r_gone : Nat} {r_trip : Nat} {r_delay : Nat} {r_way : Nat} (H : Heap) (locs : List Loc) (ls : Array Slot) (hP : va_P (dC, dI) vwCl [(a0, .inr (8, [.ref a1, .ref aT])), (a1, .inr (5, [.ref a2, .ref b1, .ref b2, .ref b3, .ref b4, .ref b5, .int 0, .int 1, .int 0, .int 0, .int 0, .int 0])), (a2, .inr (2, [.ref b6, .int 0, .ref b7, .int 0])), (m0, .inr (10, [.ref w0, .int 0])), (w0, .inr (9, [.int 0, .int 1, .int 0, .ref r_phases, .ref r_phase, .ref r_phaseTicks, .ref r_set, .ref r_least, .ref r_greatest, .int 0, .ref r_from, .ref r_to, .ref r_time, .ref r_room, .ref r_first, .ref r_rate, .ref r_cost, .ref r_isShut, .ref r_slowed, .ref r_row, .ref r_size, .ref r_came, .ref r_left, .ref r_mostQueue, .ref r_sumQueue, .ref r_turned, .int 0, .ref r_flowFrom, .ref r_flowTo, .ref r_kind, .ref r_start, .ref r_period, .ref r_count, .int 0, .ref r_flow, .ref r_began, .ref r_state, .ref r_link, .ref r_end, .ref r_gone, .ref r_trip, .ref r_delay, .ref r_way])), (o0, .inl (cy 1, 1, .inr (.inl ((fun _ => 0)))))] H) (hD : va_D A [(a0, .inr (8, [.ref a1, .ref aT])), (a1, .inr (5, [.ref a2, .ref b1, .ref b2, .ref b3, .ref b4, .ref b5, .int 0, .int 1, .int 0, .int 0, .int 0, .int 0])), (a2, .inr (2, [.ref b6, .int 0, .ref b7, .int 0])), (m0, .inr (10, [.ref w0, .int 0])), (w0, .inr (9, [.int 0, .int 1, .int 0, .ref r_phases, .ref r_phase, .ref r_phaseTicks, .ref r_set, .ref r_least, .ref r_greatest, .int 0, .ref r_from, .ref r_to, .ref r_time, .ref r_room, .ref r_first, .ref r_rate, .ref r_cost, .ref r_isShut, .ref r_slowed, .ref r_row, .ref r_size, .ref r_came, .ref r_left, .ref r_mostQueue, .ref r_sumQueue, .ref r_turned, .int 0, .ref r_flowFrom, .ref r_flowTo, .ref r_kind, .ref r_start, .ref r_period, .ref r_count, .int 0, .ref r_flow, .ref r_began, .ref r_state, .ref r_link, .ref r_end, .ref r_gone, .ref r_trip, .ref r_delay, .ref r_way])), (o0, .inl (cy 1, 1, .inr (.inl ((fun _ => 0)))))]) (hS : va_S A s.heap H locs) (hl : lv_has ls 9 [(0, .ref b), (1, .ref a0), (2, .ref m0), (3, .ref o0), (4, .int 0)]) : W p l e room_1 s m #[Value.ref b] below meth c H locs 1535 31585 (lw_Z below #[Value.ref b] s0) (F0 m 1861 ls []) := by
  have C2 := C1
  obtain ⟨hx, hb, hr, hml, hown, hts, hbl, hlocks, hK, hE, hZ, hA, hbA, hA2⟩ := C2
  refine lv_aload_n hx hb dL_law_1861 rfl (lv_at hl 1 rfl) ?_
  refine lv_aload_n hx hb dL_law_1862 rfl (lv_at hl 0 rfl) ?_
  refine lv_iload hx hb dL_law_1863 (lv_at hl 4 rfl) ?_
  refine lv_iconst (v := 1) hx hb dL_law_1865 (by decide) ?_
  refine lv_iadd hx hb dL_law_1866 ?_
  refine va_sld hx hb hX hbl hbA hS (by unfold vp_in; decide) dL_law_1867 ?_
  refine lv_aload_n hx hb dL_law_1868 rfl (lv_at hl 3 rfl) ?_
  have hFc := va_free (wc := [(a0, .inr (8, [.ref a1, .ref aT])), (a1, .inr (5, [.ref a2, .ref b1, .ref b2, .ref b3, .ref b4, .ref b5, .int 0, .int 1, .int 0, .int 0, .int 0, .int 0])), (a2, .inr (2, [.ref b6, .int 0, .ref b7, .int 0])), (o0, .inl (cy 1, 1, .inr (.inl ((fun _ => 0)))))]) hD hS hA [0, 1, 2, 5] rfl
  refine vx_calli (vx_runSX (As := [.ref a0, .int (xs (0 + 1 : Int32).toNatClampNeg), .ref o0]) (rest := []) ⟨hx, hb, hml, hown, hts⟩ (tm_L_onLink l hst dC dI cy a0 a1 a2 aT b1 b2 b3 b4 b5 b6 b7 o0 (xs (0 + 1 : Int32).toNatClampNeg) H.size) (tp_cwSW 3 hts tw_1044 tw_1045 tw_37 tw_1046 rfl rfl (by decide +kernel) ⟨Nat.le_of_ble_eq_true rfl, Nat.le_of_ble_eq_true rfl⟩) ⟨tp_blind, fun U hU hW => ⟨rfl, tp_pay hK hP hD hE hZ hS [0, 1, 2, 5] (by decide) rfl hFc U hU hW⟩⟩ rfl rfl hl.1 rfl (lv_room (Nat.le_of_ble_eq_true rfl)) dL_law_1869 ⟨(Nat.le_of_ble_eq_true rfl), (Nat.le_of_ble_eq_true rfl)⟩) hS (fun q _ h => hFc q h) hFc (fun q _ h => hFc q h) (fun E9 ce q9 u t H1 locs ht hvm hw hB hz1 hk1 hS hce hcv hcl => ?_) (fun r_1 u t H1 locs ht hvm hw hB hz1 hk1 hS => ?_)
  · obtain ⟨hE9, hB⟩ := hB
    exact hE9.elim
  · obtain rfl := hw
    obtain ⟨f_2, hP1, hD1⟩ := hB
    subst f_2
    rw [ht] at hP1
    obtain ⟨hP, hD⟩ := va_join (wr := [(m0, .inr (10, [.ref w0, .int 0])), (w0, .inr (9, [.int 0, .int 1, .int 0, .ref r_phases, .ref r_phase, .ref r_phaseTicks, .ref r_set, .ref r_least, .ref r_greatest, .int 0, .ref r_from, .ref r_to, .ref r_time, .ref r_room, .ref r_first, .ref r_rate, .ref r_cost, .ref r_isShut, .ref r_slowed, .ref r_row, .ref r_size, .ref r_came, .ref r_left, .ref r_mostQueue, .ref r_sumQueue, .ref r_turned, .int 0, .ref r_flowFrom, .ref r_flowTo, .ref r_kind, .ref r_start, .ref r_period, .ref r_count, .int 0, .ref r_flow, .ref r_began, .ref r_state, .ref r_link, .ref r_end, .ref r_gone, .ref r_trip, .ref r_delay, .ref r_way]))]) (w1 := [(o0, .inl (cy 1, 1, .inr (.inl ((fun _ => 0)))))]) hP hD [0, 1, 2, 5] [3, 4] rfl rfl (by decide) (by decide) hk1 hFc hP1 hD1
    generalize H1 = H at hP hS ⊢
    have hP : va_P (dC, dI) vwCl [(m0, .inr (10, [.ref w0, .int 0])), (w0, .inr (9, [.int 0, .int 1, .int 0, .ref r_phases, .ref r_phase, .ref r_phaseTicks, .ref r_set, .ref r_least, .ref r_greatest, .int 0, .ref r_from, .ref r_to, .ref r_time, .ref r_room, .ref r_first, .ref r_rate, .ref r_cost, .ref r_isShut, .ref r_slowed, .ref r_row, .ref r_size, .ref r_came, .ref r_left, .ref r_mostQueue, .ref r_sumQueue, .ref r_turned, .int 0, .ref r_flowFrom, .ref r_flowTo, .ref r_kind, .ref r_start, .ref r_period, .ref r_count, .int 0, .ref r_flow, .ref r_began, .ref r_state, .ref r_link, .ref r_end, .ref r_gone, .ref r_trip, .ref r_delay, .ref r_way])), (o0, .inl (cy 1, 1, .inr (.inl ((fun _ => 0)))))] _ := hP
    have hD : va_D A [(m0, .inr (10, [.ref w0, .int 0])), (w0, .inr (9, [.int 0, .int 1, .int 0, .ref r_phases, .ref r_phase, .ref r_phaseTicks, .ref r_set, .ref r_least, .ref r_greatest, .int 0, .ref r_from, .ref r_to, .ref r_time, .ref r_room, .ref r_first, .ref r_rate, .ref r_cost, .ref r_isShut, .ref r_slowed, .ref r_row, .ref r_size, .ref r_came, .ref r_left, .ref r_mostQueue, .ref r_sumQueue, .ref r_turned, .int 0, .ref r_flowFrom, .ref r_flowTo, .ref r_kind, .ref r_start, .ref r_period, .ref r_count, .int 0, .ref r_flow, .ref r_began, .ref r_state, .ref r_link, .ref r_end, .ref r_gone, .ref r_trip, .ref r_delay, .ref r_way])), (o0, .inl (cy 1, 1, .inr (.inl ((fun _ => 0)))))] := hD
    refine lv_istore (lv' := [(5, .int 1), (0, .ref b), (1, .ref a0), (2, .ref m0), (3, .ref o0), (4, .int 0)]) hx hb dL_law_1872 hl (by decide) rfl (fun ls hl => ?_)
    refine lv_aload_n hx hb dL_law_1874 rfl (lv_at hl 3 rfl) ?_
    refine lv_aload_n hx hb dL_law_1875 rfl (lv_at hl 1 rfl) ?_
    refine lv_iload hx hb dL_law_1876 (lv_at hl 5 rfl) ?_
    refine lv_iconst (v := 1) hx hb dL_law_1878 (by decide) ?_
    refine lv_iadd hx hb dL_law_1879 ?_
    refine va_sld hx hb hX hbl hbA hS (by unfold vp_in; decide) dL_law_1880 ?_
    have hFc := va_free (wc := [(m0, .inr (10, [.ref w0, .int 0])), (w0, .inr (9, [.int 0, .int 1, .int 0, .ref r_phases, .ref r_phase, .ref r_phaseTicks, .ref r_set, .ref r_least, .ref r_greatest, .int 0, .ref r_from, .ref r_to, .ref r_time, .ref r_room, .ref r_first, .ref r_rate, .ref r_cost, .ref r_isShut, .ref r_slowed, .ref r_row, .ref r_size, .ref r_came, .ref r_left, .ref r_mostQueue, .ref r_sumQueue, .ref r_turned, .int 0, .ref r_flowFrom, .ref r_flowTo, .ref r_kind, .ref r_start, .ref r_period, .ref r_count, .int 0, .ref r_flow, .ref r_began, .ref r_state, .ref r_link, .ref r_end, .ref r_gone, .ref r_trip, .ref r_delay, .ref r_way]))]) hD hS hA [0, 1] rfl
    refine va_calli (va_runV (As := [.int (xs (0 + 1 : Int32).toNatClampNeg)]) (rest := []) ⟨hx, hb, hml, hown, hts⟩ (tm_m_onLink l hst dC dI cy m0 w0 0 r_phases r_phase r_phaseTicks r_set r_least r_greatest r_from r_to r_time r_room r_first r_rate r_cost r_isShut r_slowed r_row r_size r_came r_left r_mostQueue r_sumQueue r_turned r_flowFrom r_flowTo r_kind r_start r_period r_count r_flow r_began r_state r_link r_end r_gone r_trip r_delay r_way (xs (0 + 1 : Int32).toNatClampNeg) H.size) (tp_cwV 1 hts tw_1539 tw_1540 tw_1541 tw_48 tw_1542 rfl rfl (by decide +kernel) ⟨Nat.le_of_ble_eq_true rfl, Nat.le_of_ble_eq_true rfl⟩) ⟨tp_blind, va_recv hK hP (ci := 10) (q0 := 0) rfl rfl, fun U hU hW => ⟨rfl, tp_pay hK hP hD hE hZ hS [0, 1] (by decide) rfl hFc U hU hW⟩⟩ rfl rfl hl.1 rfl (lv_room (Nat.le_of_ble_eq_true rfl)) dL_law_1881 ⟨(Nat.le_of_ble_eq_true rfl), (Nat.le_of_ble_eq_true rfl)⟩) hS (fun q _ h => hFc q h) hFc (fun r_3 u t H1 locs ht hvm hw hB hz1 hk1 hS => ?_)
    obtain rfl := hw
    obtain ⟨f_4, hP1, hD1⟩ := hB
    subst f_4
    rw [ht] at hP1
    obtain ⟨hP, hD⟩ := va_join (wr := [(o0, .inl (cy 1, 1, .inr (.inl ((fun _ => 0)))))]) (w1 := [(m0, .inr (10, [.ref w0, .int 1]))]) hP hD [0, 1] [2] rfl rfl (by decide) (by decide) hk1 hFc hP1 hD1
    generalize H1 = H at hP hS ⊢
    have hP : va_P (dC, dI) vwCl [(o0, .inl (cy 1, 1, .inr (.inl ((fun _ => 0))))), (m0, .inr (10, [.ref w0, .int 1]))] _ := hP
    have hD : va_D A [(o0, .inl (cy 1, 1, .inr (.inl ((fun _ => 0))))), (m0, .inr (10, [.ref w0, .int 1]))] := hD
    refine lv_istore (lv' := [(6, .int 0), (5, .int 1), (0, .ref b), (1, .ref a0), (2, .ref m0), (3, .ref o0), (4, .int 0)]) hx hb dL_law_1884 hl (by decide) rfl (fun ls hl => ?_)
    refine lv_aload_n hx hb dL_law_1886 rfl (lv_at hl 4 rfl) ?_
    have hFc := va_free (wc := [(m0, .inr (10, [.ref w0, .int 1]))]) hD hS hA [1] rfl
    refine va_calli (va_runV (As := []) (rest := []) ⟨hx, hb, hml, hown, hts⟩ (tm_m_thrown l hst dC dI cy m0 w0 1 H.size) (tp_cwV 0 hts tw_1317 tw_1318 tw_1319 tw_48 tw_1320 rfl rfl (by decide +kernel) ⟨Nat.le_of_ble_eq_true rfl, Nat.le_of_ble_eq_true rfl⟩) ⟨tp_blind, va_recv hK hP (ci := 10) (q0 := 1) rfl rfl, fun U hU hW => ⟨rfl, tp_pay hK hP hD hE hZ hS [1] (by decide) rfl hFc U hU hW⟩⟩ rfl rfl hl.1 rfl (lv_room (Nat.le_of_ble_eq_true rfl)) dL_law_1887 ⟨(Nat.le_of_ble_eq_true rfl), (Nat.le_of_ble_eq_true rfl)⟩) hS (fun q _ h => hFc q h) hFc (fun r_5 u t H1 locs ht hvm hw hB hz1 hk1 hS => ?_)
    obtain rfl := hw
    obtain ⟨f_6, hP1, hD1⟩ := hB
    subst f_6
    rw [ht] at hP1
    obtain ⟨hP, hD⟩ := va_join (wr := [(o0, .inl (cy 1, 1, .inr (.inl ((fun _ => 0)))))]) (w1 := [(m0, .inr (10, [.ref w0, .int 1]))]) hP hD [1] [0] rfl rfl (by decide) (by decide) hk1 hFc hP1 hD1
    generalize H1 = H at hP hS ⊢
    have hP : va_P (dC, dI) vwCl [(o0, .inl (cy 1, 1, .inr (.inl ((fun _ => 0))))), (m0, .inr (10, [.ref w0, .int 1]))] _ := hP
    have hD : va_D A [(o0, .inl (cy 1, 1, .inr (.inl ((fun _ => 0))))), (m0, .inr (10, [.ref w0, .int 1]))] := hD
    refine lv_iload hx hb dL_law_1890 (lv_at hl 1 rfl) ?_
    refine lv_icmp_eq (tgt := 1897) hx hb dL_law_1892 (by decide) (fun _ => ?_) (fun c_7 => absurd rfl c_7)
    refine lv_iload hx hb dL_law_1897 (lv_at hl 1 rfl) ?_
    refine lv_if_ne (tgt := 1914) hx hb dL_law_1899 (by decide) (fun _ => ?_) (fun c_8 => absurd c_8 (by decide))
    refine lv_goto (tgt := 2504) hx hb dL_law_1914 (by decide) ?_
    exact tc_end hd0 hs C1 hX (Nat.le_of_ble_eq_true rfl) (Nat.le_of_ble_eq_true rfl) H _ ls hS (lv_sub hl [2, 6] rfl)
set_option maxRecDepth 100000 in
set_option maxHeartbeats 4000000 in
/-- the case 30 -/
theorem tc_30 {p : Program} {l : Launch} {e : Env} {s0 s : State} {m : MethodId} {below : List Frame} {meth : Method} {c : Code} {A : Nat → Prop} (hst : l.stackTraces = false) {dC : Nat → ClassId} {dI : Nat → Nat → Nat} {cy : Nat → ClassId} {b : Nat} {xs : Nat → Int32} {d0 : Drawn} (hd0 : s0.drawn.sameBut d0 lw_cs) (hs : s = s0.setDrawn d0) (C1 : tc_At p s m meth c b #[Value.ref b] A dC dI cy) (hX : va_X b 7 xs s s.heap) {a0 : Nat} {a1 : Nat} {a2 : Nat} {aT : Nat} {b1 : Nat} {b2 : Nat} {b3 : Nat} {b4 : Nat} {b5 : Nat} {b6 : Nat} {b7 : Nat} {m0 : Nat} {w0 : Nat} {o0 : Nat} {r_phases : Nat} {r_phase : Nat} {r_phaseTicks : Nat} {r_set : Nat} {r_least : Nat} {r_greatest : Nat} {r_from : Nat} {r_to : Nat} {r_time : Nat} {r_room : Nat} {r_first : Nat} {r_rate : Nat} {r_cost : Nat} {r_isShut : Nat} {r_slowed : Nat} {r_row : Nat} {r_size : Nat} {r_came : Nat} {r_left : Nat} {r_mostQueue : Nat} {r_sumQueue : Nat} {r_turned : Nat} {r_flowFrom : Nat} {r_flowTo : Nat} {r_kind : Nat} {r_start : Nat} {r_period : Nat} {r_count : Nat} {r_flow : Nat} {r_began : Nat} {r_state : Nat} {r_link : Nat} {r_end : Nat} {r_gone : Nat} {r_trip : Nat} {r_delay : Nat} {r_way : Nat} (H : Heap) (locs : List Loc) (ls : Array Slot) (hP : va_P (dC, dI) vwCl [(a0, .inr (8, [.ref a1, .ref aT])), (a1, .inr (5, [.ref a2, .ref b1, .ref b2, .ref b3, .ref b4, .ref b5, .int 0, .int 1, .int 0, .int 0, .int 0, .int 0])), (a2, .inr (2, [.ref b6, .int 0, .ref b7, .int 0])), (m0, .inr (10, [.ref w0, .int 0])), (w0, .inr (9, [.int 0, .int 1, .int 0, .ref r_phases, .ref r_phase, .ref r_phaseTicks, .ref r_set, .ref r_least, .ref r_greatest, .int 0, .ref r_from, .ref r_to, .ref r_time, .ref r_room, .ref r_first, .ref r_rate, .ref r_cost, .ref r_isShut, .ref r_slowed, .ref r_row, .ref r_size, .ref r_came, .ref r_left, .ref r_mostQueue, .ref r_sumQueue, .ref r_turned, .int 0, .ref r_flowFrom, .ref r_flowTo, .ref r_kind, .ref r_start, .ref r_period, .ref r_count, .int 0, .ref r_flow, .ref r_began, .ref r_state, .ref r_link, .ref r_end, .ref r_gone, .ref r_trip, .ref r_delay, .ref r_way])), (o0, .inl (cy 1, 1, .inr (.inl ((fun _ => 0)))))] H) (hD : va_D A [(a0, .inr (8, [.ref a1, .ref aT])), (a1, .inr (5, [.ref a2, .ref b1, .ref b2, .ref b3, .ref b4, .ref b5, .int 0, .int 1, .int 0, .int 0, .int 0, .int 0])), (a2, .inr (2, [.ref b6, .int 0, .ref b7, .int 0])), (m0, .inr (10, [.ref w0, .int 0])), (w0, .inr (9, [.int 0, .int 1, .int 0, .ref r_phases, .ref r_phase, .ref r_phaseTicks, .ref r_set, .ref r_least, .ref r_greatest, .int 0, .ref r_from, .ref r_to, .ref r_time, .ref r_room, .ref r_first, .ref r_rate, .ref r_cost, .ref r_isShut, .ref r_slowed, .ref r_row, .ref r_size, .ref r_came, .ref r_left, .ref r_mostQueue, .ref r_sumQueue, .ref r_turned, .int 0, .ref r_flowFrom, .ref r_flowTo, .ref r_kind, .ref r_start, .ref r_period, .ref r_count, .int 0, .ref r_flow, .ref r_began, .ref r_state, .ref r_link, .ref r_end, .ref r_gone, .ref r_trip, .ref r_delay, .ref r_way])), (o0, .inl (cy 1, 1, .inr (.inl ((fun _ => 0)))))]) (hS : va_S A s.heap H locs) (hl : lv_has ls 9 [(0, .ref b), (1, .ref a0), (2, .ref m0), (3, .ref o0), (4, .int 0)]) : W p l e room_1 s m #[Value.ref b] below meth c H locs 1535 31585 (lw_Z below #[Value.ref b] s0) (F0 m 1917 ls []) := by
  have C2 := C1
  obtain ⟨hx, hb, hr, hml, hown, hts, hbl, hlocks, hK, hE, hZ, hA, hbA, hA2⟩ := C2
  refine lv_aload_n hx hb dL_law_1917 rfl (lv_at hl 1 rfl) ?_
  refine lv_aload_n hx hb dL_law_1918 rfl (lv_at hl 0 rfl) ?_
  refine lv_iload hx hb dL_law_1919 (lv_at hl 4 rfl) ?_
  refine lv_iconst (v := 1) hx hb dL_law_1921 (by decide) ?_
  refine lv_iadd hx hb dL_law_1922 ?_
  refine va_sld hx hb hX hbl hbA hS (by unfold vp_in; decide) dL_law_1923 ?_
  refine lv_aload_n hx hb dL_law_1924 rfl (lv_at hl 0 rfl) ?_
  refine lv_iload hx hb dL_law_1925 (lv_at hl 4 rfl) ?_
  refine lv_iconst (v := 2) hx hb dL_law_1927 (by decide) ?_
  refine lv_iadd hx hb dL_law_1928 ?_
  refine va_sld hx hb hX hbl hbA hS (by unfold vp_in; decide) dL_law_1929 ?_
  refine lv_aload_n hx hb dL_law_1930 rfl (lv_at hl 3 rfl) ?_
  have hFc := va_free (wc := [(a0, .inr (8, [.ref a1, .ref aT])), (a1, .inr (5, [.ref a2, .ref b1, .ref b2, .ref b3, .ref b4, .ref b5, .int 0, .int 1, .int 0, .int 0, .int 0, .int 0])), (a2, .inr (2, [.ref b6, .int 0, .ref b7, .int 0])), (o0, .inl (cy 1, 1, .inr (.inl ((fun _ => 0)))))]) hD hS hA [0, 1, 2, 5] rfl
  refine vx_calli (vx_runSX (As := [.ref a0, .int (xs (0 + 1 : Int32).toNatClampNeg), .int (xs (0 + 2 : Int32).toNatClampNeg), .ref o0]) (rest := []) ⟨hx, hb, hml, hown, hts⟩ (tm_L_vehicleAt l hst dC dI cy a0 a1 a2 aT b1 b2 b3 b4 b5 b6 b7 o0 (xs (0 + 1 : Int32).toNatClampNeg) (xs (0 + 2 : Int32).toNatClampNeg) H.size) (tp_cwSW 4 hts tw_1048 tw_1049 tw_37 tw_1050 rfl rfl (by decide +kernel) ⟨Nat.le_of_ble_eq_true rfl, Nat.le_of_ble_eq_true rfl⟩) ⟨tp_blind, fun U hU hW => ⟨rfl, tp_pay hK hP hD hE hZ hS [0, 1, 2, 5] (by decide) rfl hFc U hU hW⟩⟩ rfl rfl hl.1 rfl (lv_room (Nat.le_of_ble_eq_true rfl)) dL_law_1931 ⟨(Nat.le_of_ble_eq_true rfl), (Nat.le_of_ble_eq_true rfl)⟩) hS (fun q _ h => hFc q h) hFc (fun q _ h => hFc q h) (fun E9 ce q9 u t H1 locs ht hvm hw hB hz1 hk1 hS hce hcv hcl => ?_) (fun r_1 u t H1 locs ht hvm hw hB hz1 hk1 hS => ?_)
  · obtain ⟨hE9, hB⟩ := hB
    exact hE9.elim
  · obtain rfl := hw
    obtain ⟨f_2, hP1, hD1⟩ := hB
    subst f_2
    rw [ht] at hP1
    obtain ⟨hP, hD⟩ := va_join (wr := [(m0, .inr (10, [.ref w0, .int 0])), (w0, .inr (9, [.int 0, .int 1, .int 0, .ref r_phases, .ref r_phase, .ref r_phaseTicks, .ref r_set, .ref r_least, .ref r_greatest, .int 0, .ref r_from, .ref r_to, .ref r_time, .ref r_room, .ref r_first, .ref r_rate, .ref r_cost, .ref r_isShut, .ref r_slowed, .ref r_row, .ref r_size, .ref r_came, .ref r_left, .ref r_mostQueue, .ref r_sumQueue, .ref r_turned, .int 0, .ref r_flowFrom, .ref r_flowTo, .ref r_kind, .ref r_start, .ref r_period, .ref r_count, .int 0, .ref r_flow, .ref r_began, .ref r_state, .ref r_link, .ref r_end, .ref r_gone, .ref r_trip, .ref r_delay, .ref r_way]))]) (w1 := [(o0, .inl (cy 1, 1, .inr (.inl ((fun _ => 0)))))]) hP hD [0, 1, 2, 5] [3, 4] rfl rfl (by decide) (by decide) hk1 hFc hP1 hD1
    generalize H1 = H at hP hS ⊢
    have hP : va_P (dC, dI) vwCl [(m0, .inr (10, [.ref w0, .int 0])), (w0, .inr (9, [.int 0, .int 1, .int 0, .ref r_phases, .ref r_phase, .ref r_phaseTicks, .ref r_set, .ref r_least, .ref r_greatest, .int 0, .ref r_from, .ref r_to, .ref r_time, .ref r_room, .ref r_first, .ref r_rate, .ref r_cost, .ref r_isShut, .ref r_slowed, .ref r_row, .ref r_size, .ref r_came, .ref r_left, .ref r_mostQueue, .ref r_sumQueue, .ref r_turned, .int 0, .ref r_flowFrom, .ref r_flowTo, .ref r_kind, .ref r_start, .ref r_period, .ref r_count, .int 0, .ref r_flow, .ref r_began, .ref r_state, .ref r_link, .ref r_end, .ref r_gone, .ref r_trip, .ref r_delay, .ref r_way])), (o0, .inl (cy 1, 1, .inr (.inl ((fun _ => 0)))))] _ := hP
    have hD : va_D A [(m0, .inr (10, [.ref w0, .int 0])), (w0, .inr (9, [.int 0, .int 1, .int 0, .ref r_phases, .ref r_phase, .ref r_phaseTicks, .ref r_set, .ref r_least, .ref r_greatest, .int 0, .ref r_from, .ref r_to, .ref r_time, .ref r_room, .ref r_first, .ref r_rate, .ref r_cost, .ref r_isShut, .ref r_slowed, .ref r_row, .ref r_size, .ref r_came, .ref r_left, .ref r_mostQueue, .ref r_sumQueue, .ref r_turned, .int 0, .ref r_flowFrom, .ref r_flowTo, .ref r_kind, .ref r_start, .ref r_period, .ref r_count, .int 0, .ref r_flow, .ref r_began, .ref r_state, .ref r_link, .ref r_end, .ref r_gone, .ref r_trip, .ref r_delay, .ref r_way])), (o0, .inl (cy 1, 1, .inr (.inl ((fun _ => 0)))))] := hD
    refine lv_istore (lv' := [(5, .int 1), (0, .ref b), (1, .ref a0), (2, .ref m0), (3, .ref o0), (4, .int 0)]) hx hb dL_law_1934 hl (by decide) rfl (fun ls hl => ?_)
    refine lv_aload_n hx hb dL_law_1936 rfl (lv_at hl 3 rfl) ?_
    refine lv_aload_n hx hb dL_law_1937 rfl (lv_at hl 1 rfl) ?_
    refine lv_iload hx hb dL_law_1938 (lv_at hl 5 rfl) ?_
    refine lv_iconst (v := 1) hx hb dL_law_1940 (by decide) ?_
    refine lv_iadd hx hb dL_law_1941 ?_
    refine va_sld hx hb hX hbl hbA hS (by unfold vp_in; decide) dL_law_1942 ?_
    refine lv_aload_n hx hb dL_law_1943 rfl (lv_at hl 1 rfl) ?_
    refine lv_iload hx hb dL_law_1944 (lv_at hl 5 rfl) ?_
    refine lv_iconst (v := 2) hx hb dL_law_1946 (by decide) ?_
    refine lv_iadd hx hb dL_law_1947 ?_
    refine va_sld hx hb hX hbl hbA hS (by unfold vp_in; decide) dL_law_1948 ?_
    have hFc := va_free (wc := [(m0, .inr (10, [.ref w0, .int 0])), (w0, .inr (9, [.int 0, .int 1, .int 0, .ref r_phases, .ref r_phase, .ref r_phaseTicks, .ref r_set, .ref r_least, .ref r_greatest, .int 0, .ref r_from, .ref r_to, .ref r_time, .ref r_room, .ref r_first, .ref r_rate, .ref r_cost, .ref r_isShut, .ref r_slowed, .ref r_row, .ref r_size, .ref r_came, .ref r_left, .ref r_mostQueue, .ref r_sumQueue, .ref r_turned, .int 0, .ref r_flowFrom, .ref r_flowTo, .ref r_kind, .ref r_start, .ref r_period, .ref r_count, .int 0, .ref r_flow, .ref r_began, .ref r_state, .ref r_link, .ref r_end, .ref r_gone, .ref r_trip, .ref r_delay, .ref r_way]))]) hD hS hA [0, 1] rfl
    refine va_calli (va_runV (As := [.int (xs (0 + 1 : Int32).toNatClampNeg), .int (xs (0 + 2 : Int32).toNatClampNeg)]) (rest := []) ⟨hx, hb, hml, hown, hts⟩ (tm_m_vehicleAt l hst dC dI cy m0 w0 0 r_phases r_phase r_phaseTicks r_set r_least r_greatest r_from r_to r_time r_room r_first r_rate r_cost r_isShut r_slowed r_row r_size r_came r_left r_mostQueue r_sumQueue r_turned r_flowFrom r_flowTo r_kind r_start r_period r_count r_flow r_began r_state r_link r_end r_gone r_trip r_delay r_way (xs (0 + 1 : Int32).toNatClampNeg) (xs (0 + 2 : Int32).toNatClampNeg) H.size) (tp_cwV 2 hts tw_1543 tw_1544 tw_1545 tw_48 tw_1546 rfl rfl (by decide +kernel) ⟨Nat.le_of_ble_eq_true rfl, Nat.le_of_ble_eq_true rfl⟩) ⟨tp_blind, va_recv hK hP (ci := 10) (q0 := 0) rfl rfl, fun U hU hW => ⟨rfl, tp_pay hK hP hD hE hZ hS [0, 1] (by decide) rfl hFc U hU hW⟩⟩ rfl rfl hl.1 rfl (lv_room (Nat.le_of_ble_eq_true rfl)) dL_law_1949 ⟨(Nat.le_of_ble_eq_true rfl), (Nat.le_of_ble_eq_true rfl)⟩) hS (fun q _ h => hFc q h) hFc (fun r_3 u t H1 locs ht hvm hw hB hz1 hk1 hS => ?_)
    obtain rfl := hw
    obtain ⟨f_4, hP1, hD1⟩ := hB
    subst f_4
    rw [ht] at hP1
    obtain ⟨hP, hD⟩ := va_join (wr := [(o0, .inl (cy 1, 1, .inr (.inl ((fun _ => 0)))))]) (w1 := [(m0, .inr (10, [.ref w0, .int 1]))]) hP hD [0, 1] [2] rfl rfl (by decide) (by decide) hk1 hFc hP1 hD1
    generalize H1 = H at hP hS ⊢
    have hP : va_P (dC, dI) vwCl [(o0, .inl (cy 1, 1, .inr (.inl ((fun _ => 0))))), (m0, .inr (10, [.ref w0, .int 1]))] _ := hP
    have hD : va_D A [(o0, .inl (cy 1, 1, .inr (.inl ((fun _ => 0))))), (m0, .inr (10, [.ref w0, .int 1]))] := hD
    refine lv_istore (lv' := [(6, .int 0), (5, .int 1), (0, .ref b), (1, .ref a0), (2, .ref m0), (3, .ref o0), (4, .int 0)]) hx hb dL_law_1952 hl (by decide) rfl (fun ls hl => ?_)
    refine lv_aload_n hx hb dL_law_1954 rfl (lv_at hl 4 rfl) ?_
    have hFc := va_free (wc := [(m0, .inr (10, [.ref w0, .int 1]))]) hD hS hA [1] rfl
    refine va_calli (va_runV (As := []) (rest := []) ⟨hx, hb, hml, hown, hts⟩ (tm_m_thrown l hst dC dI cy m0 w0 1 H.size) (tp_cwV 0 hts tw_1317 tw_1318 tw_1319 tw_48 tw_1320 rfl rfl (by decide +kernel) ⟨Nat.le_of_ble_eq_true rfl, Nat.le_of_ble_eq_true rfl⟩) ⟨tp_blind, va_recv hK hP (ci := 10) (q0 := 1) rfl rfl, fun U hU hW => ⟨rfl, tp_pay hK hP hD hE hZ hS [1] (by decide) rfl hFc U hU hW⟩⟩ rfl rfl hl.1 rfl (lv_room (Nat.le_of_ble_eq_true rfl)) dL_law_1955 ⟨(Nat.le_of_ble_eq_true rfl), (Nat.le_of_ble_eq_true rfl)⟩) hS (fun q _ h => hFc q h) hFc (fun r_5 u t H1 locs ht hvm hw hB hz1 hk1 hS => ?_)
    obtain rfl := hw
    obtain ⟨f_6, hP1, hD1⟩ := hB
    subst f_6
    rw [ht] at hP1
    obtain ⟨hP, hD⟩ := va_join (wr := [(o0, .inl (cy 1, 1, .inr (.inl ((fun _ => 0)))))]) (w1 := [(m0, .inr (10, [.ref w0, .int 1]))]) hP hD [1] [0] rfl rfl (by decide) (by decide) hk1 hFc hP1 hD1
    generalize H1 = H at hP hS ⊢
    have hP : va_P (dC, dI) vwCl [(o0, .inl (cy 1, 1, .inr (.inl ((fun _ => 0))))), (m0, .inr (10, [.ref w0, .int 1]))] _ := hP
    have hD : va_D A [(o0, .inl (cy 1, 1, .inr (.inl ((fun _ => 0))))), (m0, .inr (10, [.ref w0, .int 1]))] := hD
    refine lv_iload hx hb dL_law_1958 (lv_at hl 1 rfl) ?_
    refine lv_icmp_eq (tgt := 1965) hx hb dL_law_1960 (by decide) (fun _ => ?_) (fun c_7 => absurd rfl c_7)
    refine lv_iload hx hb dL_law_1965 (lv_at hl 1 rfl) ?_
    refine lv_if_ne (tgt := 1982) hx hb dL_law_1967 (by decide) (fun _ => ?_) (fun c_8 => absurd c_8 (by decide))
    refine lv_goto (tgt := 2504) hx hb dL_law_1982 (by decide) ?_
    exact tc_end hd0 hs C1 hX (Nat.le_of_ble_eq_true rfl) (Nat.le_of_ble_eq_true rfl) H _ ls hS (lv_sub hl [2, 6] rfl)
set_option maxRecDepth 100000 in
set_option maxHeartbeats 4000000 in
/-- the case 31 -/
theorem tc_31 {p : Program} {l : Launch} {e : Env} {s0 s : State} {m : MethodId} {below : List Frame} {meth : Method} {c : Code} {A : Nat → Prop} (hst : l.stackTraces = false) {dC : Nat → ClassId} {dI : Nat → Nat → Nat} {cy : Nat → ClassId} {b : Nat} {xs : Nat → Int32} {d0 : Drawn} (hd0 : s0.drawn.sameBut d0 lw_cs) (hs : s = s0.setDrawn d0) (C1 : tc_At p s m meth c b #[Value.ref b] A dC dI cy) (hX : va_X b 7 xs s s.heap) {a0 : Nat} {a1 : Nat} {a2 : Nat} {aT : Nat} {b1 : Nat} {b2 : Nat} {b3 : Nat} {b4 : Nat} {b5 : Nat} {b6 : Nat} {b7 : Nat} {m0 : Nat} {w0 : Nat} {o0 : Nat} {r_phases : Nat} {r_phase : Nat} {r_phaseTicks : Nat} {r_set : Nat} {r_least : Nat} {r_greatest : Nat} {r_from : Nat} {r_to : Nat} {r_time : Nat} {r_room : Nat} {r_first : Nat} {r_rate : Nat} {r_cost : Nat} {r_isShut : Nat} {r_slowed : Nat} {r_row : Nat} {r_size : Nat} {r_came : Nat} {r_left : Nat} {r_mostQueue : Nat} {r_sumQueue : Nat} {r_turned : Nat} {r_flowFrom : Nat} {r_flowTo : Nat} {r_kind : Nat} {r_start : Nat} {r_period : Nat} {r_count : Nat} {r_flow : Nat} {r_began : Nat} {r_state : Nat} {r_link : Nat} {r_end : Nat} {r_gone : Nat} {r_trip : Nat} {r_delay : Nat} {r_way : Nat} (H : Heap) (locs : List Loc) (ls : Array Slot) (hP : va_P (dC, dI) vwCl [(a0, .inr (8, [.ref a1, .ref aT])), (a1, .inr (5, [.ref a2, .ref b1, .ref b2, .ref b3, .ref b4, .ref b5, .int 0, .int 1, .int 0, .int 0, .int 0, .int 0])), (a2, .inr (2, [.ref b6, .int 0, .ref b7, .int 0])), (m0, .inr (10, [.ref w0, .int 0])), (w0, .inr (9, [.int 0, .int 1, .int 0, .ref r_phases, .ref r_phase, .ref r_phaseTicks, .ref r_set, .ref r_least, .ref r_greatest, .int 0, .ref r_from, .ref r_to, .ref r_time, .ref r_room, .ref r_first, .ref r_rate, .ref r_cost, .ref r_isShut, .ref r_slowed, .ref r_row, .ref r_size, .ref r_came, .ref r_left, .ref r_mostQueue, .ref r_sumQueue, .ref r_turned, .int 0, .ref r_flowFrom, .ref r_flowTo, .ref r_kind, .ref r_start, .ref r_period, .ref r_count, .int 0, .ref r_flow, .ref r_began, .ref r_state, .ref r_link, .ref r_end, .ref r_gone, .ref r_trip, .ref r_delay, .ref r_way])), (o0, .inl (cy 1, 1, .inr (.inl ((fun _ => 0)))))] H) (hD : va_D A [(a0, .inr (8, [.ref a1, .ref aT])), (a1, .inr (5, [.ref a2, .ref b1, .ref b2, .ref b3, .ref b4, .ref b5, .int 0, .int 1, .int 0, .int 0, .int 0, .int 0])), (a2, .inr (2, [.ref b6, .int 0, .ref b7, .int 0])), (m0, .inr (10, [.ref w0, .int 0])), (w0, .inr (9, [.int 0, .int 1, .int 0, .ref r_phases, .ref r_phase, .ref r_phaseTicks, .ref r_set, .ref r_least, .ref r_greatest, .int 0, .ref r_from, .ref r_to, .ref r_time, .ref r_room, .ref r_first, .ref r_rate, .ref r_cost, .ref r_isShut, .ref r_slowed, .ref r_row, .ref r_size, .ref r_came, .ref r_left, .ref r_mostQueue, .ref r_sumQueue, .ref r_turned, .int 0, .ref r_flowFrom, .ref r_flowTo, .ref r_kind, .ref r_start, .ref r_period, .ref r_count, .int 0, .ref r_flow, .ref r_began, .ref r_state, .ref r_link, .ref r_end, .ref r_gone, .ref r_trip, .ref r_delay, .ref r_way])), (o0, .inl (cy 1, 1, .inr (.inl ((fun _ => 0)))))]) (hS : va_S A s.heap H locs) (hl : lv_has ls 9 [(0, .ref b), (1, .ref a0), (2, .ref m0), (3, .ref o0), (4, .int 0)]) : W p l e room_1 s m #[Value.ref b] below meth c H locs 1535 31585 (lw_Z below #[Value.ref b] s0) (F0 m 1985 ls []) := by
  have C2 := C1
  obtain ⟨hx, hb, hr, hml, hown, hts, hbl, hlocks, hK, hE, hZ, hA, hbA, hA2⟩ := C2
  refine lv_aload_n hx hb dL_law_1985 rfl (lv_at hl 1 rfl) ?_
  refine lv_aload_n hx hb dL_law_1986 rfl (lv_at hl 0 rfl) ?_
  refine lv_iload hx hb dL_law_1987 (lv_at hl 4 rfl) ?_
  refine lv_iconst (v := 1) hx hb dL_law_1989 (by decide) ?_
  refine lv_iadd hx hb dL_law_1990 ?_
  refine va_sld hx hb hX hbl hbA hS (by unfold vp_in; decide) dL_law_1991 ?_
  refine lv_aload_n hx hb dL_law_1992 rfl (lv_at hl 3 rfl) ?_
  have hFc := va_free (wc := [(a0, .inr (8, [.ref a1, .ref aT])), (a1, .inr (5, [.ref a2, .ref b1, .ref b2, .ref b3, .ref b4, .ref b5, .int 0, .int 1, .int 0, .int 0, .int 0, .int 0])), (a2, .inr (2, [.ref b6, .int 0, .ref b7, .int 0])), (o0, .inl (cy 1, 1, .inr (.inl ((fun _ => 0)))))]) hD hS hA [0, 1, 2, 5] rfl
  refine vx_calli (vx_runSX (As := [.ref a0, .int (xs (0 + 1 : Int32).toNatClampNeg), .ref o0]) (rest := []) ⟨hx, hb, hml, hown, hts⟩ (tm_L_queue l hst dC dI cy a0 a1 a2 aT b1 b2 b3 b4 b5 b6 b7 o0 (xs (0 + 1 : Int32).toNatClampNeg) H.size) (tp_cwSW 3 hts tw_1052 tw_1053 tw_37 tw_1054 rfl rfl (by decide +kernel) ⟨Nat.le_of_ble_eq_true rfl, Nat.le_of_ble_eq_true rfl⟩) ⟨tp_blind, fun U hU hW => ⟨rfl, tp_pay hK hP hD hE hZ hS [0, 1, 2, 5] (by decide) rfl hFc U hU hW⟩⟩ rfl rfl hl.1 rfl (lv_room (Nat.le_of_ble_eq_true rfl)) dL_law_1993 ⟨(Nat.le_of_ble_eq_true rfl), (Nat.le_of_ble_eq_true rfl)⟩) hS (fun q _ h => hFc q h) hFc (fun q _ h => hFc q h) (fun E9 ce q9 u t H1 locs ht hvm hw hB hz1 hk1 hS hce hcv hcl => ?_) (fun r_1 u t H1 locs ht hvm hw hB hz1 hk1 hS => ?_)
  · obtain ⟨hE9, hB⟩ := hB
    exact hE9.elim
  · obtain rfl := hw
    obtain ⟨f_2, hP1, hD1⟩ := hB
    subst f_2
    rw [ht] at hP1
    obtain ⟨hP, hD⟩ := va_join (wr := [(m0, .inr (10, [.ref w0, .int 0])), (w0, .inr (9, [.int 0, .int 1, .int 0, .ref r_phases, .ref r_phase, .ref r_phaseTicks, .ref r_set, .ref r_least, .ref r_greatest, .int 0, .ref r_from, .ref r_to, .ref r_time, .ref r_room, .ref r_first, .ref r_rate, .ref r_cost, .ref r_isShut, .ref r_slowed, .ref r_row, .ref r_size, .ref r_came, .ref r_left, .ref r_mostQueue, .ref r_sumQueue, .ref r_turned, .int 0, .ref r_flowFrom, .ref r_flowTo, .ref r_kind, .ref r_start, .ref r_period, .ref r_count, .int 0, .ref r_flow, .ref r_began, .ref r_state, .ref r_link, .ref r_end, .ref r_gone, .ref r_trip, .ref r_delay, .ref r_way]))]) (w1 := [(o0, .inl (cy 1, 1, .inr (.inl ((fun _ => 0)))))]) hP hD [0, 1, 2, 5] [3, 4] rfl rfl (by decide) (by decide) hk1 hFc hP1 hD1
    generalize H1 = H at hP hS ⊢
    have hP : va_P (dC, dI) vwCl [(m0, .inr (10, [.ref w0, .int 0])), (w0, .inr (9, [.int 0, .int 1, .int 0, .ref r_phases, .ref r_phase, .ref r_phaseTicks, .ref r_set, .ref r_least, .ref r_greatest, .int 0, .ref r_from, .ref r_to, .ref r_time, .ref r_room, .ref r_first, .ref r_rate, .ref r_cost, .ref r_isShut, .ref r_slowed, .ref r_row, .ref r_size, .ref r_came, .ref r_left, .ref r_mostQueue, .ref r_sumQueue, .ref r_turned, .int 0, .ref r_flowFrom, .ref r_flowTo, .ref r_kind, .ref r_start, .ref r_period, .ref r_count, .int 0, .ref r_flow, .ref r_began, .ref r_state, .ref r_link, .ref r_end, .ref r_gone, .ref r_trip, .ref r_delay, .ref r_way])), (o0, .inl (cy 1, 1, .inr (.inl ((fun _ => 0)))))] _ := hP
    have hD : va_D A [(m0, .inr (10, [.ref w0, .int 0])), (w0, .inr (9, [.int 0, .int 1, .int 0, .ref r_phases, .ref r_phase, .ref r_phaseTicks, .ref r_set, .ref r_least, .ref r_greatest, .int 0, .ref r_from, .ref r_to, .ref r_time, .ref r_room, .ref r_first, .ref r_rate, .ref r_cost, .ref r_isShut, .ref r_slowed, .ref r_row, .ref r_size, .ref r_came, .ref r_left, .ref r_mostQueue, .ref r_sumQueue, .ref r_turned, .int 0, .ref r_flowFrom, .ref r_flowTo, .ref r_kind, .ref r_start, .ref r_period, .ref r_count, .int 0, .ref r_flow, .ref r_began, .ref r_state, .ref r_link, .ref r_end, .ref r_gone, .ref r_trip, .ref r_delay, .ref r_way])), (o0, .inl (cy 1, 1, .inr (.inl ((fun _ => 0)))))] := hD
    refine lv_istore (lv' := [(5, .int 1), (0, .ref b), (1, .ref a0), (2, .ref m0), (3, .ref o0), (4, .int 0)]) hx hb dL_law_1996 hl (by decide) rfl (fun ls hl => ?_)
    refine lv_aload_n hx hb dL_law_1998 rfl (lv_at hl 3 rfl) ?_
    refine lv_aload_n hx hb dL_law_1999 rfl (lv_at hl 1 rfl) ?_
    refine lv_iload hx hb dL_law_2000 (lv_at hl 5 rfl) ?_
    refine lv_iconst (v := 1) hx hb dL_law_2002 (by decide) ?_
    refine lv_iadd hx hb dL_law_2003 ?_
    refine va_sld hx hb hX hbl hbA hS (by unfold vp_in; decide) dL_law_2004 ?_
    have hFc := va_free (wc := [(m0, .inr (10, [.ref w0, .int 0])), (w0, .inr (9, [.int 0, .int 1, .int 0, .ref r_phases, .ref r_phase, .ref r_phaseTicks, .ref r_set, .ref r_least, .ref r_greatest, .int 0, .ref r_from, .ref r_to, .ref r_time, .ref r_room, .ref r_first, .ref r_rate, .ref r_cost, .ref r_isShut, .ref r_slowed, .ref r_row, .ref r_size, .ref r_came, .ref r_left, .ref r_mostQueue, .ref r_sumQueue, .ref r_turned, .int 0, .ref r_flowFrom, .ref r_flowTo, .ref r_kind, .ref r_start, .ref r_period, .ref r_count, .int 0, .ref r_flow, .ref r_began, .ref r_state, .ref r_link, .ref r_end, .ref r_gone, .ref r_trip, .ref r_delay, .ref r_way]))]) hD hS hA [0, 1] rfl
    refine va_calli (va_runV (As := [.int (xs (0 + 1 : Int32).toNatClampNeg)]) (rest := []) ⟨hx, hb, hml, hown, hts⟩ (tm_m_queue l hst dC dI cy m0 w0 0 r_phases r_phase r_phaseTicks r_set r_least r_greatest r_from r_to r_time r_room r_first r_rate r_cost r_isShut r_slowed r_row r_size r_came r_left r_mostQueue r_sumQueue r_turned r_flowFrom r_flowTo r_kind r_start r_period r_count r_flow r_began r_state r_link r_end r_gone r_trip r_delay r_way (xs (0 + 1 : Int32).toNatClampNeg) H.size) (tp_cwV 1 hts tw_1548 tw_1549 tw_1550 tw_48 tw_1551 rfl rfl (by decide +kernel) ⟨Nat.le_of_ble_eq_true rfl, Nat.le_of_ble_eq_true rfl⟩) ⟨tp_blind, va_recv hK hP (ci := 10) (q0 := 0) rfl rfl, fun U hU hW => ⟨rfl, tp_pay hK hP hD hE hZ hS [0, 1] (by decide) rfl hFc U hU hW⟩⟩ rfl rfl hl.1 rfl (lv_room (Nat.le_of_ble_eq_true rfl)) dL_law_2005 ⟨(Nat.le_of_ble_eq_true rfl), (Nat.le_of_ble_eq_true rfl)⟩) hS (fun q _ h => hFc q h) hFc (fun r_3 u t H1 locs ht hvm hw hB hz1 hk1 hS => ?_)
    obtain rfl := hw
    obtain ⟨f_4, hP1, hD1⟩ := hB
    subst f_4
    rw [ht] at hP1
    obtain ⟨hP, hD⟩ := va_join (wr := [(o0, .inl (cy 1, 1, .inr (.inl ((fun _ => 0)))))]) (w1 := [(m0, .inr (10, [.ref w0, .int 1]))]) hP hD [0, 1] [2] rfl rfl (by decide) (by decide) hk1 hFc hP1 hD1
    generalize H1 = H at hP hS ⊢
    have hP : va_P (dC, dI) vwCl [(o0, .inl (cy 1, 1, .inr (.inl ((fun _ => 0))))), (m0, .inr (10, [.ref w0, .int 1]))] _ := hP
    have hD : va_D A [(o0, .inl (cy 1, 1, .inr (.inl ((fun _ => 0))))), (m0, .inr (10, [.ref w0, .int 1]))] := hD
    refine lv_istore (lv' := [(6, .int 0), (5, .int 1), (0, .ref b), (1, .ref a0), (2, .ref m0), (3, .ref o0), (4, .int 0)]) hx hb dL_law_2008 hl (by decide) rfl (fun ls hl => ?_)
    refine lv_aload_n hx hb dL_law_2010 rfl (lv_at hl 4 rfl) ?_
    have hFc := va_free (wc := [(m0, .inr (10, [.ref w0, .int 1]))]) hD hS hA [1] rfl
    refine va_calli (va_runV (As := []) (rest := []) ⟨hx, hb, hml, hown, hts⟩ (tm_m_thrown l hst dC dI cy m0 w0 1 H.size) (tp_cwV 0 hts tw_1317 tw_1318 tw_1319 tw_48 tw_1320 rfl rfl (by decide +kernel) ⟨Nat.le_of_ble_eq_true rfl, Nat.le_of_ble_eq_true rfl⟩) ⟨tp_blind, va_recv hK hP (ci := 10) (q0 := 1) rfl rfl, fun U hU hW => ⟨rfl, tp_pay hK hP hD hE hZ hS [1] (by decide) rfl hFc U hU hW⟩⟩ rfl rfl hl.1 rfl (lv_room (Nat.le_of_ble_eq_true rfl)) dL_law_2011 ⟨(Nat.le_of_ble_eq_true rfl), (Nat.le_of_ble_eq_true rfl)⟩) hS (fun q _ h => hFc q h) hFc (fun r_5 u t H1 locs ht hvm hw hB hz1 hk1 hS => ?_)
    obtain rfl := hw
    obtain ⟨f_6, hP1, hD1⟩ := hB
    subst f_6
    rw [ht] at hP1
    obtain ⟨hP, hD⟩ := va_join (wr := [(o0, .inl (cy 1, 1, .inr (.inl ((fun _ => 0)))))]) (w1 := [(m0, .inr (10, [.ref w0, .int 1]))]) hP hD [1] [0] rfl rfl (by decide) (by decide) hk1 hFc hP1 hD1
    generalize H1 = H at hP hS ⊢
    have hP : va_P (dC, dI) vwCl [(o0, .inl (cy 1, 1, .inr (.inl ((fun _ => 0))))), (m0, .inr (10, [.ref w0, .int 1]))] _ := hP
    have hD : va_D A [(o0, .inl (cy 1, 1, .inr (.inl ((fun _ => 0))))), (m0, .inr (10, [.ref w0, .int 1]))] := hD
    refine lv_iload hx hb dL_law_2014 (lv_at hl 1 rfl) ?_
    refine lv_icmp_eq (tgt := 2021) hx hb dL_law_2016 (by decide) (fun _ => ?_) (fun c_7 => absurd rfl c_7)
    refine lv_iload hx hb dL_law_2021 (lv_at hl 1 rfl) ?_
    refine lv_if_ne (tgt := 2038) hx hb dL_law_2023 (by decide) (fun _ => ?_) (fun c_8 => absurd c_8 (by decide))
    refine lv_goto (tgt := 2504) hx hb dL_law_2038 (by decide) ?_
    exact tc_end hd0 hs C1 hX (Nat.le_of_ble_eq_true rfl) (Nat.le_of_ble_eq_true rfl) H _ ls hS (lv_sub hl [2, 6] rfl)
set_option maxRecDepth 100000 in
set_option maxHeartbeats 4000000 in
/-- the case 32 -/
theorem tc_32 {p : Program} {l : Launch} {e : Env} {s0 s : State} {m : MethodId} {below : List Frame} {meth : Method} {c : Code} {A : Nat → Prop} (hst : l.stackTraces = false) {dC : Nat → ClassId} {dI : Nat → Nat → Nat} {cy : Nat → ClassId} {b : Nat} {xs : Nat → Int32} {d0 : Drawn} (hd0 : s0.drawn.sameBut d0 lw_cs) (hs : s = s0.setDrawn d0) (C1 : tc_At p s m meth c b #[Value.ref b] A dC dI cy) (hX : va_X b 7 xs s s.heap) {a0 : Nat} {a1 : Nat} {a2 : Nat} {aT : Nat} {b1 : Nat} {b2 : Nat} {b3 : Nat} {b4 : Nat} {b5 : Nat} {b6 : Nat} {b7 : Nat} {m0 : Nat} {w0 : Nat} {o0 : Nat} {r_phases : Nat} {r_phase : Nat} {r_phaseTicks : Nat} {r_set : Nat} {r_least : Nat} {r_greatest : Nat} {r_from : Nat} {r_to : Nat} {r_time : Nat} {r_room : Nat} {r_first : Nat} {r_rate : Nat} {r_cost : Nat} {r_isShut : Nat} {r_slowed : Nat} {r_row : Nat} {r_size : Nat} {r_came : Nat} {r_left : Nat} {r_mostQueue : Nat} {r_sumQueue : Nat} {r_turned : Nat} {r_flowFrom : Nat} {r_flowTo : Nat} {r_kind : Nat} {r_start : Nat} {r_period : Nat} {r_count : Nat} {r_flow : Nat} {r_began : Nat} {r_state : Nat} {r_link : Nat} {r_end : Nat} {r_gone : Nat} {r_trip : Nat} {r_delay : Nat} {r_way : Nat} (H : Heap) (locs : List Loc) (ls : Array Slot) (hP : va_P (dC, dI) vwCl [(a0, .inr (8, [.ref a1, .ref aT])), (a1, .inr (5, [.ref a2, .ref b1, .ref b2, .ref b3, .ref b4, .ref b5, .int 0, .int 1, .int 0, .int 0, .int 0, .int 0])), (a2, .inr (2, [.ref b6, .int 0, .ref b7, .int 0])), (m0, .inr (10, [.ref w0, .int 0])), (w0, .inr (9, [.int 0, .int 1, .int 0, .ref r_phases, .ref r_phase, .ref r_phaseTicks, .ref r_set, .ref r_least, .ref r_greatest, .int 0, .ref r_from, .ref r_to, .ref r_time, .ref r_room, .ref r_first, .ref r_rate, .ref r_cost, .ref r_isShut, .ref r_slowed, .ref r_row, .ref r_size, .ref r_came, .ref r_left, .ref r_mostQueue, .ref r_sumQueue, .ref r_turned, .int 0, .ref r_flowFrom, .ref r_flowTo, .ref r_kind, .ref r_start, .ref r_period, .ref r_count, .int 0, .ref r_flow, .ref r_began, .ref r_state, .ref r_link, .ref r_end, .ref r_gone, .ref r_trip, .ref r_delay, .ref r_way])), (o0, .inl (cy 1, 1, .inr (.inl ((fun _ => 0)))))] H) (hD : va_D A [(a0, .inr (8, [.ref a1, .ref aT])), (a1, .inr (5, [.ref a2, .ref b1, .ref b2, .ref b3, .ref b4, .ref b5, .int 0, .int 1, .int 0, .int 0, .int 0, .int 0])), (a2, .inr (2, [.ref b6, .int 0, .ref b7, .int 0])), (m0, .inr (10, [.ref w0, .int 0])), (w0, .inr (9, [.int 0, .int 1, .int 0, .ref r_phases, .ref r_phase, .ref r_phaseTicks, .ref r_set, .ref r_least, .ref r_greatest, .int 0, .ref r_from, .ref r_to, .ref r_time, .ref r_room, .ref r_first, .ref r_rate, .ref r_cost, .ref r_isShut, .ref r_slowed, .ref r_row, .ref r_size, .ref r_came, .ref r_left, .ref r_mostQueue, .ref r_sumQueue, .ref r_turned, .int 0, .ref r_flowFrom, .ref r_flowTo, .ref r_kind, .ref r_start, .ref r_period, .ref r_count, .int 0, .ref r_flow, .ref r_began, .ref r_state, .ref r_link, .ref r_end, .ref r_gone, .ref r_trip, .ref r_delay, .ref r_way])), (o0, .inl (cy 1, 1, .inr (.inl ((fun _ => 0)))))]) (hS : va_S A s.heap H locs) (hl : lv_has ls 9 [(0, .ref b), (1, .ref a0), (2, .ref m0), (3, .ref o0), (4, .int 0)]) : W p l e room_1 s m #[Value.ref b] below meth c H locs 1535 31585 (lw_Z below #[Value.ref b] s0) (F0 m 2041 ls []) := by
  have C2 := C1
  obtain ⟨hx, hb, hr, hml, hown, hts, hbl, hlocks, hK, hE, hZ, hA, hbA, hA2⟩ := C2
  refine lv_aload_n hx hb dL_law_2041 rfl (lv_at hl 1 rfl) ?_
  refine lv_aload_n hx hb dL_law_2042 rfl (lv_at hl 0 rfl) ?_
  refine lv_iload hx hb dL_law_2043 (lv_at hl 4 rfl) ?_
  refine lv_iconst (v := 1) hx hb dL_law_2045 (by decide) ?_
  refine lv_iadd hx hb dL_law_2046 ?_
  refine va_sld hx hb hX hbl hbA hS (by unfold vp_in; decide) dL_law_2047 ?_
  refine lv_aload_n hx hb dL_law_2048 rfl (lv_at hl 0 rfl) ?_
  refine lv_iload hx hb dL_law_2049 (lv_at hl 4 rfl) ?_
  refine lv_iconst (v := 2) hx hb dL_law_2051 (by decide) ?_
  refine lv_iadd hx hb dL_law_2052 ?_
  refine va_sld hx hb hX hbl hbA hS (by unfold vp_in; decide) dL_law_2053 ?_
  refine lv_aload_n hx hb dL_law_2054 rfl (lv_at hl 3 rfl) ?_
  have hFc := va_free (wc := [(a0, .inr (8, [.ref a1, .ref aT])), (a1, .inr (5, [.ref a2, .ref b1, .ref b2, .ref b3, .ref b4, .ref b5, .int 0, .int 1, .int 0, .int 0, .int 0, .int 0])), (a2, .inr (2, [.ref b6, .int 0, .ref b7, .int 0])), (o0, .inl (cy 1, 1, .inr (.inl ((fun _ => 0)))))]) hD hS hA [0, 1, 2, 5] rfl
  refine vx_calli (vx_runSX (As := [.ref a0, .int (xs (0 + 1 : Int32).toNatClampNeg), .int (xs (0 + 2 : Int32).toNatClampNeg), .ref o0]) (rest := []) ⟨hx, hb, hml, hown, hts⟩ (tm_L_count l hst dC dI cy a0 a1 a2 aT b1 b2 b3 b4 b5 b6 b7 o0 (xs (0 + 1 : Int32).toNatClampNeg) (xs (0 + 2 : Int32).toNatClampNeg) H.size) (tp_cwSW 4 hts tw_1056 tw_1057 tw_37 tw_1058 rfl rfl (by decide +kernel) ⟨Nat.le_of_ble_eq_true rfl, Nat.le_of_ble_eq_true rfl⟩) ⟨tp_blind, fun U hU hW => ⟨rfl, tp_pay hK hP hD hE hZ hS [0, 1, 2, 5] (by decide) rfl hFc U hU hW⟩⟩ rfl rfl hl.1 rfl (lv_room (Nat.le_of_ble_eq_true rfl)) dL_law_2055 ⟨(Nat.le_of_ble_eq_true rfl), (Nat.le_of_ble_eq_true rfl)⟩) hS (fun q _ h => hFc q h) hFc (fun q _ h => hFc q h) (fun E9 ce q9 u t H1 locs ht hvm hw hB hz1 hk1 hS hce hcv hcl => ?_) (fun r_1 u t H1 locs ht hvm hw hB hz1 hk1 hS => ?_)
  · obtain ⟨hE9, hB⟩ := hB
    exact hE9.elim
  · obtain rfl := hw
    obtain ⟨f_2, hP1, hD1⟩ := hB
    subst f_2
    rw [ht] at hP1
    obtain ⟨hP, hD⟩ := va_join (wr := [(m0, .inr (10, [.ref w0, .int 0])), (w0, .inr (9, [.int 0, .int 1, .int 0, .ref r_phases, .ref r_phase, .ref r_phaseTicks, .ref r_set, .ref r_least, .ref r_greatest, .int 0, .ref r_from, .ref r_to, .ref r_time, .ref r_room, .ref r_first, .ref r_rate, .ref r_cost, .ref r_isShut, .ref r_slowed, .ref r_row, .ref r_size, .ref r_came, .ref r_left, .ref r_mostQueue, .ref r_sumQueue, .ref r_turned, .int 0, .ref r_flowFrom, .ref r_flowTo, .ref r_kind, .ref r_start, .ref r_period, .ref r_count, .int 0, .ref r_flow, .ref r_began, .ref r_state, .ref r_link, .ref r_end, .ref r_gone, .ref r_trip, .ref r_delay, .ref r_way]))]) (w1 := [(o0, .inl (cy 1, 1, .inr (.inl ((fun _ => 0)))))]) hP hD [0, 1, 2, 5] [3, 4] rfl rfl (by decide) (by decide) hk1 hFc hP1 hD1
    generalize H1 = H at hP hS ⊢
    have hP : va_P (dC, dI) vwCl [(m0, .inr (10, [.ref w0, .int 0])), (w0, .inr (9, [.int 0, .int 1, .int 0, .ref r_phases, .ref r_phase, .ref r_phaseTicks, .ref r_set, .ref r_least, .ref r_greatest, .int 0, .ref r_from, .ref r_to, .ref r_time, .ref r_room, .ref r_first, .ref r_rate, .ref r_cost, .ref r_isShut, .ref r_slowed, .ref r_row, .ref r_size, .ref r_came, .ref r_left, .ref r_mostQueue, .ref r_sumQueue, .ref r_turned, .int 0, .ref r_flowFrom, .ref r_flowTo, .ref r_kind, .ref r_start, .ref r_period, .ref r_count, .int 0, .ref r_flow, .ref r_began, .ref r_state, .ref r_link, .ref r_end, .ref r_gone, .ref r_trip, .ref r_delay, .ref r_way])), (o0, .inl (cy 1, 1, .inr (.inl ((fun _ => 0)))))] _ := hP
    have hD : va_D A [(m0, .inr (10, [.ref w0, .int 0])), (w0, .inr (9, [.int 0, .int 1, .int 0, .ref r_phases, .ref r_phase, .ref r_phaseTicks, .ref r_set, .ref r_least, .ref r_greatest, .int 0, .ref r_from, .ref r_to, .ref r_time, .ref r_room, .ref r_first, .ref r_rate, .ref r_cost, .ref r_isShut, .ref r_slowed, .ref r_row, .ref r_size, .ref r_came, .ref r_left, .ref r_mostQueue, .ref r_sumQueue, .ref r_turned, .int 0, .ref r_flowFrom, .ref r_flowTo, .ref r_kind, .ref r_start, .ref r_period, .ref r_count, .int 0, .ref r_flow, .ref r_began, .ref r_state, .ref r_link, .ref r_end, .ref r_gone, .ref r_trip, .ref r_delay, .ref r_way])), (o0, .inl (cy 1, 1, .inr (.inl ((fun _ => 0)))))] := hD
    refine lv_istore (lv' := [(5, .int 1), (0, .ref b), (1, .ref a0), (2, .ref m0), (3, .ref o0), (4, .int 0)]) hx hb dL_law_2058 hl (by decide) rfl (fun ls hl => ?_)
    refine lv_aload_n hx hb dL_law_2060 rfl (lv_at hl 3 rfl) ?_
    refine lv_aload_n hx hb dL_law_2061 rfl (lv_at hl 1 rfl) ?_
    refine lv_iload hx hb dL_law_2062 (lv_at hl 5 rfl) ?_
    refine lv_iconst (v := 1) hx hb dL_law_2064 (by decide) ?_
    refine lv_iadd hx hb dL_law_2065 ?_
    refine va_sld hx hb hX hbl hbA hS (by unfold vp_in; decide) dL_law_2066 ?_
    refine lv_aload_n hx hb dL_law_2067 rfl (lv_at hl 1 rfl) ?_
    refine lv_iload hx hb dL_law_2068 (lv_at hl 5 rfl) ?_
    refine lv_iconst (v := 2) hx hb dL_law_2070 (by decide) ?_
    refine lv_iadd hx hb dL_law_2071 ?_
    refine va_sld hx hb hX hbl hbA hS (by unfold vp_in; decide) dL_law_2072 ?_
    have hFc := va_free (wc := [(m0, .inr (10, [.ref w0, .int 0])), (w0, .inr (9, [.int 0, .int 1, .int 0, .ref r_phases, .ref r_phase, .ref r_phaseTicks, .ref r_set, .ref r_least, .ref r_greatest, .int 0, .ref r_from, .ref r_to, .ref r_time, .ref r_room, .ref r_first, .ref r_rate, .ref r_cost, .ref r_isShut, .ref r_slowed, .ref r_row, .ref r_size, .ref r_came, .ref r_left, .ref r_mostQueue, .ref r_sumQueue, .ref r_turned, .int 0, .ref r_flowFrom, .ref r_flowTo, .ref r_kind, .ref r_start, .ref r_period, .ref r_count, .int 0, .ref r_flow, .ref r_began, .ref r_state, .ref r_link, .ref r_end, .ref r_gone, .ref r_trip, .ref r_delay, .ref r_way]))]) hD hS hA [0, 1] rfl
    refine va_calli (va_runV (As := [.int (xs (0 + 1 : Int32).toNatClampNeg), .int (xs (0 + 2 : Int32).toNatClampNeg)]) (rest := []) ⟨hx, hb, hml, hown, hts⟩ (tm_m_count l hst dC dI cy m0 w0 0 r_phases r_phase r_phaseTicks r_set r_least r_greatest r_from r_to r_time r_room r_first r_rate r_cost r_isShut r_slowed r_row r_size r_came r_left r_mostQueue r_sumQueue r_turned r_flowFrom r_flowTo r_kind r_start r_period r_count r_flow r_began r_state r_link r_end r_gone r_trip r_delay r_way (xs (0 + 1 : Int32).toNatClampNeg) (xs (0 + 2 : Int32).toNatClampNeg) H.size) (tp_cwV 2 hts tw_1553 tw_1554 tw_1555 tw_48 tw_1556 rfl rfl (by decide +kernel) ⟨Nat.le_of_ble_eq_true rfl, Nat.le_of_ble_eq_true rfl⟩) ⟨tp_blind, va_recv hK hP (ci := 10) (q0 := 0) rfl rfl, fun U hU hW => ⟨rfl, tp_pay hK hP hD hE hZ hS [0, 1] (by decide) rfl hFc U hU hW⟩⟩ rfl rfl hl.1 rfl (lv_room (Nat.le_of_ble_eq_true rfl)) dL_law_2073 ⟨(Nat.le_of_ble_eq_true rfl), (Nat.le_of_ble_eq_true rfl)⟩) hS (fun q _ h => hFc q h) hFc (fun r_3 u t H1 locs ht hvm hw hB hz1 hk1 hS => ?_)
    obtain rfl := hw
    obtain ⟨f_4, hP1, hD1⟩ := hB
    subst f_4
    rw [ht] at hP1
    obtain ⟨hP, hD⟩ := va_join (wr := [(o0, .inl (cy 1, 1, .inr (.inl ((fun _ => 0)))))]) (w1 := [(m0, .inr (10, [.ref w0, .int 1]))]) hP hD [0, 1] [2] rfl rfl (by decide) (by decide) hk1 hFc hP1 hD1
    generalize H1 = H at hP hS ⊢
    have hP : va_P (dC, dI) vwCl [(o0, .inl (cy 1, 1, .inr (.inl ((fun _ => 0))))), (m0, .inr (10, [.ref w0, .int 1]))] _ := hP
    have hD : va_D A [(o0, .inl (cy 1, 1, .inr (.inl ((fun _ => 0))))), (m0, .inr (10, [.ref w0, .int 1]))] := hD
    refine lv_istore (lv' := [(6, .int 0), (5, .int 1), (0, .ref b), (1, .ref a0), (2, .ref m0), (3, .ref o0), (4, .int 0)]) hx hb dL_law_2076 hl (by decide) rfl (fun ls hl => ?_)
    refine lv_aload_n hx hb dL_law_2078 rfl (lv_at hl 4 rfl) ?_
    have hFc := va_free (wc := [(m0, .inr (10, [.ref w0, .int 1]))]) hD hS hA [1] rfl
    refine va_calli (va_runV (As := []) (rest := []) ⟨hx, hb, hml, hown, hts⟩ (tm_m_thrown l hst dC dI cy m0 w0 1 H.size) (tp_cwV 0 hts tw_1317 tw_1318 tw_1319 tw_48 tw_1320 rfl rfl (by decide +kernel) ⟨Nat.le_of_ble_eq_true rfl, Nat.le_of_ble_eq_true rfl⟩) ⟨tp_blind, va_recv hK hP (ci := 10) (q0 := 1) rfl rfl, fun U hU hW => ⟨rfl, tp_pay hK hP hD hE hZ hS [1] (by decide) rfl hFc U hU hW⟩⟩ rfl rfl hl.1 rfl (lv_room (Nat.le_of_ble_eq_true rfl)) dL_law_2079 ⟨(Nat.le_of_ble_eq_true rfl), (Nat.le_of_ble_eq_true rfl)⟩) hS (fun q _ h => hFc q h) hFc (fun r_5 u t H1 locs ht hvm hw hB hz1 hk1 hS => ?_)
    obtain rfl := hw
    obtain ⟨f_6, hP1, hD1⟩ := hB
    subst f_6
    rw [ht] at hP1
    obtain ⟨hP, hD⟩ := va_join (wr := [(o0, .inl (cy 1, 1, .inr (.inl ((fun _ => 0)))))]) (w1 := [(m0, .inr (10, [.ref w0, .int 1]))]) hP hD [1] [0] rfl rfl (by decide) (by decide) hk1 hFc hP1 hD1
    generalize H1 = H at hP hS ⊢
    have hP : va_P (dC, dI) vwCl [(o0, .inl (cy 1, 1, .inr (.inl ((fun _ => 0))))), (m0, .inr (10, [.ref w0, .int 1]))] _ := hP
    have hD : va_D A [(o0, .inl (cy 1, 1, .inr (.inl ((fun _ => 0))))), (m0, .inr (10, [.ref w0, .int 1]))] := hD
    refine lv_iload hx hb dL_law_2082 (lv_at hl 1 rfl) ?_
    refine lv_icmp_eq (tgt := 2089) hx hb dL_law_2084 (by decide) (fun _ => ?_) (fun c_7 => absurd rfl c_7)
    refine lv_iload hx hb dL_law_2089 (lv_at hl 1 rfl) ?_
    refine lv_if_ne (tgt := 2106) hx hb dL_law_2091 (by decide) (fun _ => ?_) (fun c_8 => absurd c_8 (by decide))
    refine lv_goto (tgt := 2504) hx hb dL_law_2106 (by decide) ?_
    exact tc_end hd0 hs C1 hX (Nat.le_of_ble_eq_true rfl) (Nat.le_of_ble_eq_true rfl) H _ ls hS (lv_sub hl [2, 6] rfl)
set_option maxRecDepth 100000 in
set_option maxHeartbeats 4000000 in
/-- the case 33 -/
theorem tc_33 {p : Program} {l : Launch} {e : Env} {s0 s : State} {m : MethodId} {below : List Frame} {meth : Method} {c : Code} {A : Nat → Prop} (hst : l.stackTraces = false) {dC : Nat → ClassId} {dI : Nat → Nat → Nat} {cy : Nat → ClassId} {b : Nat} {xs : Nat → Int32} {d0 : Drawn} (hd0 : s0.drawn.sameBut d0 lw_cs) (hs : s = s0.setDrawn d0) (C1 : tc_At p s m meth c b #[Value.ref b] A dC dI cy) (hX : va_X b 7 xs s s.heap) {a0 : Nat} {a1 : Nat} {a2 : Nat} {aT : Nat} {b1 : Nat} {b2 : Nat} {b3 : Nat} {b4 : Nat} {b5 : Nat} {b6 : Nat} {b7 : Nat} {m0 : Nat} {w0 : Nat} {o0 : Nat} {r_phases : Nat} {r_phase : Nat} {r_phaseTicks : Nat} {r_set : Nat} {r_least : Nat} {r_greatest : Nat} {r_from : Nat} {r_to : Nat} {r_time : Nat} {r_room : Nat} {r_first : Nat} {r_rate : Nat} {r_cost : Nat} {r_isShut : Nat} {r_slowed : Nat} {r_row : Nat} {r_size : Nat} {r_came : Nat} {r_left : Nat} {r_mostQueue : Nat} {r_sumQueue : Nat} {r_turned : Nat} {r_flowFrom : Nat} {r_flowTo : Nat} {r_kind : Nat} {r_start : Nat} {r_period : Nat} {r_count : Nat} {r_flow : Nat} {r_began : Nat} {r_state : Nat} {r_link : Nat} {r_end : Nat} {r_gone : Nat} {r_trip : Nat} {r_delay : Nat} {r_way : Nat} (H : Heap) (locs : List Loc) (ls : Array Slot) (hP : va_P (dC, dI) vwCl [(a0, .inr (8, [.ref a1, .ref aT])), (a1, .inr (5, [.ref a2, .ref b1, .ref b2, .ref b3, .ref b4, .ref b5, .int 0, .int 1, .int 0, .int 0, .int 0, .int 0])), (a2, .inr (2, [.ref b6, .int 0, .ref b7, .int 0])), (m0, .inr (10, [.ref w0, .int 0])), (w0, .inr (9, [.int 0, .int 1, .int 0, .ref r_phases, .ref r_phase, .ref r_phaseTicks, .ref r_set, .ref r_least, .ref r_greatest, .int 0, .ref r_from, .ref r_to, .ref r_time, .ref r_room, .ref r_first, .ref r_rate, .ref r_cost, .ref r_isShut, .ref r_slowed, .ref r_row, .ref r_size, .ref r_came, .ref r_left, .ref r_mostQueue, .ref r_sumQueue, .ref r_turned, .int 0, .ref r_flowFrom, .ref r_flowTo, .ref r_kind, .ref r_start, .ref r_period, .ref r_count, .int 0, .ref r_flow, .ref r_began, .ref r_state, .ref r_link, .ref r_end, .ref r_gone, .ref r_trip, .ref r_delay, .ref r_way])), (o0, .inl (cy 1, 1, .inr (.inl ((fun _ => 0)))))] H) (hD : va_D A [(a0, .inr (8, [.ref a1, .ref aT])), (a1, .inr (5, [.ref a2, .ref b1, .ref b2, .ref b3, .ref b4, .ref b5, .int 0, .int 1, .int 0, .int 0, .int 0, .int 0])), (a2, .inr (2, [.ref b6, .int 0, .ref b7, .int 0])), (m0, .inr (10, [.ref w0, .int 0])), (w0, .inr (9, [.int 0, .int 1, .int 0, .ref r_phases, .ref r_phase, .ref r_phaseTicks, .ref r_set, .ref r_least, .ref r_greatest, .int 0, .ref r_from, .ref r_to, .ref r_time, .ref r_room, .ref r_first, .ref r_rate, .ref r_cost, .ref r_isShut, .ref r_slowed, .ref r_row, .ref r_size, .ref r_came, .ref r_left, .ref r_mostQueue, .ref r_sumQueue, .ref r_turned, .int 0, .ref r_flowFrom, .ref r_flowTo, .ref r_kind, .ref r_start, .ref r_period, .ref r_count, .int 0, .ref r_flow, .ref r_began, .ref r_state, .ref r_link, .ref r_end, .ref r_gone, .ref r_trip, .ref r_delay, .ref r_way])), (o0, .inl (cy 1, 1, .inr (.inl ((fun _ => 0)))))]) (hS : va_S A s.heap H locs) (hl : lv_has ls 9 [(0, .ref b), (1, .ref a0), (2, .ref m0), (3, .ref o0), (4, .int 0)]) : W p l e room_1 s m #[Value.ref b] below meth c H locs 1535 31585 (lw_Z below #[Value.ref b] s0) (F0 m 2109 ls []) := by
  have C2 := C1
  obtain ⟨hx, hb, hr, hml, hown, hts, hbl, hlocks, hK, hE, hZ, hA, hbA, hA2⟩ := C2
  refine lv_aload_n hx hb dL_law_2109 rfl (lv_at hl 1 rfl) ?_
  refine lv_aload_n hx hb dL_law_2110 rfl (lv_at hl 0 rfl) ?_
  refine lv_iload hx hb dL_law_2111 (lv_at hl 4 rfl) ?_
  refine lv_iconst (v := 1) hx hb dL_law_2113 (by decide) ?_
  refine lv_iadd hx hb dL_law_2114 ?_
  refine va_sld hx hb hX hbl hbA hS (by unfold vp_in; decide) dL_law_2115 ?_
  refine lv_aload_n hx hb dL_law_2116 rfl (lv_at hl 0 rfl) ?_
  refine lv_iload hx hb dL_law_2117 (lv_at hl 4 rfl) ?_
  refine lv_iconst (v := 2) hx hb dL_law_2119 (by decide) ?_
  refine lv_iadd hx hb dL_law_2120 ?_
  refine va_sld hx hb hX hbl hbA hS (by unfold vp_in; decide) dL_law_2121 ?_
  refine lv_aload_n hx hb dL_law_2122 rfl (lv_at hl 3 rfl) ?_
  have hFc := va_free (wc := [(a0, .inr (8, [.ref a1, .ref aT])), (a1, .inr (5, [.ref a2, .ref b1, .ref b2, .ref b3, .ref b4, .ref b5, .int 0, .int 1, .int 0, .int 0, .int 0, .int 0])), (a2, .inr (2, [.ref b6, .int 0, .ref b7, .int 0])), (o0, .inl (cy 1, 1, .inr (.inl ((fun _ => 0)))))]) hD hS hA [0, 1, 2, 5] rfl
  refine vx_calli (vx_runSX (As := [.ref a0, .int (xs (0 + 1 : Int32).toNatClampNeg), .int (xs (0 + 2 : Int32).toNatClampNeg), .ref o0]) (rest := []) ⟨hx, hb, hml, hown, hts⟩ (tm_L_turned l hst dC dI cy a0 a1 a2 aT b1 b2 b3 b4 b5 b6 b7 o0 (xs (0 + 1 : Int32).toNatClampNeg) (xs (0 + 2 : Int32).toNatClampNeg) H.size) (tp_cwSW 4 hts tw_1060 tw_1061 tw_37 tw_1062 rfl rfl (by decide +kernel) ⟨Nat.le_of_ble_eq_true rfl, Nat.le_of_ble_eq_true rfl⟩) ⟨tp_blind, fun U hU hW => ⟨rfl, tp_pay hK hP hD hE hZ hS [0, 1, 2, 5] (by decide) rfl hFc U hU hW⟩⟩ rfl rfl hl.1 rfl (lv_room (Nat.le_of_ble_eq_true rfl)) dL_law_2123 ⟨(Nat.le_of_ble_eq_true rfl), (Nat.le_of_ble_eq_true rfl)⟩) hS (fun q _ h => hFc q h) hFc (fun q _ h => hFc q h) (fun E9 ce q9 u t H1 locs ht hvm hw hB hz1 hk1 hS hce hcv hcl => ?_) (fun r_1 u t H1 locs ht hvm hw hB hz1 hk1 hS => ?_)
  · obtain ⟨hE9, hB⟩ := hB
    exact hE9.elim
  · obtain rfl := hw
    obtain ⟨f_2, hP1, hD1⟩ := hB
    subst f_2
    rw [ht] at hP1
    obtain ⟨hP, hD⟩ := va_join (wr := [(m0, .inr (10, [.ref w0, .int 0])), (w0, .inr (9, [.int 0, .int 1, .int 0, .ref r_phases, .ref r_phase, .ref r_phaseTicks, .ref r_set, .ref r_least, .ref r_greatest, .int 0, .ref r_from, .ref r_to, .ref r_time, .ref r_room, .ref r_first, .ref r_rate, .ref r_cost, .ref r_isShut, .ref r_slowed, .ref r_row, .ref r_size, .ref r_came, .ref r_left, .ref r_mostQueue, .ref r_sumQueue, .ref r_turned, .int 0, .ref r_flowFrom, .ref r_flowTo, .ref r_kind, .ref r_start, .ref r_period, .ref r_count, .int 0, .ref r_flow, .ref r_began, .ref r_state, .ref r_link, .ref r_end, .ref r_gone, .ref r_trip, .ref r_delay, .ref r_way]))]) (w1 := [(o0, .inl (cy 1, 1, .inr (.inl ((fun _ => 0)))))]) hP hD [0, 1, 2, 5] [3, 4] rfl rfl (by decide) (by decide) hk1 hFc hP1 hD1
    generalize H1 = H at hP hS ⊢
    have hP : va_P (dC, dI) vwCl [(m0, .inr (10, [.ref w0, .int 0])), (w0, .inr (9, [.int 0, .int 1, .int 0, .ref r_phases, .ref r_phase, .ref r_phaseTicks, .ref r_set, .ref r_least, .ref r_greatest, .int 0, .ref r_from, .ref r_to, .ref r_time, .ref r_room, .ref r_first, .ref r_rate, .ref r_cost, .ref r_isShut, .ref r_slowed, .ref r_row, .ref r_size, .ref r_came, .ref r_left, .ref r_mostQueue, .ref r_sumQueue, .ref r_turned, .int 0, .ref r_flowFrom, .ref r_flowTo, .ref r_kind, .ref r_start, .ref r_period, .ref r_count, .int 0, .ref r_flow, .ref r_began, .ref r_state, .ref r_link, .ref r_end, .ref r_gone, .ref r_trip, .ref r_delay, .ref r_way])), (o0, .inl (cy 1, 1, .inr (.inl ((fun _ => 0)))))] _ := hP
    have hD : va_D A [(m0, .inr (10, [.ref w0, .int 0])), (w0, .inr (9, [.int 0, .int 1, .int 0, .ref r_phases, .ref r_phase, .ref r_phaseTicks, .ref r_set, .ref r_least, .ref r_greatest, .int 0, .ref r_from, .ref r_to, .ref r_time, .ref r_room, .ref r_first, .ref r_rate, .ref r_cost, .ref r_isShut, .ref r_slowed, .ref r_row, .ref r_size, .ref r_came, .ref r_left, .ref r_mostQueue, .ref r_sumQueue, .ref r_turned, .int 0, .ref r_flowFrom, .ref r_flowTo, .ref r_kind, .ref r_start, .ref r_period, .ref r_count, .int 0, .ref r_flow, .ref r_began, .ref r_state, .ref r_link, .ref r_end, .ref r_gone, .ref r_trip, .ref r_delay, .ref r_way])), (o0, .inl (cy 1, 1, .inr (.inl ((fun _ => 0)))))] := hD
    refine lv_istore (lv' := [(5, .int 1), (0, .ref b), (1, .ref a0), (2, .ref m0), (3, .ref o0), (4, .int 0)]) hx hb dL_law_2126 hl (by decide) rfl (fun ls hl => ?_)
    refine lv_aload_n hx hb dL_law_2128 rfl (lv_at hl 3 rfl) ?_
    refine lv_aload_n hx hb dL_law_2129 rfl (lv_at hl 1 rfl) ?_
    refine lv_iload hx hb dL_law_2130 (lv_at hl 5 rfl) ?_
    refine lv_iconst (v := 1) hx hb dL_law_2132 (by decide) ?_
    refine lv_iadd hx hb dL_law_2133 ?_
    refine va_sld hx hb hX hbl hbA hS (by unfold vp_in; decide) dL_law_2134 ?_
    refine lv_aload_n hx hb dL_law_2135 rfl (lv_at hl 1 rfl) ?_
    refine lv_iload hx hb dL_law_2136 (lv_at hl 5 rfl) ?_
    refine lv_iconst (v := 2) hx hb dL_law_2138 (by decide) ?_
    refine lv_iadd hx hb dL_law_2139 ?_
    refine va_sld hx hb hX hbl hbA hS (by unfold vp_in; decide) dL_law_2140 ?_
    have hFc := va_free (wc := [(m0, .inr (10, [.ref w0, .int 0])), (w0, .inr (9, [.int 0, .int 1, .int 0, .ref r_phases, .ref r_phase, .ref r_phaseTicks, .ref r_set, .ref r_least, .ref r_greatest, .int 0, .ref r_from, .ref r_to, .ref r_time, .ref r_room, .ref r_first, .ref r_rate, .ref r_cost, .ref r_isShut, .ref r_slowed, .ref r_row, .ref r_size, .ref r_came, .ref r_left, .ref r_mostQueue, .ref r_sumQueue, .ref r_turned, .int 0, .ref r_flowFrom, .ref r_flowTo, .ref r_kind, .ref r_start, .ref r_period, .ref r_count, .int 0, .ref r_flow, .ref r_began, .ref r_state, .ref r_link, .ref r_end, .ref r_gone, .ref r_trip, .ref r_delay, .ref r_way]))]) hD hS hA [0, 1] rfl
    refine va_calli (va_runV (As := [.int (xs (0 + 1 : Int32).toNatClampNeg), .int (xs (0 + 2 : Int32).toNatClampNeg)]) (rest := []) ⟨hx, hb, hml, hown, hts⟩ (tm_m_turned l hst dC dI cy m0 w0 0 r_phases r_phase r_phaseTicks r_set r_least r_greatest r_from r_to r_time r_room r_first r_rate r_cost r_isShut r_slowed r_row r_size r_came r_left r_mostQueue r_sumQueue r_turned r_flowFrom r_flowTo r_kind r_start r_period r_count r_flow r_began r_state r_link r_end r_gone r_trip r_delay r_way (xs (0 + 1 : Int32).toNatClampNeg) (xs (0 + 2 : Int32).toNatClampNeg) H.size) (tp_cwV 2 hts tw_1561 tw_1562 tw_1563 tw_48 tw_1564 rfl rfl (by decide +kernel) ⟨Nat.le_of_ble_eq_true rfl, Nat.le_of_ble_eq_true rfl⟩) ⟨tp_blind, va_recv hK hP (ci := 10) (q0 := 0) rfl rfl, fun U hU hW => ⟨rfl, tp_pay hK hP hD hE hZ hS [0, 1] (by decide) rfl hFc U hU hW⟩⟩ rfl rfl hl.1 rfl (lv_room (Nat.le_of_ble_eq_true rfl)) dL_law_2141 ⟨(Nat.le_of_ble_eq_true rfl), (Nat.le_of_ble_eq_true rfl)⟩) hS (fun q _ h => hFc q h) hFc (fun r_3 u t H1 locs ht hvm hw hB hz1 hk1 hS => ?_)
    obtain rfl := hw
    obtain ⟨f_4, hP1, hD1⟩ := hB
    subst f_4
    rw [ht] at hP1
    obtain ⟨hP, hD⟩ := va_join (wr := [(o0, .inl (cy 1, 1, .inr (.inl ((fun _ => 0)))))]) (w1 := [(m0, .inr (10, [.ref w0, .int 1]))]) hP hD [0, 1] [2] rfl rfl (by decide) (by decide) hk1 hFc hP1 hD1
    generalize H1 = H at hP hS ⊢
    have hP : va_P (dC, dI) vwCl [(o0, .inl (cy 1, 1, .inr (.inl ((fun _ => 0))))), (m0, .inr (10, [.ref w0, .int 1]))] _ := hP
    have hD : va_D A [(o0, .inl (cy 1, 1, .inr (.inl ((fun _ => 0))))), (m0, .inr (10, [.ref w0, .int 1]))] := hD
    refine lv_istore (lv' := [(6, .int 0), (5, .int 1), (0, .ref b), (1, .ref a0), (2, .ref m0), (3, .ref o0), (4, .int 0)]) hx hb dL_law_2144 hl (by decide) rfl (fun ls hl => ?_)
    refine lv_aload_n hx hb dL_law_2146 rfl (lv_at hl 4 rfl) ?_
    have hFc := va_free (wc := [(m0, .inr (10, [.ref w0, .int 1]))]) hD hS hA [1] rfl
    refine va_calli (va_runV (As := []) (rest := []) ⟨hx, hb, hml, hown, hts⟩ (tm_m_thrown l hst dC dI cy m0 w0 1 H.size) (tp_cwV 0 hts tw_1317 tw_1318 tw_1319 tw_48 tw_1320 rfl rfl (by decide +kernel) ⟨Nat.le_of_ble_eq_true rfl, Nat.le_of_ble_eq_true rfl⟩) ⟨tp_blind, va_recv hK hP (ci := 10) (q0 := 1) rfl rfl, fun U hU hW => ⟨rfl, tp_pay hK hP hD hE hZ hS [1] (by decide) rfl hFc U hU hW⟩⟩ rfl rfl hl.1 rfl (lv_room (Nat.le_of_ble_eq_true rfl)) dL_law_2147 ⟨(Nat.le_of_ble_eq_true rfl), (Nat.le_of_ble_eq_true rfl)⟩) hS (fun q _ h => hFc q h) hFc (fun r_5 u t H1 locs ht hvm hw hB hz1 hk1 hS => ?_)
    obtain rfl := hw
    obtain ⟨f_6, hP1, hD1⟩ := hB
    subst f_6
    rw [ht] at hP1
    obtain ⟨hP, hD⟩ := va_join (wr := [(o0, .inl (cy 1, 1, .inr (.inl ((fun _ => 0)))))]) (w1 := [(m0, .inr (10, [.ref w0, .int 1]))]) hP hD [1] [0] rfl rfl (by decide) (by decide) hk1 hFc hP1 hD1
    generalize H1 = H at hP hS ⊢
    have hP : va_P (dC, dI) vwCl [(o0, .inl (cy 1, 1, .inr (.inl ((fun _ => 0))))), (m0, .inr (10, [.ref w0, .int 1]))] _ := hP
    have hD : va_D A [(o0, .inl (cy 1, 1, .inr (.inl ((fun _ => 0))))), (m0, .inr (10, [.ref w0, .int 1]))] := hD
    refine lv_iload hx hb dL_law_2150 (lv_at hl 1 rfl) ?_
    refine lv_icmp_eq (tgt := 2157) hx hb dL_law_2152 (by decide) (fun _ => ?_) (fun c_7 => absurd rfl c_7)
    refine lv_iload hx hb dL_law_2157 (lv_at hl 1 rfl) ?_
    refine lv_if_ne (tgt := 2174) hx hb dL_law_2159 (by decide) (fun _ => ?_) (fun c_8 => absurd c_8 (by decide))
    refine lv_goto (tgt := 2504) hx hb dL_law_2174 (by decide) ?_
    exact tc_end hd0 hs C1 hX (Nat.le_of_ble_eq_true rfl) (Nat.le_of_ble_eq_true rfl) H _ ls hS (lv_sub hl [2, 6] rfl)

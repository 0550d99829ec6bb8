theorem tw_1042 : Cond.codeWith yL_waiting cL_waiting 4 (some .int) [(0, 9, 12, 19)] ∈ tp_all := tp_mem 1042 (by decide +kernel) rfl
theorem tw_1040 : Cond.methodLink RL 229 yL_waiting ∈ tp_all := tp_mem 1040 (by decide +kernel) rfl
theorem tw_1041 : Cond.static yL_waiting ∈ tp_all := tp_mem 1041 (by decide +kernel) rfl
theorem tw_1538 : Cond.code yX10_waiting cX10_waiting 2 (some .int) ∈ tp_all := tp_mem 1538 (by decide +kernel) rfl
theorem tw_1535 : Cond.methodLink RL 231 yX10_waiting ∈ tp_all := tp_mem 1535 (by decide +kernel) rfl
theorem tw_1536 : Cond.instanceMethod yX10_waiting ∈ tp_all := tp_mem 1536 (by decide +kernel) rfl
theorem tw_1537 : Cond.selects RX10 yX10_waiting yX10_waiting ∈ tp_all := tp_mem 1537 (by decide +kernel) rfl
theorem dL_law_1805 : decode cL_law 1805 = .ok (.aload_n 1, 1) := by decide +kernel
theorem dL_law_1806 : decode cL_law 1806 = .ok (.aload_n 0, 1) := by decide +kernel
theorem dL_law_1807 : decode cL_law 1807 = .ok (.iload 4, 2) := by decide +kernel
theorem dL_law_1809 : decode cL_law 1809 = .ok (.iconst 1, 1) := by decide +kernel
theorem dL_law_1810 : decode cL_law 1810 = .ok (.iadd, 1) := by decide +kernel
theorem dL_law_1811 : decode cL_law 1811 = .ok (.iaload, 1) := by decide +kernel
theorem dL_law_1812 : decode cL_law 1812 = .ok (.aload_n 3, 1) := by decide +kernel
theorem dL_law_1813 : decode cL_law 1813 = .ok (.invokestatic 229, 3) := by decide +kernel
theorem dL_law_1816 : decode cL_law 1816 = .ok (.istore 5, 2) := by decide +kernel
theorem dL_law_1818 : decode cL_law 1818 = .ok (.aload_n 2, 1) := by decide +kernel
theorem dL_law_1819 : decode cL_law 1819 = .ok (.aload_n 0, 1) := by decide +kernel
theorem dL_law_1820 : decode cL_law 1820 = .ok (.iload 4, 2) := by decide +kernel
theorem dL_law_1822 : decode cL_law 1822 = .ok (.iconst 1, 1) := by decide +kernel
theorem dL_law_1823 : decode cL_law 1823 = .ok (.iadd, 1) := by decide +kernel
theorem dL_law_1824 : decode cL_law 1824 = .ok (.iaload, 1) := by decide +kernel
theorem dL_law_1825 : decode cL_law 1825 = .ok (.invokevirtual 231, 3) := by decide +kernel
theorem dL_law_1828 : decode cL_law 1828 = .ok (.istore 6, 2) := by decide +kernel
theorem dL_law_1830 : decode cL_law 1830 = .ok (.aload_n 2, 1) := by decide +kernel
theorem dL_law_1831 : decode cL_law 1831 = .ok (.invokevirtual 133, 3) := by decide +kernel
theorem dL_law_1834 : decode cL_law 1834 = .ok (.iload 5, 2) := by decide +kernel
theorem dL_law_1836 : decode cL_law 1836 = .ok (.if_icmp .eq 5, 3) := by decide +kernel
theorem dL_law_1841 : decode cL_law 1841 = .ok (.iload 5, 2) := by decide +kernel
theorem dL_law_1843 : decode cL_law 1843 = .ok (.ifCond .ne 15, 3) := by decide +kernel
theorem dL_law_1858 : decode cL_law 1858 = .ok (.goto 646, 3) := by decide +kernel
set_option maxRecDepth 100000 in
set_option maxHeartbeats 4000000 in
/-- the case 28 -/
theorem tc_28 {p : Program} {l : Launch} {e : Env} {s0 s : State} {m : MethodId} {below : List Frame} {meth : Method} {c : Code} {A : Nat → Prop} (hst : l.stackTraces = false) {dC : Nat → ClassId} {dI : Nat → Nat → Nat} {cy : Nat → ClassId} {b : Nat} {xs : Nat → Int32} {d0 : Drawn} (hd0 : s0.drawn.sameBut d0 lw_cs) (hs : s = s0.setDrawn d0) (C1 : tc_At p s m meth c b #[Value.ref b] A dC dI cy) (hX : va_X b 7 xs s s.heap) {a0 : Nat} {a1 : Nat} {a2 : Nat} {aT : Nat} {b1 : Nat} {b2 : Nat} {b3 : Nat} {b4 : Nat} {b5 : Nat} {b6 : Nat} {b7 : Nat} {m0 : Nat} {w0 : Nat} {o0 : Nat} {r_phases : Nat} {r_phase : Nat} {r_phaseTicks : Nat} {r_set : Nat} {r_least : Nat} {r_greatest : Nat} {r_from : Nat} {r_to : Nat} {r_time : Nat} {r_room : Nat} {r_first : Nat} {r_rate : Nat} {r_cost : Nat} {r_isShut : Nat} {r_slowed : Nat} {r_row : Nat} {r_size : Nat} {r_came : Nat} {r_left : Nat} {r_mostQueue : Nat} {r_sumQueue : Nat} {r_turned : Nat} {r_flowFrom : Nat} {r_flowTo : Nat} {r_kind : Nat} {r_start : Nat} {r_period : Nat} {r_count : Nat} {r_flow : Nat} {r_began : Nat} {r_state : Nat} {r_link : Nat} {r_end : Nat} {r_gone : Nat} {r_trip : Nat} {r_delay : Nat} {r_way : Nat} (H : Heap) (locs : List Loc) (ls : Array Slot) (hP : va_P (dC, dI) vwCl [(a0, .inr (8, [.ref a1, .ref aT])), (a1, .inr (5, [.ref a2, .ref b1, .ref b2, .ref b3, .ref b4, .ref b5, .int 0, .int 1, .int 0, .int 0, .int 0, .int 0])), (a2, .inr (2, [.ref b6, .int 0, .ref b7, .int 0])), (m0, .inr (10, [.ref w0, .int 0])), (w0, .inr (9, [.int 0, .int 1, .int 0, .ref r_phases, .ref r_phase, .ref r_phaseTicks, .ref r_set, .ref r_least, .ref r_greatest, .int 0, .ref r_from, .ref r_to, .ref r_time, .ref r_room, .ref r_first, .ref r_rate, .ref r_cost, .ref r_isShut, .ref r_slowed, .ref r_row, .ref r_size, .ref r_came, .ref r_left, .ref r_mostQueue, .ref r_sumQueue, .ref r_turned, .int 0, .ref r_flowFrom, .ref r_flowTo, .ref r_kind, .ref r_start, .ref r_period, .ref r_count, .int 0, .ref r_flow, .ref r_began, .ref r_state, .ref r_link, .ref r_end, .ref r_gone, .ref r_trip, .ref r_delay, .ref r_way])), (o0, .inl (cy 1, 1, .inr (.inl ((fun _ => 0)))))] H) (hD : va_D A [(a0, .inr (8, [.ref a1, .ref aT])), (a1, .inr (5, [.ref a2, .ref b1, .ref b2, .ref b3, .ref b4, .ref b5, .int 0, .int 1, .int 0, .int 0, .int 0, .int 0])), (a2, .inr (2, [.ref b6, .int 0, .ref b7, .int 0])), (m0, .inr (10, [.ref w0, .int 0])), (w0, .inr (9, [.int 0, .int 1, .int 0, .ref r_phases, .ref r_phase, .ref r_phaseTicks, .ref r_set, .ref r_least, .ref r_greatest, .int 0, .ref r_from, .ref r_to, .ref r_time, .ref r_room, .ref r_first, .ref r_rate, .ref r_cost, .ref r_isShut, .ref r_slowed, .ref r_row, .ref r_size, .ref r_came, .ref r_left, .ref r_mostQueue, .ref r_sumQueue, .ref r_turned, .int 0, .ref r_flowFrom, .ref r_flowTo, .ref r_kind, .ref r_start, .ref r_period, .ref r_count, .int 0, .ref r_flow, .ref r_began, .ref r_state, .ref r_link, .ref r_end, .ref r_gone, .ref r_trip, .ref r_delay, .ref r_way])), (o0, .inl (cy 1, 1, .inr (.inl ((fun _ => 0)))))]) (hS : va_S A s.heap H locs) (hl : lv_has ls 9 [(0, .ref b), (1, .ref a0), (2, .ref m0), (3, .ref o0), (4, .int 0)]) : W p l e room_1 s m #[Value.ref b] below meth c H locs 1535 31585 (lw_Z below #[Value.ref b] s0) (F0 m 1805 ls []) := by
  have C2 := C1
  obtain ⟨hx, hb, hr, hml, hown, hts, hbl, hlocks, hK, hE, hZ, hA, hbA, hA2⟩ := C2
  refine lv_aload_n hx hb dL_law_1805 rfl (lv_at hl 1 rfl) ?_
  refine lv_aload_n hx hb dL_law_1806 rfl (lv_at hl 0 rfl) ?_
  refine lv_iload hx hb dL_law_1807 (lv_at hl 4 rfl) ?_
  refine lv_iconst (v := 1) hx hb dL_law_1809 (by decide) ?_
  refine lv_iadd hx hb dL_law_1810 ?_
  refine va_sld hx hb hX hbl hbA hS (by unfold vp_in; decide) dL_law_1811 ?_
  refine lv_aload_n hx hb dL_law_1812 rfl (lv_at hl 3 rfl) ?_
  have hFc := va_free (wc := [(a0, .inr (8, [.ref a1, .ref aT])), (a1, .inr (5, [.ref a2, .ref b1, .ref b2, .ref b3, .ref b4, .ref b5, .int 0, .int 1, .int 0, .int 0, .int 0, .int 0])), (a2, .inr (2, [.ref b6, .int 0, .ref b7, .int 0])), (o0, .inl (cy 1, 1, .inr (.inl ((fun _ => 0)))))]) hD hS hA [0, 1, 2, 5] rfl
  refine vx_calli (vx_runSX (As := [.ref a0, .int (xs (0 + 1 : Int32).toNatClampNeg), .ref o0]) (rest := []) ⟨hx, hb, hml, hown, hts⟩ (tm_L_waiting l hst dC dI cy a0 a1 a2 aT b1 b2 b3 b4 b5 b6 b7 o0 (xs (0 + 1 : Int32).toNatClampNeg) H.size) (tp_cwSW 3 hts tw_1040 tw_1041 tw_37 tw_1042 rfl rfl (by decide +kernel) ⟨Nat.le_of_ble_eq_true rfl, Nat.le_of_ble_eq_true rfl⟩) ⟨tp_blind, fun U hU hW => ⟨rfl, tp_pay hK hP hD hE hZ hS [0, 1, 2, 5] (by decide) rfl hFc U hU hW⟩⟩ rfl rfl hl.1 rfl (lv_room (Nat.le_of_ble_eq_true rfl)) dL_law_1813 ⟨(Nat.le_of_ble_eq_true rfl), (Nat.le_of_ble_eq_true rfl)⟩) hS (fun q _ h => hFc q h) hFc (fun q _ h => hFc q h) (fun E9 ce q9 u t H1 locs ht hvm hw hB hz1 hk1 hS hce hcv hcl => ?_) (fun r_1 u t H1 locs ht hvm hw hB hz1 hk1 hS => ?_)
  · obtain ⟨hE9, hB⟩ := hB
    exact hE9.elim
  · obtain rfl := hw
    obtain ⟨f_2, hP1, hD1⟩ := hB
    subst f_2
    rw [ht] at hP1
    obtain ⟨hP, hD⟩ := va_join (wr := [(m0, .inr (10, [.ref w0, .int 0])), (w0, .inr (9, [.int 0, .int 1, .int 0, .ref r_phases, .ref r_phase, .ref r_phaseTicks, .ref r_set, .ref r_least, .ref r_greatest, .int 0, .ref r_from, .ref r_to, .ref r_time, .ref r_room, .ref r_first, .ref r_rate, .ref r_cost, .ref r_isShut, .ref r_slowed, .ref r_row, .ref r_size, .ref r_came, .ref r_left, .ref r_mostQueue, .ref r_sumQueue, .ref r_turned, .int 0, .ref r_flowFrom, .ref r_flowTo, .ref r_kind, .ref r_start, .ref r_period, .ref r_count, .int 0, .ref r_flow, .ref r_began, .ref r_state, .ref r_link, .ref r_end, .ref r_gone, .ref r_trip, .ref r_delay, .ref r_way]))]) (w1 := [(o0, .inl (cy 1, 1, .inr (.inl ((fun _ => 0)))))]) hP hD [0, 1, 2, 5] [3, 4] rfl rfl (by decide) (by decide) hk1 hFc hP1 hD1
    generalize H1 = H at hP hS ⊢
    have hP : va_P (dC, dI) vwCl [(m0, .inr (10, [.ref w0, .int 0])), (w0, .inr (9, [.int 0, .int 1, .int 0, .ref r_phases, .ref r_phase, .ref r_phaseTicks, .ref r_set, .ref r_least, .ref r_greatest, .int 0, .ref r_from, .ref r_to, .ref r_time, .ref r_room, .ref r_first, .ref r_rate, .ref r_cost, .ref r_isShut, .ref r_slowed, .ref r_row, .ref r_size, .ref r_came, .ref r_left, .ref r_mostQueue, .ref r_sumQueue, .ref r_turned, .int 0, .ref r_flowFrom, .ref r_flowTo, .ref r_kind, .ref r_start, .ref r_period, .ref r_count, .int 0, .ref r_flow, .ref r_began, .ref r_state, .ref r_link, .ref r_end, .ref r_gone, .ref r_trip, .ref r_delay, .ref r_way])), (o0, .inl (cy 1, 1, .inr (.inl ((fun _ => 0)))))] _ := hP
    have hD : va_D A [(m0, .inr (10, [.ref w0, .int 0])), (w0, .inr (9, [.int 0, .int 1, .int 0, .ref r_phases, .ref r_phase, .ref r_phaseTicks, .ref r_set, .ref r_least, .ref r_greatest, .int 0, .ref r_from, .ref r_to, .ref r_time, .ref r_room, .ref r_first, .ref r_rate, .ref r_cost, .ref r_isShut, .ref r_slowed, .ref r_row, .ref r_size, .ref r_came, .ref r_left, .ref r_mostQueue, .ref r_sumQueue, .ref r_turned, .int 0, .ref r_flowFrom, .ref r_flowTo, .ref r_kind, .ref r_start, .ref r_period, .ref r_count, .int 0, .ref r_flow, .ref r_began, .ref r_state, .ref r_link, .ref r_end, .ref r_gone, .ref r_trip, .ref r_delay, .ref r_way])), (o0, .inl (cy 1, 1, .inr (.inl ((fun _ => 0)))))] := hD
    refine lv_istore (lv' := [(5, .int 1), (0, .ref b), (1, .ref a0), (2, .ref m0), (3, .ref o0), (4, .int 0)]) hx hb dL_law_1816 hl (by decide) rfl (fun ls hl => ?_)
    refine lv_aload_n hx hb dL_law_1818 rfl (lv_at hl 3 rfl) ?_
    refine lv_aload_n hx hb dL_law_1819 rfl (lv_at hl 1 rfl) ?_
    refine lv_iload hx hb dL_law_1820 (lv_at hl 5 rfl) ?_
    refine lv_iconst (v := 1) hx hb dL_law_1822 (by decide) ?_
    refine lv_iadd hx hb dL_law_1823 ?_
    refine va_sld hx hb hX hbl hbA hS (by unfold vp_in; decide) dL_law_1824 ?_
    have hFc := va_free (wc := [(m0, .inr (10, [.ref w0, .int 0])), (w0, .inr (9, [.int 0, .int 1, .int 0, .ref r_phases, .ref r_phase, .ref r_phaseTicks, .ref r_set, .ref r_least, .ref r_greatest, .int 0, .ref r_from, .ref r_to, .ref r_time, .ref r_room, .ref r_first, .ref r_rate, .ref r_cost, .ref r_isShut, .ref r_slowed, .ref r_row, .ref r_size, .ref r_came, .ref r_left, .ref r_mostQueue, .ref r_sumQueue, .ref r_turned, .int 0, .ref r_flowFrom, .ref r_flowTo, .ref r_kind, .ref r_start, .ref r_period, .ref r_count, .int 0, .ref r_flow, .ref r_began, .ref r_state, .ref r_link, .ref r_end, .ref r_gone, .ref r_trip, .ref r_delay, .ref r_way]))]) hD hS hA [0, 1] rfl
    refine va_calli (va_runV (As := [.int (xs (0 + 1 : Int32).toNatClampNeg)]) (rest := []) ⟨hx, hb, hml, hown, hts⟩ (tm_m_waiting l hst dC dI cy m0 w0 0 r_phases r_phase r_phaseTicks r_set r_least r_greatest r_from r_to r_time r_room r_first r_rate r_cost r_isShut r_slowed r_row r_size r_came r_left r_mostQueue r_sumQueue r_turned r_flowFrom r_flowTo r_kind r_start r_period r_count r_flow r_began r_state r_link r_end r_gone r_trip r_delay r_way (xs (0 + 1 : Int32).toNatClampNeg) H.size) (tp_cwV 1 hts tw_1535 tw_1536 tw_1537 tw_48 tw_1538 rfl rfl (by decide +kernel) ⟨Nat.le_of_ble_eq_true rfl, Nat.le_of_ble_eq_true rfl⟩) ⟨tp_blind, va_recv hK hP (ci := 10) (q0 := 0) rfl rfl, fun U hU hW => ⟨rfl, tp_pay hK hP hD hE hZ hS [0, 1] (by decide) rfl hFc U hU hW⟩⟩ rfl rfl hl.1 rfl (lv_room (Nat.le_of_ble_eq_true rfl)) dL_law_1825 ⟨(Nat.le_of_ble_eq_true rfl), (Nat.le_of_ble_eq_true rfl)⟩) hS (fun q _ h => hFc q h) hFc (fun r_3 u t H1 locs ht hvm hw hB hz1 hk1 hS => ?_)
    obtain rfl := hw
    obtain ⟨f_4, hP1, hD1⟩ := hB
    subst f_4
    rw [ht] at hP1
    obtain ⟨hP, hD⟩ := va_join (wr := [(o0, .inl (cy 1, 1, .inr (.inl ((fun _ => 0)))))]) (w1 := [(m0, .inr (10, [.ref w0, .int 1]))]) hP hD [0, 1] [2] rfl rfl (by decide) (by decide) hk1 hFc hP1 hD1
    generalize H1 = H at hP hS ⊢
    have hP : va_P (dC, dI) vwCl [(o0, .inl (cy 1, 1, .inr (.inl ((fun _ => 0))))), (m0, .inr (10, [.ref w0, .int 1]))] _ := hP
    have hD : va_D A [(o0, .inl (cy 1, 1, .inr (.inl ((fun _ => 0))))), (m0, .inr (10, [.ref w0, .int 1]))] := hD
    refine lv_istore (lv' := [(6, .int 0), (5, .int 1), (0, .ref b), (1, .ref a0), (2, .ref m0), (3, .ref o0), (4, .int 0)]) hx hb dL_law_1828 hl (by decide) rfl (fun ls hl => ?_)
    refine lv_aload_n hx hb dL_law_1830 rfl (lv_at hl 4 rfl) ?_
    have hFc := va_free (wc := [(m0, .inr (10, [.ref w0, .int 1]))]) hD hS hA [1] rfl
    refine va_calli (va_runV (As := []) (rest := []) ⟨hx, hb, hml, hown, hts⟩ (tm_m_thrown l hst dC dI cy m0 w0 1 H.size) (tp_cwV 0 hts tw_1317 tw_1318 tw_1319 tw_48 tw_1320 rfl rfl (by decide +kernel) ⟨Nat.le_of_ble_eq_true rfl, Nat.le_of_ble_eq_true rfl⟩) ⟨tp_blind, va_recv hK hP (ci := 10) (q0 := 1) rfl rfl, fun U hU hW => ⟨rfl, tp_pay hK hP hD hE hZ hS [1] (by decide) rfl hFc U hU hW⟩⟩ rfl rfl hl.1 rfl (lv_room (Nat.le_of_ble_eq_true rfl)) dL_law_1831 ⟨(Nat.le_of_ble_eq_true rfl), (Nat.le_of_ble_eq_true rfl)⟩) hS (fun q _ h => hFc q h) hFc (fun r_5 u t H1 locs ht hvm hw hB hz1 hk1 hS => ?_)
    obtain rfl := hw
    obtain ⟨f_6, hP1, hD1⟩ := hB
    subst f_6
    rw [ht] at hP1
    obtain ⟨hP, hD⟩ := va_join (wr := [(o0, .inl (cy 1, 1, .inr (.inl ((fun _ => 0)))))]) (w1 := [(m0, .inr (10, [.ref w0, .int 1]))]) hP hD [1] [0] rfl rfl (by decide) (by decide) hk1 hFc hP1 hD1
    generalize H1 = H at hP hS ⊢
    have hP : va_P (dC, dI) vwCl [(o0, .inl (cy 1, 1, .inr (.inl ((fun _ => 0))))), (m0, .inr (10, [.ref w0, .int 1]))] _ := hP
    have hD : va_D A [(o0, .inl (cy 1, 1, .inr (.inl ((fun _ => 0))))), (m0, .inr (10, [.ref w0, .int 1]))] := hD
    refine lv_iload hx hb dL_law_1834 (lv_at hl 1 rfl) ?_
    refine lv_icmp_eq (tgt := 1841) hx hb dL_law_1836 (by decide) (fun _ => ?_) (fun c_7 => absurd rfl c_7)
    refine lv_iload hx hb dL_law_1841 (lv_at hl 1 rfl) ?_
    refine lv_if_ne (tgt := 1858) hx hb dL_law_1843 (by decide) (fun _ => ?_) (fun c_8 => absurd c_8 (by decide))
    refine lv_goto (tgt := 2504) hx hb dL_law_1858 (by decide) ?_
    exact tc_end hd0 hs C1 hX (Nat.le_of_ble_eq_true rfl) (Nat.le_of_ble_eq_true rfl) H _ ls hS (lv_sub hl [2, 6] rfl)
theorem tw_1046 : Cond.codeWith yL_onLink cL_onLink 4 (some .int) [(0, 9, 12, 19)] ∈ tp_all := tp_mem 1046 (by decide +kernel) rfl
theorem tw_1044 : Cond.methodLink RL 232 yL_onLink ∈ tp_all := tp_mem 1044 (by decide +kernel) rfl
theorem tw_1045 : Cond.static yL_onLink ∈ tp_all := tp_mem 1045 (by decide +kernel) rfl
theorem tw_1542 : Cond.code yX10_onLink cX10_onLink 2 (some .int) ∈ tp_all := tp_mem 1542 (by decide +kernel) rfl
theorem tw_1539 : Cond.methodLink RL 234 yX10_onLink ∈ tp_all := tp_mem 1539 (by decide +kernel) rfl
theorem tw_1540 : Cond.instanceMethod yX10_onLink ∈ tp_all := tp_mem 1540 (by decide +kernel) rfl
theorem tw_1541 : Cond.selects RX10 yX10_onLink yX10_onLink ∈ tp_all := tp_mem 1541 (by decide +kernel) rfl
theorem dL_law_1861 : decode cL_law 1861 = .ok (.aload_n 1, 1) := by decide +kernel
theorem dL_law_1862 : decode cL_law 1862 = .ok (.aload_n 0, 1) := by decide +kernel
theorem dL_law_1863 : decode cL_law 1863 = .ok (.iload 4, 2) := by decide +kernel
theorem dL_law_1865 : decode cL_law 1865 = .ok (.iconst 1, 1) := by decide +kernel
theorem dL_law_1866 : decode cL_law 1866 = .ok (.iadd, 1) := by decide +kernel
theorem dL_law_1867 : decode cL_law 1867 = .ok (.iaload, 1) := by decide +kernel
theorem dL_law_1868 : decode cL_law 1868 = .ok (.aload_n 3, 1) := by decide +kernel
theorem dL_law_1869 : decode cL_law 1869 = .ok (.invokestatic 232, 3) := by decide +kernel
theorem dL_law_1872 : decode cL_law 1872 = .ok (.istore 5, 2) := by decide +kernel
theorem dL_law_1874 : decode cL_law 1874 = .ok (.aload_n 2, 1) := by decide +kernel
theorem dL_law_1875 : decode cL_law 1875 = .ok (.aload_n 0, 1) := by decide +kernel
theorem dL_law_1876 : decode cL_law 1876 = .ok (.iload 4, 2) := by decide +kernel
theorem dL_law_1878 : decode cL_law 1878 = .ok (.iconst 1, 1) := by decide +kernel
theorem dL_law_1879 : decode cL_law 1879 = .ok (.iadd, 1) := by decide +kernel
theorem dL_law_1880 : decode cL_law 1880 = .ok (.iaload, 1) := by decide +kernel
theorem dL_law_1881 : decode cL_law 1881 = .ok (.invokevirtual 234, 3) := by decide +kernel
theorem dL_law_1884 : decode cL_law 1884 = .ok (.istore 6, 2) := by decide +kernel
theorem dL_law_1886 : decode cL_law 1886 = .ok (.aload_n 2, 1) := by decide +kernel
theorem dL_law_1887 : decode cL_law 1887 = .ok (.invokevirtual 133, 3) := by decide +kernel
theorem dL_law_1890 : decode cL_law 1890 = .ok (.iload 5, 2) := by decide +kernel
theorem dL_law_1892 : decode cL_law 1892 = .ok (.if_icmp .eq 5, 3) := by decide +kernel
theorem dL_law_1897 : decode cL_law 1897 = .ok (.iload 5, 2) := by decide +kernel
theorem dL_law_1899 : decode cL_law 1899 = .ok (.ifCond .ne 15, 3) := by decide +kernel
theorem dL_law_1914 : decode cL_law 1914 = .ok (.goto 590, 3) := by decide +kernel
set_option maxRecDepth 100000 in
set_option maxHeartbeats 4000000 in
/-- the case 29 -/
theorem tc_29 {p : Program} {l : Launch} {e : Env} {s0 s : State} {m : MethodId} {below : List Frame} {meth : Method} {c : Code} {A : Nat → Prop} (hst : l.stackTraces = false) {dC : Nat → ClassId} {dI : Nat → Nat → Nat} {cy : Nat → ClassId} {b : Nat} {xs : Nat → Int32} {d0 : Drawn} (hd0 : s0.drawn.sameBut d0 lw_cs) (hs : s = s0.setDrawn d0) (C1 : tc_At p s m meth c b #[Value.ref b] A dC dI cy) (hX : va_X b 7 xs s s.heap) {a0 : Nat} {a1 : Nat} {a2 : Nat} {aT : Nat} {b1 : Nat} {b2 : Nat} {b3 : Nat} {b4 : Nat} {b5 : Nat} {b6 : Nat} {b7 : Nat} {m0 : Nat} {w0 : Nat} {o0 : Nat} {r_phases : Nat} {r_phase : Nat} {r_phaseTicks : Nat} {r_set : Nat} {r_least : Nat} {r_greatest : Nat} {r_from : Nat} {r_to : Nat} {r_time : Nat} {r_room : Nat} {r_first : Nat} {r_rate : Nat} {r_cost : Nat} {r_isShut : Nat} {r_slowed : Nat} {r_row : Nat} {r_size : Nat} {r_came : Nat} {r_left : Nat} {r_mostQueue : Nat} {r_sumQueue : Nat} {r_turned : Nat} {r_flowFrom : Nat} {r_flowTo : Nat} {r_kind : Nat} {r_start : Nat} {r_period : Nat} {r_count : Nat} {r_flow : Nat} {r_began : Nat} {r_state : Nat} {r_link : Nat} {r_end : Nat} {r_gone : Nat} {r_trip : Nat} {r_delay : Nat} {r_way : Nat} (H : Heap) (locs : List Loc) (ls : Array Slot) (hP : va_P (dC, dI) vwCl [(a0, .inr (8, [.ref a1, .ref aT])), (a1, .inr (5, [.ref a2, .ref b1, .ref b2, .ref b3, .ref b4, .ref b5, .int 0, .int 1, .int 0, .int 0, .int 0, .int 0])), (a2, .inr (2, [.ref b6, .int 0, .ref b7, .int 0])), (m0, .inr (10, [.ref w0, .int 0])), (w0, .inr (9, [.int 0, .int 1, .int 0, .ref r_phases, .ref r_phase, .ref r_phaseTicks, .ref r_set, .ref r_least, .ref r_greatest, .int 0, .ref r_from, .ref r_to, .ref r_time, .ref r_room, .ref r_first, .ref r_rate, .ref r_cost, .ref r_isShut, .ref r_slowed, .ref r_row, .ref r_size, .ref r_came, .ref r_left, .ref r_mostQueue, .ref r_sumQueue, .ref r_turned, .int 0, .ref r_flowFrom, .ref r_flowTo, .ref r_kind, .ref r_start, .ref r_period, .ref r_count, .int 0, .ref r_flow, .ref r_began, .ref r_state, .ref r_link, .ref r_end, .ref r_gone, .ref r_trip, .ref r_delay, .ref r_way])), (o0, .inl (cy 1, 1, .inr (.inl ((fun _ => 0)))))] H) (hD : va_D A [(a0, .inr (8, [.ref a1, .ref aT])), (a1, .inr (5, [.ref a2, .ref b1, .ref b2, .ref b3, .ref b4, .ref b5, .int 0, .int 1, .int 0, .int 0, .int 0, .int 0])), (a2, .inr (2, [.ref b6, .int 0, .ref b7, .int 0])), (m0, .inr (10, [.ref w0, .int 0])), (w0, .inr (9, [.int 0, .int 1, .int 0, .ref r_phases, .ref r_phase, .ref r_phaseTicks, .ref r_set, .ref r_least, .ref r_greatest, .int 0, .ref r_from, .ref r_to, .ref r_time, .ref r_room, .ref r_first, .ref r_rate, .ref r_cost, .ref r_isShut, .ref r_slowed, .ref r_row, .ref r_size, .ref r_came, .ref r_left, .ref r_mostQueue, .ref r_sumQueue, .ref r_turned, .int 0, .ref r_flowFrom, .ref r_flowTo, .ref r_kind, .ref r_start, .ref r_period, .ref r_count, .int 0, .ref r_flow, .ref r_began, .ref r_state, .ref r_link, .ref r_end, .ref r_gone, .ref r_trip, .ref r_delay, .ref r_way])), (o0, .inl (cy 1, 1, .inr (.inl ((fun _ => 0)))))]) (hS : va_S A s.heap H locs) (hl : lv_has ls 9 [(0, .ref b), (1, .ref a0), (2, .ref m0), (3, .ref o0), (4, .int 0)]) : W p l e room_1 s m #[Value.ref b] below meth c H locs 1535 31585 (lw_Z below #[Value.ref b] s0) (F0 m 1861 ls []) := by
  have C2 := C1
  obtain ⟨hx, hb, hr, hml, hown, hts, hbl, hlocks, hK, hE, hZ, hA, hbA, hA2⟩ := C2
  refine lv_aload_n hx hb dL_law_1861 rfl (lv_at hl 1 rfl) ?_
  refine lv_aload_n hx hb dL_law_1862 rfl (lv_at hl 0 rfl) ?_
  refine lv_iload hx hb dL_law_1863 (lv_at hl 4 rfl) ?_
  refine lv_iconst (v := 1) hx hb dL_law_1865 (by decide) ?_
  refine lv_iadd hx hb dL_law_1866 ?_
  refine va_sld hx hb hX hbl hbA hS (by unfold vp_in; decide) dL_law_1867 ?_
  refine lv_aload_n hx hb dL_law_1868 rfl (lv_at hl 3 rfl) ?_
  have hFc := va_free (wc := [(a0, .inr (8, [.ref a1, .ref aT])), (a1, .inr (5, [.ref a2, .ref b1, .ref b2, .ref b3, .ref b4, .ref b5, .int 0, .int 1, .int 0, .int 0, .int 0, .int 0])), (a2, .inr (2, [.ref b6, .int 0, .ref b7, .int 0])), (o0, .inl (cy 1, 1, .inr (.inl ((fun _ => 0)))))]) hD hS hA [0, 1, 2, 5] rfl
  refine vx_calli (vx_runSX (As := [.ref a0, .int (xs (0 + 1 : Int32).toNatClampNeg), .ref o0]) (rest := []) ⟨hx, hb, hml, hown, hts⟩ (tm_L_onLink l hst dC dI cy a0 a1 a2 aT b1 b2 b3 b4 b5 b6 b7 o0 (xs (0 + 1 : Int32).toNatClampNeg) H.size) (tp_cwSW 3 hts tw_1044 tw_1045 tw_37 tw_1046 rfl rfl (by decide +kernel) ⟨Nat.le_of_ble_eq_true rfl, Nat.le_of_ble_eq_true rfl⟩) ⟨tp_blind, fun U hU hW => ⟨rfl, tp_pay hK hP hD hE hZ hS [0, 1, 2, 5] (by decide) rfl hFc U hU hW⟩⟩ rfl rfl hl.1 rfl (lv_room (Nat.le_of_ble_eq_true rfl)) dL_law_1869 ⟨(Nat.le_of_ble_eq_true rfl), (Nat.le_of_ble_eq_true rfl)⟩) hS (fun q _ h => hFc q h) hFc (fun q _ h => hFc q h) (fun E9 ce q9 u t H1 locs ht hvm hw hB hz1 hk1 hS hce hcv hcl => ?_) (fun r_1 u t H1 locs ht hvm hw hB hz1 hk1 hS => ?_)
  · obtain ⟨hE9, hB⟩ := hB
    exact hE9.elim
  · obtain rfl := hw
    obtain ⟨f_2, hP1, hD1⟩ := hB
    subst f_2
    rw [ht] at hP1
    obtain ⟨hP, hD⟩ := va_join (wr := [(m0, .inr (10, [.ref w0, .int 0])), (w0, .inr (9, [.int 0, .int 1, .int 0, .ref r_phases, .ref r_phase, .ref r_phaseTicks, .ref r_set, .ref r_least, .ref r_greatest, .int 0, .ref r_from, .ref r_to, .ref r_time, .ref r_room, .ref r_first, .ref r_rate, .ref r_cost, .ref r_isShut, .ref r_slowed, .ref r_row, .ref r_size, .ref r_came, .ref r_left, .ref r_mostQueue, .ref r_sumQueue, .ref r_turned, .int 0, .ref r_flowFrom, .ref r_flowTo, .ref r_kind, .ref r_start, .ref r_period, .ref r_count, .int 0, .ref r_flow, .ref r_began, .ref r_state, .ref r_link, .ref r_end, .ref r_gone, .ref r_trip, .ref r_delay, .ref r_way]))]) (w1 := [(o0, .inl (cy 1, 1, .inr (.inl ((fun _ => 0)))))]) hP hD [0, 1, 2, 5] [3, 4] rfl rfl (by decide) (by decide) hk1 hFc hP1 hD1
    generalize H1 = H at hP hS ⊢
    have hP : va_P (dC, dI) vwCl [(m0, .inr (10, [.ref w0, .int 0])), (w0, .inr (9, [.int 0, .int 1, .int 0, .ref r_phases, .ref r_phase, .ref r_phaseTicks, .ref r_set, .ref r_least, .ref r_greatest, .int 0, .ref r_from, .ref r_to, .ref r_time, .ref r_room, .ref r_first, .ref r_rate, .ref r_cost, .ref r_isShut, .ref r_slowed, .ref r_row, .ref r_size, .ref r_came, .ref r_left, .ref r_mostQueue, .ref r_sumQueue, .ref r_turned, .int 0, .ref r_flowFrom, .ref r_flowTo, .ref r_kind, .ref r_start, .ref r_period, .ref r_count, .int 0, .ref r_flow, .ref r_began, .ref r_state, .ref r_link, .ref r_end, .ref r_gone, .ref r_trip, .ref r_delay, .ref r_way])), (o0, .inl (cy 1, 1, .inr (.inl ((fun _ => 0)))))] _ := hP
    have hD : va_D A [(m0, .inr (10, [.ref w0, .int 0])), (w0, .inr (9, [.int 0, .int 1, .int 0, .ref r_phases, .ref r_phase, .ref r_phaseTicks, .ref r_set, .ref r_least, .ref r_greatest, .int 0, .ref r_from, .ref r_to, .ref r_time, .ref r_room, .ref r_first, .ref r_rate, .ref r_cost, .ref r_isShut, .ref r_slowed, .ref r_row, .ref r_size, .ref r_came, .ref r_left, .ref r_mostQueue, .ref r_sumQueue, .ref r_turned, .int 0, .ref r_flowFrom, .ref r_flowTo, .ref r_kind, .ref r_start, .ref r_period, .ref r_count, .int 0, .ref r_flow, .ref r_began, .ref r_state, .ref r_link, .ref r_end, .ref r_gone, .ref r_trip, .ref r_delay, .ref r_way])), (o0, .inl (cy 1, 1, .inr (.inl ((fun _ => 0)))))] := hD
    refine lv_istore (lv' := [(5, .int 1), (0, .ref b), (1, .ref a0), (2, .ref m0), (3, .ref o0), (4, .int 0)]) hx hb dL_law_1872 hl (by decide) rfl (fun ls hl => ?_)
    refine lv_aload_n hx hb dL_law_1874 rfl (lv_at hl 3 rfl) ?_
    refine lv_aload_n hx hb dL_law_1875 rfl (lv_at hl 1 rfl) ?_
    refine lv_iload hx hb dL_law_1876 (lv_at hl 5 rfl) ?_
    refine lv_iconst (v := 1) hx hb dL_law_1878 (by decide) ?_
    refine lv_iadd hx hb dL_law_1879 ?_
    refine va_sld hx hb hX hbl hbA hS (by unfold vp_in; decide) dL_law_1880 ?_
    have hFc := va_free (wc := [(m0, .inr (10, [.ref w0, .int 0])), (w0, .inr (9, [.int 0, .int 1, .int 0, .ref r_phases, .ref r_phase, .ref r_phaseTicks, .ref r_set, .ref r_least, .ref r_greatest, .int 0, .ref r_from, .ref r_to, .ref r_time, .ref r_room, .ref r_first, .ref r_rate, .ref r_cost, .ref r_isShut, .ref r_slowed, .ref r_row, .ref r_size, .ref r_came, .ref r_left, .ref r_mostQueue, .ref r_sumQueue, .ref r_turned, .int 0, .ref r_flowFrom, .ref r_flowTo, .ref r_kind, .ref r_start, .ref r_period, .ref r_count, .int 0, .ref r_flow, .ref r_began, .ref r_state, .ref r_link, .ref r_end, .ref r_gone, .ref r_trip, .ref r_delay, .ref r_way]))]) hD hS hA [0, 1] rfl
    refine va_calli (va_runV (As := [.int (xs (0 + 1 : Int32).toNatClampNeg)]) (rest := []) ⟨hx, hb, hml, hown, hts⟩ (tm_m_onLink l hst dC dI cy m0 w0 0 r_phases r_phase r_phaseTicks r_set r_least r_greatest r_from r_to r_time r_room r_first r_rate r_cost r_isShut r_slowed r_row r_size r_came r_left r_mostQueue r_sumQueue r_turned r_flowFrom r_flowTo r_kind r_start r_period r_count r_flow r_began r_state r_link r_end r_gone r_trip r_delay r_way (xs (0 + 1 : Int32).toNatClampNeg) H.size) (tp_cwV 1 hts tw_1539 tw_1540 tw_1541 tw_48 tw_1542 rfl rfl (by decide +kernel) ⟨Nat.le_of_ble_eq_true rfl, Nat.le_of_ble_eq_true rfl⟩) ⟨tp_blind, va_recv hK hP (ci := 10) (q0 := 0) rfl rfl, fun U hU hW => ⟨rfl, tp_pay hK hP hD hE hZ hS [0, 1] (by decide) rfl hFc U hU hW⟩⟩ rfl rfl hl.1 rfl (lv_room (Nat.le_of_ble_eq_true rfl)) dL_law_1881 ⟨(Nat.le_of_ble_eq_true rfl), (Nat.le_of_ble_eq_true rfl)⟩) hS (fun q _ h => hFc q h) hFc (fun r_3 u t H1 locs ht hvm hw hB hz1 hk1 hS => ?_)
    obtain rfl := hw
    obtain ⟨f_4, hP1, hD1⟩ := hB
    subst f_4
    rw [ht] at hP1
    obtain ⟨hP, hD⟩ := va_join (wr := [(o0, .inl (cy 1, 1, .inr (.inl ((fun _ => 0)))))]) (w1 := [(m0, .inr (10, [.ref w0, .int 1]))]) hP hD [0, 1] [2] rfl rfl (by decide) (by decide) hk1 hFc hP1 hD1
    generalize H1 = H at hP hS ⊢
    have hP : va_P (dC, dI) vwCl [(o0, .inl (cy 1, 1, .inr (.inl ((fun _ => 0))))), (m0, .inr (10, [.ref w0, .int 1]))] _ := hP
    have hD : va_D A [(o0, .inl (cy 1, 1, .inr (.inl ((fun _ => 0))))), (m0, .inr (10, [.ref w0, .int 1]))] := hD
    refine lv_istore (lv' := [(6, .int 0), (5, .int 1), (0, .ref b), (1, .ref a0), (2, .ref m0), (3, .ref o0), (4, .int 0)]) hx hb dL_law_1884 hl (by decide) rfl (fun ls hl => ?_)
    refine lv_aload_n hx hb dL_law_1886 rfl (lv_at hl 4 rfl) ?_
    have hFc := va_free (wc := [(m0, .inr (10, [.ref w0, .int 1]))]) hD hS hA [1] rfl
    refine va_calli (va_runV (As := []) (rest := []) ⟨hx, hb, hml, hown, hts⟩ (tm_m_thrown l hst dC dI cy m0 w0 1 H.size) (tp_cwV 0 hts tw_1317 tw_1318 tw_1319 tw_48 tw_1320 rfl rfl (by decide +kernel) ⟨Nat.le_of_ble_eq_true rfl, Nat.le_of_ble_eq_true rfl⟩) ⟨tp_blind, va_recv hK hP (ci := 10) (q0 := 1) rfl rfl, fun U hU hW => ⟨rfl, tp_pay hK hP hD hE hZ hS [1] (by decide) rfl hFc U hU hW⟩⟩ rfl rfl hl.1 rfl (lv_room (Nat.le_of_ble_eq_true rfl)) dL_law_1887 ⟨(Nat.le_of_ble_eq_true rfl), (Nat.le_of_ble_eq_true rfl)⟩) hS (fun q _ h => hFc q h) hFc (fun r_5 u t H1 locs ht hvm hw hB hz1 hk1 hS => ?_)
    obtain rfl := hw
    obtain ⟨f_6, hP1, hD1⟩ := hB
    subst f_6
    rw [ht] at hP1
    obtain ⟨hP, hD⟩ := va_join (wr := [(o0, .inl (cy 1, 1, .inr (.inl ((fun _ => 0)))))]) (w1 := [(m0, .inr (10, [.ref w0, .int 1]))]) hP hD [1] [0] rfl rfl (by decide) (by decide) hk1 hFc hP1 hD1
    generalize H1 = H at hP hS ⊢
    have hP : va_P (dC, dI) vwCl [(o0, .inl (cy 1, 1, .inr (.inl ((fun _ => 0))))), (m0, .inr (10, [.ref w0, .int 1]))] _ := hP
    have hD : va_D A [(o0, .inl (cy 1, 1, .inr (.inl ((fun _ => 0))))), (m0, .inr (10, [.ref w0, .int 1]))] := hD
    refine lv_iload hx hb dL_law_1890 (lv_at hl 1 rfl) ?_
    refine lv_icmp_eq (tgt := 1897) hx hb dL_law_1892 (by decide) (fun _ => ?_) (fun c_7 => absurd rfl c_7)
    refine lv_iload hx hb dL_law_1897 (lv_at hl 1 rfl) ?_
    refine lv_if_ne (tgt := 1914) hx hb dL_law_1899 (by decide) (fun _ => ?_) (fun c_8 => absurd c_8 (by decide))
    refine lv_goto (tgt := 2504) hx hb dL_law_1914 (by decide) ?_
    exact tc_end hd0 hs C1 hX (Nat.le_of_ble_eq_true rfl) (Nat.le_of_ble_eq_true rfl) H _ ls hS (lv_sub hl [2, 6] rfl)
theorem tw_1050 : Cond.codeWith yL_vehicleAt cL_vehicleAt 5 (some .int) [(0, 10, 13, 19)] ∈ tp_all := tp_mem 1050 (by decide +kernel) rfl
theorem tw_1048 : Cond.methodLink RL 235 yL_vehicleAt ∈ tp_all := tp_mem 1048 (by decide +kernel) rfl
theorem tw_1049 : Cond.static yL_vehicleAt ∈ tp_all := tp_mem 1049 (by decide +kernel) rfl
theorem tw_1546 : Cond.code yX10_vehicleAt cX10_vehicleAt 3 (some .int) ∈ tp_all := tp_mem 1546 (by decide +kernel) rfl
theorem tw_1543 : Cond.methodLink RL 237 yX10_vehicleAt ∈ tp_all := tp_mem 1543 (by decide +kernel) rfl
theorem tw_1544 : Cond.instanceMethod yX10_vehicleAt ∈ tp_all := tp_mem 1544 (by decide +kernel) rfl
theorem tw_1545 : Cond.selects RX10 yX10_vehicleAt yX10_vehicleAt ∈ tp_all := tp_mem 1545 (by decide +kernel) rfl
theorem dL_law_1917 : decode cL_law 1917 = .ok (.aload_n 1, 1) := by decide +kernel
theorem dL_law_1918 : decode cL_law 1918 = .ok (.aload_n 0, 1) := by decide +kernel
theorem dL_law_1919 : decode cL_law 1919 = .ok (.iload 4, 2) := by decide +kernel
theorem dL_law_1921 : decode cL_law 1921 = .ok (.iconst 1, 1) := by decide +kernel
theorem dL_law_1922 : decode cL_law 1922 = .ok (.iadd, 1) := by decide +kernel
theorem dL_law_1923 : decode cL_law 1923 = .ok (.iaload, 1) := by decide +kernel
theorem dL_law_1924 : decode cL_law 1924 = .ok (.aload_n 0, 1) := by decide +kernel
theorem dL_law_1925 : decode cL_law 1925 = .ok (.iload 4, 2) := by decide +kernel
theorem dL_law_1927 : decode cL_law 1927 = .ok (.iconst 2, 1) := by decide +kernel
theorem dL_law_1928 : decode cL_law 1928 = .ok (.iadd, 1) := by decide +kernel
theorem dL_law_1929 : decode cL_law 1929 = .ok (.iaload, 1) := by decide +kernel
theorem dL_law_1930 : decode cL_law 1930 = .ok (.aload_n 3, 1) := by decide +kernel
theorem dL_law_1931 : decode cL_law 1931 = .ok (.invokestatic 235, 3) := by decide +kernel
theorem dL_law_1934 : decode cL_law 1934 = .ok (.istore 5, 2) := by decide +kernel
theorem dL_law_1936 : decode cL_law 1936 = .ok (.aload_n 2, 1) := by decide +kernel
theorem dL_law_1937 : decode cL_law 1937 = .ok (.aload_n 0, 1) := by decide +kernel
theorem dL_law_1938 : decode cL_law 1938 = .ok (.iload 4, 2) := by decide +kernel
theorem dL_law_1940 : decode cL_law 1940 = .ok (.iconst 1, 1) := by decide +kernel
theorem dL_law_1941 : decode cL_law 1941 = .ok (.iadd, 1) := by decide +kernel
theorem dL_law_1942 : decode cL_law 1942 = .ok (.iaload, 1) := by decide +kernel
theorem dL_law_1943 : decode cL_law 1943 = .ok (.aload_n 0, 1) := by decide +kernel
theorem dL_law_1944 : decode cL_law 1944 = .ok (.iload 4, 2) := by decide +kernel
theorem dL_law_1946 : decode cL_law 1946 = .ok (.iconst 2, 1) := by decide +kernel
theorem dL_law_1947 : decode cL_law 1947 = .ok (.iadd, 1) := by decide +kernel
theorem dL_law_1948 : decode cL_law 1948 = .ok (.iaload, 1) := by decide +kernel
theorem dL_law_1949 : decode cL_law 1949 = .ok (.invokevirtual 237, 3) := by decide +kernel
theorem dL_law_1952 : decode cL_law 1952 = .ok (.istore 6, 2) := by decide +kernel
theorem dL_law_1954 : decode cL_law 1954 = .ok (.aload_n 2, 1) := by decide +kernel
theorem dL_law_1955 : decode cL_law 1955 = .ok (.invokevirtual 133, 3) := by decide +kernel
theorem dL_law_1958 : decode cL_law 1958 = .ok (.iload 5, 2) := by decide +kernel
theorem dL_law_1960 : decode cL_law 1960 = .ok (.if_icmp .eq 5, 3) := by decide +kernel
theorem dL_law_1965 : decode cL_law 1965 = .ok (.iload 5, 2) := by decide +kernel
theorem dL_law_1967 : decode cL_law 1967 = .ok (.ifCond .ne 15, 3) := by decide +kernel
theorem dL_law_1982 : decode cL_law 1982 = .ok (.goto 522, 3) := by decide +kernel
set_option maxRecDepth 100000 in
set_option maxHeartbeats 4000000 in
/-- the case 30 -/
theorem tc_30 {p : Program} {l : Launch} {e : Env} {s0 s : State} {m : MethodId} {below : List Frame} {meth : Method} {c : Code} {A : Nat → Prop} (hst : l.stackTraces = false) {dC : Nat → ClassId} {dI : Nat → Nat → Nat} {cy : Nat → ClassId} {b : Nat} {xs : Nat → Int32} {d0 : Drawn} (hd0 : s0.drawn.sameBut d0 lw_cs) (hs : s = s0.setDrawn d0) (C1 : tc_At p s m meth c b #[Value.ref b] A dC dI cy) (hX : va_X b 7 xs s s.heap) {a0 : Nat} {a1 : Nat} {a2 : Nat} {aT : Nat} {b1 : Nat} {b2 : Nat} {b3 : Nat} {b4 : Nat} {b5 : Nat} {b6 : Nat} {b7 : Nat} {m0 : Nat} {w0 : Nat} {o0 : Nat} {r_phases : Nat} {r_phase : Nat} {r_phaseTicks : Nat} {r_set : Nat} {r_least : Nat} {r_greatest : Nat} {r_from : Nat} {r_to : Nat} {r_time : Nat} {r_room : Nat} {r_first : Nat} {r_rate : Nat} {r_cost : Nat} {r_isShut : Nat} {r_slowed : Nat} {r_row : Nat} {r_size : Nat} {r_came : Nat} {r_left : Nat} {r_mostQueue : Nat} {r_sumQueue : Nat} {r_turned : Nat} {r_flowFrom : Nat} {r_flowTo : Nat} {r_kind : Nat} {r_start : Nat} {r_period : Nat} {r_count : Nat} {r_flow : Nat} {r_began : Nat} {r_state : Nat} {r_link : Nat} {r_end : Nat} {r_gone : Nat} {r_trip : Nat} {r_delay : Nat} {r_way : Nat} (H : Heap) (locs : List Loc) (ls : Array Slot) (hP : va_P (dC, dI) vwCl [(a0, .inr (8, [.ref a1, .ref aT])), (a1, .inr (5, [.ref a2, .ref b1, .ref b2, .ref b3, .ref b4, .ref b5, .int 0, .int 1, .int 0, .int 0, .int 0, .int 0])), (a2, .inr (2, [.ref b6, .int 0, .ref b7, .int 0])), (m0, .inr (10, [.ref w0, .int 0])), (w0, .inr (9, [.int 0, .int 1, .int 0, .ref r_phases, .ref r_phase, .ref r_phaseTicks, .ref r_set, .ref r_least, .ref r_greatest, .int 0, .ref r_from, .ref r_to, .ref r_time, .ref r_room, .ref r_first, .ref r_rate, .ref r_cost, .ref r_isShut, .ref r_slowed, .ref r_row, .ref r_size, .ref r_came, .ref r_left, .ref r_mostQueue, .ref r_sumQueue, .ref r_turned, .int 0, .ref r_flowFrom, .ref r_flowTo, .ref r_kind, .ref r_start, .ref r_period, .ref r_count, .int 0, .ref r_flow, .ref r_began, .ref r_state, .ref r_link, .ref r_end, .ref r_gone, .ref r_trip, .ref r_delay, .ref r_way])), (o0, .inl (cy 1, 1, .inr (.inl ((fun _ => 0)))))] H) (hD : va_D A [(a0, .inr (8, [.ref a1, .ref aT])), (a1, .inr (5, [.ref a2, .ref b1, .ref b2, .ref b3, .ref b4, .ref b5, .int 0, .int 1, .int 0, .int 0, .int 0, .int 0])), (a2, .inr (2, [.ref b6, .int 0, .ref b7, .int 0])), (m0, .inr (10, [.ref w0, .int 0])), (w0, .inr (9, [.int 0, .int 1, .int 0, .ref r_phases, .ref r_phase, .ref r_phaseTicks, .ref r_set, .ref r_least, .ref r_greatest, .int 0, .ref r_from, .ref r_to, .ref r_time, .ref r_room, .ref r_first, .ref r_rate, .ref r_cost, .ref r_isShut, .ref r_slowed, .ref r_row, .ref r_size, .ref r_came, .ref r_left, .ref r_mostQueue, .ref r_sumQueue, .ref r_turned, .int 0, .ref r_flowFrom, .ref r_flowTo, .ref r_kind, .ref r_start, .ref r_period, .ref r_count, .int 0, .ref r_flow, .ref r_began, .ref r_state, .ref r_link, .ref r_end, .ref r_gone, .ref r_trip, .ref r_delay, .ref r_way])), (o0, .inl (cy 1, 1, .inr (.inl ((fun _ => 0)))))]) (hS : va_S A s.heap H locs) (hl : lv_has ls 9 [(0, .ref b), (1, .ref a0), (2, .ref m0), (3, .ref o0), (4, .int 0)]) : W p l e room_1 s m #[Value.ref b] below meth c H locs 1535 31585 (lw_Z below #[Value.ref b] s0) (F0 m 1917 ls []) := by
  have C2 := C1
  obtain ⟨hx, hb, hr, hml, hown, hts, hbl, hlocks, hK, hE, hZ, hA, hbA, hA2⟩ := C2
  refine lv_aload_n hx hb dL_law_1917 rfl (lv_at hl 1 rfl) ?_
  refine lv_aload_n hx hb dL_law_1918 rfl (lv_at hl 0 rfl) ?_
  refine lv_iload hx hb dL_law_1919 (lv_at hl 4 rfl) ?_
  refine lv_iconst (v := 1) hx hb dL_law_1921 (by decide) ?_
  refine lv_iadd hx hb dL_law_1922 ?_
  refine va_sld hx hb hX hbl hbA hS (by unfold vp_in; decide) dL_law_1923 ?_
  refine lv_aload_n hx hb dL_law_1924 rfl (lv_at hl 0 rfl) ?_
  refine lv_iload hx hb dL_law_1925 (lv_at hl 4 rfl) ?_
  refine lv_iconst (v := 2) hx hb dL_law_1927 (by decide) ?_
  refine lv_iadd hx hb dL_law_1928 ?_
  refine va_sld hx hb hX hbl hbA hS (by unfold vp_in; decide) dL_law_1929 ?_
  refine lv_aload_n hx hb dL_law_1930 rfl (lv_at hl 3 rfl) ?_
  have hFc := va_free (wc := [(a0, .inr (8, [.ref a1, .ref aT])), (a1, .inr (5, [.ref a2, .ref b1, .ref b2, .ref b3, .ref b4, .ref b5, .int 0, .int 1, .int 0, .int 0, .int 0, .int 0])), (a2, .inr (2, [.ref b6, .int 0, .ref b7, .int 0])), (o0, .inl (cy 1, 1, .inr (.inl ((fun _ => 0)))))]) hD hS hA [0, 1, 2, 5] rfl
  refine vx_calli (vx_runSX (As := [.ref a0, .int (xs (0 + 1 : Int32).toNatClampNeg), .int (xs (0 + 2 : Int32).toNatClampNeg), .ref o0]) (rest := []) ⟨hx, hb, hml, hown, hts⟩ (tm_L_vehicleAt l hst dC dI cy a0 a1 a2 aT b1 b2 b3 b4 b5 b6 b7 o0 (xs (0 + 1 : Int32).toNatClampNeg) (xs (0 + 2 : Int32).toNatClampNeg) H.size) (tp_cwSW 4 hts tw_1048 tw_1049 tw_37 tw_1050 rfl rfl (by decide +kernel) ⟨Nat.le_of_ble_eq_true rfl, Nat.le_of_ble_eq_true rfl⟩) ⟨tp_blind, fun U hU hW => ⟨rfl, tp_pay hK hP hD hE hZ hS [0, 1, 2, 5] (by decide) rfl hFc U hU hW⟩⟩ rfl rfl hl.1 rfl (lv_room (Nat.le_of_ble_eq_true rfl)) dL_law_1931 ⟨(Nat.le_of_ble_eq_true rfl), (Nat.le_of_ble_eq_true rfl)⟩) hS (fun q _ h => hFc q h) hFc (fun q _ h => hFc q h) (fun E9 ce q9 u t H1 locs ht hvm hw hB hz1 hk1 hS hce hcv hcl => ?_) (fun r_1 u t H1 locs ht hvm hw hB hz1 hk1 hS => ?_)
  · obtain ⟨hE9, hB⟩ := hB
    exact hE9.elim
  · obtain rfl := hw
    obtain ⟨f_2, hP1, hD1⟩ := hB
    subst f_2
    rw [ht] at hP1
    obtain ⟨hP, hD⟩ := va_join (wr := [(m0, .inr (10, [.ref w0, .int 0])), (w0, .inr (9, [.int 0, .int 1, .int 0, .ref r_phases, .ref r_phase, .ref r_phaseTicks, .ref r_set, .ref r_least, .ref r_greatest, .int 0, .ref r_from, .ref r_to, .ref r_time, .ref r_room, .ref r_first, .ref r_rate, .ref r_cost, .ref r_isShut, .ref r_slowed, .ref r_row, .ref r_size, .ref r_came, .ref r_left, .ref r_mostQueue, .ref r_sumQueue, .ref r_turned, .int 0, .ref r_flowFrom, .ref r_flowTo, .ref r_kind, .ref r_start, .ref r_period, .ref r_count, .int 0, .ref r_flow, .ref r_began, .ref r_state, .ref r_link, .ref r_end, .ref r_gone, .ref r_trip, .ref r_delay, .ref r_way]))]) (w1 := [(o0, .inl (cy 1, 1, .inr (.inl ((fun _ => 0)))))]) hP hD [0, 1, 2, 5] [3, 4] rfl rfl (by decide) (by decide) hk1 hFc hP1 hD1
    generalize H1 = H at hP hS ⊢
    have hP : va_P (dC, dI) vwCl [(m0, .inr (10, [.ref w0, .int 0])), (w0, .inr (9, [.int 0, .int 1, .int 0, .ref r_phases, .ref r_phase, .ref r_phaseTicks, .ref r_set, .ref r_least, .ref r_greatest, .int 0, .ref r_from, .ref r_to, .ref r_time, .ref r_room, .ref r_first, .ref r_rate, .ref r_cost, .ref r_isShut, .ref r_slowed, .ref r_row, .ref r_size, .ref r_came, .ref r_left, .ref r_mostQueue, .ref r_sumQueue, .ref r_turned, .int 0, .ref r_flowFrom, .ref r_flowTo, .ref r_kind, .ref r_start, .ref r_period, .ref r_count, .int 0, .ref r_flow, .ref r_began, .ref r_state, .ref r_link, .ref r_end, .ref r_gone, .ref r_trip, .ref r_delay, .ref r_way])), (o0, .inl (cy 1, 1, .inr (.inl ((fun _ => 0)))))] _ := hP
    have hD : va_D A [(m0, .inr (10, [.ref w0, .int 0])), (w0, .inr (9, [.int 0, .int 1, .int 0, .ref r_phases, .ref r_phase, .ref r_phaseTicks, .ref r_set, .ref r_least, .ref r_greatest, .int 0, .ref r_from, .ref r_to, .ref r_time, .ref r_room, .ref r_first, .ref r_rate, .ref r_cost, .ref r_isShut, .ref r_slowed, .ref r_row, .ref r_size, .ref r_came, .ref r_left, .ref r_mostQueue, .ref r_sumQueue, .ref r_turned, .int 0, .ref r_flowFrom, .ref r_flowTo, .ref r_kind, .ref r_start, .ref r_period, .ref r_count, .int 0, .ref r_flow, .ref r_began, .ref r_state, .ref r_link, .ref r_end, .ref r_gone, .ref r_trip, .ref r_delay, .ref r_way])), (o0, .inl (cy 1, 1, .inr (.inl ((fun _ => 0)))))] := hD
    refine lv_istore (lv' := [(5, .int 1), (0, .ref b), (1, .ref a0), (2, .ref m0), (3, .ref o0), (4, .int 0)]) hx hb dL_law_1934 hl (by decide) rfl (fun ls hl => ?_)
    refine lv_aload_n hx hb dL_law_1936 rfl (lv_at hl 3 rfl) ?_
    refine lv_aload_n hx hb dL_law_1937 rfl (lv_at hl 1 rfl) ?_
    refine lv_iload hx hb dL_law_1938 (lv_at hl 5 rfl) ?_
    refine lv_iconst (v := 1) hx hb dL_law_1940 (by decide) ?_
    refine lv_iadd hx hb dL_law_1941 ?_
    refine va_sld hx hb hX hbl hbA hS (by unfold vp_in; decide) dL_law_1942 ?_
    refine lv_aload_n hx hb dL_law_1943 rfl (lv_at hl 1 rfl) ?_
    refine lv_iload hx hb dL_law_1944 (lv_at hl 5 rfl) ?_
    refine lv_iconst (v := 2) hx hb dL_law_1946 (by decide) ?_
    refine lv_iadd hx hb dL_law_1947 ?_
    refine va_sld hx hb hX hbl hbA hS (by unfold vp_in; decide) dL_law_1948 ?_
    have hFc := va_free (wc := [(m0, .inr (10, [.ref w0, .int 0])), (w0, .inr (9, [.int 0, .int 1, .int 0, .ref r_phases, .ref r_phase, .ref r_phaseTicks, .ref r_set, .ref r_least, .ref r_greatest, .int 0, .ref r_from, .ref r_to, .ref r_time, .ref r_room, .ref r_first, .ref r_rate, .ref r_cost, .ref r_isShut, .ref r_slowed, .ref r_row, .ref r_size, .ref r_came, .ref r_left, .ref r_mostQueue, .ref r_sumQueue, .ref r_turned, .int 0, .ref r_flowFrom, .ref r_flowTo, .ref r_kind, .ref r_start, .ref r_period, .ref r_count, .int 0, .ref r_flow, .ref r_began, .ref r_state, .ref r_link, .ref r_end, .ref r_gone, .ref r_trip, .ref r_delay, .ref r_way]))]) hD hS hA [0, 1] rfl
    refine va_calli (va_runV (As := [.int (xs (0 + 1 : Int32).toNatClampNeg), .int (xs (0 + 2 : Int32).toNatClampNeg)]) (rest := []) ⟨hx, hb, hml, hown, hts⟩ (tm_m_vehicleAt l hst dC dI cy m0 w0 0 r_phases r_phase r_phaseTicks r_set r_least r_greatest r_from r_to r_time r_room r_first r_rate r_cost r_isShut r_slowed r_row r_size r_came r_left r_mostQueue r_sumQueue r_turned r_flowFrom r_flowTo r_kind r_start r_period r_count r_flow r_began r_state r_link r_end r_gone r_trip r_delay r_way (xs (0 + 1 : Int32).toNatClampNeg) (xs (0 + 2 : Int32).toNatClampNeg) H.size) (tp_cwV 2 hts tw_1543 tw_1544 tw_1545 tw_48 tw_1546 rfl rfl (by decide +kernel) ⟨Nat.le_of_ble_eq_true rfl, Nat.le_of_ble_eq_true rfl⟩) ⟨tp_blind, va_recv hK hP (ci := 10) (q0 := 0) rfl rfl, fun U hU hW => ⟨rfl, tp_pay hK hP hD hE hZ hS [0, 1] (by decide) rfl hFc U hU hW⟩⟩ rfl rfl hl.1 rfl (lv_room (Nat.le_of_ble_eq_true rfl)) dL_law_1949 ⟨(Nat.le_of_ble_eq_true rfl), (Nat.le_of_ble_eq_true rfl)⟩) hS (fun q _ h => hFc q h) hFc (fun r_3 u t H1 locs ht hvm hw hB hz1 hk1 hS => ?_)
    obtain rfl := hw
    obtain ⟨f_4, hP1, hD1⟩ := hB
    subst f_4
    rw [ht] at hP1
    obtain ⟨hP, hD⟩ := va_join (wr := [(o0, .inl (cy 1, 1, .inr (.inl ((fun _ => 0)))))]) (w1 := [(m0, .inr (10, [.ref w0, .int 1]))]) hP hD [0, 1] [2] rfl rfl (by decide) (by decide) hk1 hFc hP1 hD1
    generalize H1 = H at hP hS ⊢
    have hP : va_P (dC, dI) vwCl [(o0, .inl (cy 1, 1, .inr (.inl ((fun _ => 0))))), (m0, .inr (10, [.ref w0, .int 1]))] _ := hP
    have hD : va_D A [(o0, .inl (cy 1, 1, .inr (.inl ((fun _ => 0))))), (m0, .inr (10, [.ref w0, .int 1]))] := hD
    refine lv_istore (lv' := [(6, .int 0), (5, .int 1), (0, .ref b), (1, .ref a0), (2, .ref m0), (3, .ref o0), (4, .int 0)]) hx hb dL_law_1952 hl (by decide) rfl (fun ls hl => ?_)
    refine lv_aload_n hx hb dL_law_1954 rfl (lv_at hl 4 rfl) ?_
    have hFc := va_free (wc := [(m0, .inr (10, [.ref w0, .int 1]))]) hD hS hA [1] rfl
    refine va_calli (va_runV (As := []) (rest := []) ⟨hx, hb, hml, hown, hts⟩ (tm_m_thrown l hst dC dI cy m0 w0 1 H.size) (tp_cwV 0 hts tw_1317 tw_1318 tw_1319 tw_48 tw_1320 rfl rfl (by decide +kernel) ⟨Nat.le_of_ble_eq_true rfl, Nat.le_of_ble_eq_true rfl⟩) ⟨tp_blind, va_recv hK hP (ci := 10) (q0 := 1) rfl rfl, fun U hU hW => ⟨rfl, tp_pay hK hP hD hE hZ hS [1] (by decide) rfl hFc U hU hW⟩⟩ rfl rfl hl.1 rfl (lv_room (Nat.le_of_ble_eq_true rfl)) dL_law_1955 ⟨(Nat.le_of_ble_eq_true rfl), (Nat.le_of_ble_eq_true rfl)⟩) hS (fun q _ h => hFc q h) hFc (fun r_5 u t H1 locs ht hvm hw hB hz1 hk1 hS => ?_)
    obtain rfl := hw
    obtain ⟨f_6, hP1, hD1⟩ := hB
    subst f_6
    rw [ht] at hP1
    obtain ⟨hP, hD⟩ := va_join (wr := [(o0, .inl (cy 1, 1, .inr (.inl ((fun _ => 0)))))]) (w1 := [(m0, .inr (10, [.ref w0, .int 1]))]) hP hD [1] [0] rfl rfl (by decide) (by decide) hk1 hFc hP1 hD1
    generalize H1 = H at hP hS ⊢
    have hP : va_P (dC, dI) vwCl [(o0, .inl (cy 1, 1, .inr (.inl ((fun _ => 0))))), (m0, .inr (10, [.ref w0, .int 1]))] _ := hP
    have hD : va_D A [(o0, .inl (cy 1, 1, .inr (.inl ((fun _ => 0))))), (m0, .inr (10, [.ref w0, .int 1]))] := hD
    refine lv_iload hx hb dL_law_1958 (lv_at hl 1 rfl) ?_
    refine lv_icmp_eq (tgt := 1965) hx hb dL_law_1960 (by decide) (fun _ => ?_) (fun c_7 => absurd rfl c_7)
    refine lv_iload hx hb dL_law_1965 (lv_at hl 1 rfl) ?_
    refine lv_if_ne (tgt := 1982) hx hb dL_law_1967 (by decide) (fun _ => ?_) (fun c_8 => absurd c_8 (by decide))
    refine lv_goto (tgt := 2504) hx hb dL_law_1982 (by decide) ?_
    exact tc_end hd0 hs C1 hX (Nat.le_of_ble_eq_true rfl) (Nat.le_of_ble_eq_true rfl) H _ ls hS (lv_sub hl [2, 6] rfl)
theorem tw_1054 : Cond.codeWith yL_queue cL_queue 4 (some .int) [(0, 9, 12, 19)] ∈ tp_all := tp_mem 1054 (by decide +kernel) rfl
theorem tw_1052 : Cond.methodLink RL 238 yL_queue ∈ tp_all := tp_mem 1052 (by decide +kernel) rfl
theorem tw_1053 : Cond.static yL_queue ∈ tp_all := tp_mem 1053 (by decide +kernel) rfl
theorem tw_1551 : Cond.code yX10_queue cX10_queue 2 (some .int) ∈ tp_all := tp_mem 1551 (by decide +kernel) rfl
theorem tw_1548 : Cond.methodLink RL 240 yX10_queue ∈ tp_all := tp_mem 1548 (by decide +kernel) rfl
theorem tw_1549 : Cond.instanceMethod yX10_queue ∈ tp_all := tp_mem 1549 (by decide +kernel) rfl
theorem tw_1550 : Cond.selects RX10 yX10_queue yX10_queue ∈ tp_all := tp_mem 1550 (by decide +kernel) rfl
theorem dL_law_1985 : decode cL_law 1985 = .ok (.aload_n 1, 1) := by decide +kernel
theorem dL_law_1986 : decode cL_law 1986 = .ok (.aload_n 0, 1) := by decide +kernel
theorem dL_law_1987 : decode cL_law 1987 = .ok (.iload 4, 2) := by decide +kernel
theorem dL_law_1989 : decode cL_law 1989 = .ok (.iconst 1, 1) := by decide +kernel
theorem dL_law_1990 : decode cL_law 1990 = .ok (.iadd, 1) := by decide +kernel
theorem dL_law_1991 : decode cL_law 1991 = .ok (.iaload, 1) := by decide +kernel
theorem dL_law_1992 : decode cL_law 1992 = .ok (.aload_n 3, 1) := by decide +kernel
theorem dL_law_1993 : decode cL_law 1993 = .ok (.invokestatic 238, 3) := by decide +kernel
theorem dL_law_1996 : decode cL_law 1996 = .ok (.istore 5, 2) := by decide +kernel
theorem dL_law_1998 : decode cL_law 1998 = .ok (.aload_n 2, 1) := by decide +kernel
theorem dL_law_1999 : decode cL_law 1999 = .ok (.aload_n 0, 1) := by decide +kernel
theorem dL_law_2000 : decode cL_law 2000 = .ok (.iload 4, 2) := by decide +kernel
theorem dL_law_2002 : decode cL_law 2002 = .ok (.iconst 1, 1) := by decide +kernel
theorem dL_law_2003 : decode cL_law 2003 = .ok (.iadd, 1) := by decide +kernel
theorem dL_law_2004 : decode cL_law 2004 = .ok (.iaload, 1) := by decide +kernel
theorem dL_law_2005 : decode cL_law 2005 = .ok (.invokevirtual 240, 3) := by decide +kernel
theorem dL_law_2008 : decode cL_law 2008 = .ok (.istore 6, 2) := by decide +kernel
theorem dL_law_2010 : decode cL_law 2010 = .ok (.aload_n 2, 1) := by decide +kernel
theorem dL_law_2011 : decode cL_law 2011 = .ok (.invokevirtual 133, 3) := by decide +kernel
theorem dL_law_2014 : decode cL_law 2014 = .ok (.iload 5, 2) := by decide +kernel
theorem dL_law_2016 : decode cL_law 2016 = .ok (.if_icmp .eq 5, 3) := by decide +kernel
theorem dL_law_2021 : decode cL_law 2021 = .ok (.iload 5, 2) := by decide +kernel
theorem dL_law_2023 : decode cL_law 2023 = .ok (.ifCond .ne 15, 3) := by decide +kernel
theorem dL_law_2038 : decode cL_law 2038 = .ok (.goto 466, 3) := by decide +kernel
set_option maxRecDepth 100000 in
set_option maxHeartbeats 4000000 in
/-- the case 31 -/
theorem tc_31 {p : Program} {l : Launch} {e : Env} {s0 s : State} {m : MethodId} {below : List Frame} {meth : Method} {c : Code} {A : Nat → Prop} (hst : l.stackTraces = false) {dC : Nat → ClassId} {dI : Nat → Nat → Nat} {cy : Nat → ClassId} {b : Nat} {xs : Nat → Int32} {d0 : Drawn} (hd0 : s0.drawn.sameBut d0 lw_cs) (hs : s = s0.setDrawn d0) (C1 : tc_At p s m meth c b #[Value.ref b] A dC dI cy) (hX : va_X b 7 xs s s.heap) {a0 : Nat} {a1 : Nat} {a2 : Nat} {aT : Nat} {b1 : Nat} {b2 : Nat} {b3 : Nat} {b4 : Nat} {b5 : Nat} {b6 : Nat} {b7 : Nat} {m0 : Nat} {w0 : Nat} {o0 : Nat} {r_phases : Nat} {r_phase : Nat} {r_phaseTicks : Nat} {r_set : Nat} {r_least : Nat} {r_greatest : Nat} {r_from : Nat} {r_to : Nat} {r_time : Nat} {r_room : Nat} {r_first : Nat} {r_rate : Nat} {r_cost : Nat} {r_isShut : Nat} {r_slowed : Nat} {r_row : Nat} {r_size : Nat} {r_came : Nat} {r_left : Nat} {r_mostQueue : Nat} {r_sumQueue : Nat} {r_turned : Nat} {r_flowFrom : Nat} {r_flowTo : Nat} {r_kind : Nat} {r_start : Nat} {r_period : Nat} {r_count : Nat} {r_flow : Nat} {r_began : Nat} {r_state : Nat} {r_link : Nat} {r_end : Nat} {r_gone : Nat} {r_trip : Nat} {r_delay : Nat} {r_way : Nat} (H : Heap) (locs : List Loc) (ls : Array Slot) (hP : va_P (dC, dI) vwCl [(a0, .inr (8, [.ref a1, .ref aT])), (a1, .inr (5, [.ref a2, .ref b1, .ref b2, .ref b3, .ref b4, .ref b5, .int 0, .int 1, .int 0, .int 0, .int 0, .int 0])), (a2, .inr (2, [.ref b6, .int 0, .ref b7, .int 0])), (m0, .inr (10, [.ref w0, .int 0])), (w0, .inr (9, [.int 0, .int 1, .int 0, .ref r_phases, .ref r_phase, .ref r_phaseTicks, .ref r_set, .ref r_least, .ref r_greatest, .int 0, .ref r_from, .ref r_to, .ref r_time, .ref r_room, .ref r_first, .ref r_rate, .ref r_cost, .ref r_isShut, .ref r_slowed, .ref r_row, .ref r_size, .ref r_came, .ref r_left, .ref r_mostQueue, .ref r_sumQueue, .ref r_turned, .int 0, .ref r_flowFrom, .ref r_flowTo, .ref r_kind, .ref r_start, .ref r_period, .ref r_count, .int 0, .ref r_flow, .ref r_began, .ref r_state, .ref r_link, .ref r_end, .ref r_gone, .ref r_trip, .ref r_delay, .ref r_way])), (o0, .inl (cy 1, 1, .inr (.inl ((fun _ => 0)))))] H) (hD : va_D A [(a0, .inr (8, [.ref a1, .ref aT])), (a1, .inr (5, [.ref a2, .ref b1, .ref b2, .ref b3, .ref b4, .ref b5, .int 0, .int 1, .int 0, .int 0, .int 0, .int 0])), (a2, .inr (2, [.ref b6, .int 0, .ref b7, .int 0])), (m0, .inr (10, [.ref w0, .int 0])), (w0, .inr (9, [.int 0, .int 1, .int 0, .ref r_phases, .ref r_phase, .ref r_phaseTicks, .ref r_set, .ref r_least, .ref r_greatest, .int 0, .ref r_from, .ref r_to, .ref r_time, .ref r_room, .ref r_first, .ref r_rate, .ref r_cost, .ref r_isShut, .ref r_slowed, .ref r_row, .ref r_size, .ref r_came, .ref r_left, .ref r_mostQueue, .ref r_sumQueue, .ref r_turned, .int 0, .ref r_flowFrom, .ref r_flowTo, .ref r_kind, .ref r_start, .ref r_period, .ref r_count, .int 0, .ref r_flow, .ref r_began, .ref r_state, .ref r_link, .ref r_end, .ref r_gone, .ref r_trip, .ref r_delay, .ref r_way])), (o0, .inl (cy 1, 1, .inr (.inl ((fun _ => 0)))))]) (hS : va_S A s.heap H locs) (hl : lv_has ls 9 [(0, .ref b), (1, .ref a0), (2, .ref m0), (3, .ref o0), (4, .int 0)]) : W p l e room_1 s m #[Value.ref b] below meth c H locs 1535 31585 (lw_Z below #[Value.ref b] s0) (F0 m 1985 ls []) := by
  have C2 := C1
  obtain ⟨hx, hb, hr, hml, hown, hts, hbl, hlocks, hK, hE, hZ, hA, hbA, hA2⟩ := C2
  refine lv_aload_n hx hb dL_law_1985 rfl (lv_at hl 1 rfl) ?_
  refine lv_aload_n hx hb dL_law_1986 rfl (lv_at hl 0 rfl) ?_
  refine lv_iload hx hb dL_law_1987 (lv_at hl 4 rfl) ?_
  refine lv_iconst (v := 1) hx hb dL_law_1989 (by decide) ?_
  refine lv_iadd hx hb dL_law_1990 ?_
  refine va_sld hx hb hX hbl hbA hS (by unfold vp_in; decide) dL_law_1991 ?_
  refine lv_aload_n hx hb dL_law_1992 rfl (lv_at hl 3 rfl) ?_
  have hFc := va_free (wc := [(a0, .inr (8, [.ref a1, .ref aT])), (a1, .inr (5, [.ref a2, .ref b1, .ref b2, .ref b3, .ref b4, .ref b5, .int 0, .int 1, .int 0, .int 0, .int 0, .int 0])), (a2, .inr (2, [.ref b6, .int 0, .ref b7, .int 0])), (o0, .inl (cy 1, 1, .inr (.inl ((fun _ => 0)))))]) hD hS hA [0, 1, 2, 5] rfl
  refine vx_calli (vx_runSX (As := [.ref a0, .int (xs (0 + 1 : Int32).toNatClampNeg), .ref o0]) (rest := []) ⟨hx, hb, hml, hown, hts⟩ (tm_L_queue l hst dC dI cy a0 a1 a2 aT b1 b2 b3 b4 b5 b6 b7 o0 (xs (0 + 1 : Int32).toNatClampNeg) H.size) (tp_cwSW 3 hts tw_1052 tw_1053 tw_37 tw_1054 rfl rfl (by decide +kernel) ⟨Nat.le_of_ble_eq_true rfl, Nat.le_of_ble_eq_true rfl⟩) ⟨tp_blind, fun U hU hW => ⟨rfl, tp_pay hK hP hD hE hZ hS [0, 1, 2, 5] (by decide) rfl hFc U hU hW⟩⟩ rfl rfl hl.1 rfl (lv_room (Nat.le_of_ble_eq_true rfl)) dL_law_1993 ⟨(Nat.le_of_ble_eq_true rfl), (Nat.le_of_ble_eq_true rfl)⟩) hS (fun q _ h => hFc q h) hFc (fun q _ h => hFc q h) (fun E9 ce q9 u t H1 locs ht hvm hw hB hz1 hk1 hS hce hcv hcl => ?_) (fun r_1 u t H1 locs ht hvm hw hB hz1 hk1 hS => ?_)
  · obtain ⟨hE9, hB⟩ := hB
    exact hE9.elim
  · obtain rfl := hw
    obtain ⟨f_2, hP1, hD1⟩ := hB
    subst f_2
    rw [ht] at hP1
    obtain ⟨hP, hD⟩ := va_join (wr := [(m0, .inr (10, [.ref w0, .int 0])), (w0, .inr (9, [.int 0, .int 1, .int 0, .ref r_phases, .ref r_phase, .ref r_phaseTicks, .ref r_set, .ref r_least, .ref r_greatest, .int 0, .ref r_from, .ref r_to, .ref r_time, .ref r_room, .ref r_first, .ref r_rate, .ref r_cost, .ref r_isShut, .ref r_slowed, .ref r_row, .ref r_size, .ref r_came, .ref r_left, .ref r_mostQueue, .ref r_sumQueue, .ref r_turned, .int 0, .ref r_flowFrom, .ref r_flowTo, .ref r_kind, .ref r_start, .ref r_period, .ref r_count, .int 0, .ref r_flow, .ref r_began, .ref r_state, .ref r_link, .ref r_end, .ref r_gone, .ref r_trip, .ref r_delay, .ref r_way]))]) (w1 := [(o0, .inl (cy 1, 1, .inr (.inl ((fun _ => 0)))))]) hP hD [0, 1, 2, 5] [3, 4] rfl rfl (by decide) (by decide) hk1 hFc hP1 hD1
    generalize H1 = H at hP hS ⊢
    have hP : va_P (dC, dI) vwCl [(m0, .inr (10, [.ref w0, .int 0])), (w0, .inr (9, [.int 0, .int 1, .int 0, .ref r_phases, .ref r_phase, .ref r_phaseTicks, .ref r_set, .ref r_least, .ref r_greatest, .int 0, .ref r_from, .ref r_to, .ref r_time, .ref r_room, .ref r_first, .ref r_rate, .ref r_cost, .ref r_isShut, .ref r_slowed, .ref r_row, .ref r_size, .ref r_came, .ref r_left, .ref r_mostQueue, .ref r_sumQueue, .ref r_turned, .int 0, .ref r_flowFrom, .ref r_flowTo, .ref r_kind, .ref r_start, .ref r_period, .ref r_count, .int 0, .ref r_flow, .ref r_began, .ref r_state, .ref r_link, .ref r_end, .ref r_gone, .ref r_trip, .ref r_delay, .ref r_way])), (o0, .inl (cy 1, 1, .inr (.inl ((fun _ => 0)))))] _ := hP
    have hD : va_D A [(m0, .inr (10, [.ref w0, .int 0])), (w0, .inr (9, [.int 0, .int 1, .int 0, .ref r_phases, .ref r_phase, .ref r_phaseTicks, .ref r_set, .ref r_least, .ref r_greatest, .int 0, .ref r_from, .ref r_to, .ref r_time, .ref r_room, .ref r_first, .ref r_rate, .ref r_cost, .ref r_isShut, .ref r_slowed, .ref r_row, .ref r_size, .ref r_came, .ref r_left, .ref r_mostQueue, .ref r_sumQueue, .ref r_turned, .int 0, .ref r_flowFrom, .ref r_flowTo, .ref r_kind, .ref r_start, .ref r_period, .ref r_count, .int 0, .ref r_flow, .ref r_began, .ref r_state, .ref r_link, .ref r_end, .ref r_gone, .ref r_trip, .ref r_delay, .ref r_way])), (o0, .inl (cy 1, 1, .inr (.inl ((fun _ => 0)))))] := hD
    refine lv_istore (lv' := [(5, .int 1), (0, .ref b), (1, .ref a0), (2, .ref m0), (3, .ref o0), (4, .int 0)]) hx hb dL_law_1996 hl (by decide) rfl (fun ls hl => ?_)
    refine lv_aload_n hx hb dL_law_1998 rfl (lv_at hl 3 rfl) ?_
    refine lv_aload_n hx hb dL_law_1999 rfl (lv_at hl 1 rfl) ?_
    refine lv_iload hx hb dL_law_2000 (lv_at hl 5 rfl) ?_
    refine lv_iconst (v := 1) hx hb dL_law_2002 (by decide) ?_
    refine lv_iadd hx hb dL_law_2003 ?_
    refine va_sld hx hb hX hbl hbA hS (by unfold vp_in; decide) dL_law_2004 ?_
    have hFc := va_free (wc := [(m0, .inr (10, [.ref w0, .int 0])), (w0, .inr (9, [.int 0, .int 1, .int 0, .ref r_phases, .ref r_phase, .ref r_phaseTicks, .ref r_set, .ref r_least, .ref r_greatest, .int 0, .ref r_from, .ref r_to, .ref r_time, .ref r_room, .ref r_first, .ref r_rate, .ref r_cost, .ref r_isShut, .ref r_slowed, .ref r_row, .ref r_size, .ref r_came, .ref r_left, .ref r_mostQueue, .ref r_sumQueue, .ref r_turned, .int 0, .ref r_flowFrom, .ref r_flowTo, .ref r_kind, .ref r_start, .ref r_period, .ref r_count, .int 0, .ref r_flow, .ref r_began, .ref r_state, .ref r_link, .ref r_end, .ref r_gone, .ref r_trip, .ref r_delay, .ref r_way]))]) hD hS hA [0, 1] rfl
    refine va_calli (va_runV (As := [.int (xs (0 + 1 : Int32).toNatClampNeg)]) (rest := []) ⟨hx, hb, hml, hown, hts⟩ (tm_m_queue l hst dC dI cy m0 w0 0 r_phases r_phase r_phaseTicks r_set r_least r_greatest r_from r_to r_time r_room r_first r_rate r_cost r_isShut r_slowed r_row r_size r_came r_left r_mostQueue r_sumQueue r_turned r_flowFrom r_flowTo r_kind r_start r_period r_count r_flow r_began r_state r_link r_end r_gone r_trip r_delay r_way (xs (0 + 1 : Int32).toNatClampNeg) H.size) (tp_cwV 1 hts tw_1548 tw_1549 tw_1550 tw_48 tw_1551 rfl rfl (by decide +kernel) ⟨Nat.le_of_ble_eq_true rfl, Nat.le_of_ble_eq_true rfl⟩) ⟨tp_blind, va_recv hK hP (ci := 10) (q0 := 0) rfl rfl, fun U hU hW => ⟨rfl, tp_pay hK hP hD hE hZ hS [0, 1] (by decide) rfl hFc U hU hW⟩⟩ rfl rfl hl.1 rfl (lv_room (Nat.le_of_ble_eq_true rfl)) dL_law_2005 ⟨(Nat.le_of_ble_eq_true rfl), (Nat.le_of_ble_eq_true rfl)⟩) hS (fun q _ h => hFc q h) hFc (fun r_3 u t H1 locs ht hvm hw hB hz1 hk1 hS => ?_)
    obtain rfl := hw
    obtain ⟨f_4, hP1, hD1⟩ := hB
    subst f_4
    rw [ht] at hP1
    obtain ⟨hP, hD⟩ := va_join (wr := [(o0, .inl (cy 1, 1, .inr (.inl ((fun _ => 0)))))]) (w1 := [(m0, .inr (10, [.ref w0, .int 1]))]) hP hD [0, 1] [2] rfl rfl (by decide) (by decide) hk1 hFc hP1 hD1
    generalize H1 = H at hP hS ⊢
    have hP : va_P (dC, dI) vwCl [(o0, .inl (cy 1, 1, .inr (.inl ((fun _ => 0))))), (m0, .inr (10, [.ref w0, .int 1]))] _ := hP
    have hD : va_D A [(o0, .inl (cy 1, 1, .inr (.inl ((fun _ => 0))))), (m0, .inr (10, [.ref w0, .int 1]))] := hD
    refine lv_istore (lv' := [(6, .int 0), (5, .int 1), (0, .ref b), (1, .ref a0), (2, .ref m0), (3, .ref o0), (4, .int 0)]) hx hb dL_law_2008 hl (by decide) rfl (fun ls hl => ?_)
    refine lv_aload_n hx hb dL_law_2010 rfl (lv_at hl 4 rfl) ?_
    have hFc := va_free (wc := [(m0, .inr (10, [.ref w0, .int 1]))]) hD hS hA [1] rfl
    refine va_calli (va_runV (As := []) (rest := []) ⟨hx, hb, hml, hown, hts⟩ (tm_m_thrown l hst dC dI cy m0 w0 1 H.size) (tp_cwV 0 hts tw_1317 tw_1318 tw_1319 tw_48 tw_1320 rfl rfl (by decide +kernel) ⟨Nat.le_of_ble_eq_true rfl, Nat.le_of_ble_eq_true rfl⟩) ⟨tp_blind, va_recv hK hP (ci := 10) (q0 := 1) rfl rfl, fun U hU hW => ⟨rfl, tp_pay hK hP hD hE hZ hS [1] (by decide) rfl hFc U hU hW⟩⟩ rfl rfl hl.1 rfl (lv_room (Nat.le_of_ble_eq_true rfl)) dL_law_2011 ⟨(Nat.le_of_ble_eq_true rfl), (Nat.le_of_ble_eq_true rfl)⟩) hS (fun q _ h => hFc q h) hFc (fun r_5 u t H1 locs ht hvm hw hB hz1 hk1 hS => ?_)
    obtain rfl := hw
    obtain ⟨f_6, hP1, hD1⟩ := hB
    subst f_6
    rw [ht] at hP1
    obtain ⟨hP, hD⟩ := va_join (wr := [(o0, .inl (cy 1, 1, .inr (.inl ((fun _ => 0)))))]) (w1 := [(m0, .inr (10, [.ref w0, .int 1]))]) hP hD [1] [0] rfl rfl (by decide) (by decide) hk1 hFc hP1 hD1
    generalize H1 = H at hP hS ⊢
    have hP : va_P (dC, dI) vwCl [(o0, .inl (cy 1, 1, .inr (.inl ((fun _ => 0))))), (m0, .inr (10, [.ref w0, .int 1]))] _ := hP
    have hD : va_D A [(o0, .inl (cy 1, 1, .inr (.inl ((fun _ => 0))))), (m0, .inr (10, [.ref w0, .int 1]))] := hD
    refine lv_iload hx hb dL_law_2014 (lv_at hl 1 rfl) ?_
    refine lv_icmp_eq (tgt := 2021) hx hb dL_law_2016 (by decide) (fun _ => ?_) (fun c_7 => absurd rfl c_7)
    refine lv_iload hx hb dL_law_2021 (lv_at hl 1 rfl) ?_
    refine lv_if_ne (tgt := 2038) hx hb dL_law_2023 (by decide) (fun _ => ?_) (fun c_8 => absurd c_8 (by decide))
    refine lv_goto (tgt := 2504) hx hb dL_law_2038 (by decide) ?_
    exact tc_end hd0 hs C1 hX (Nat.le_of_ble_eq_true rfl) (Nat.le_of_ble_eq_true rfl) H _ ls hS (lv_sub hl [2, 6] rfl)
theorem tw_1058 : Cond.codeWith yL_count cL_count 5 (some .int) [(0, 10, 13, 19), (0, 10, 17, 21)] ∈ tp_all := tp_mem 1058 (by decide +kernel) rfl
theorem tw_1056 : Cond.methodLink RL 241 yL_count ∈ tp_all := tp_mem 1056 (by decide +kernel) rfl
theorem tw_1057 : Cond.static yL_count ∈ tp_all := tp_mem 1057 (by decide +kernel) rfl
theorem tw_1556 : Cond.code yX10_count cX10_count 3 (some .int) ∈ tp_all := tp_mem 1556 (by decide +kernel) rfl
theorem tw_1553 : Cond.methodLink RL 243 yX10_count ∈ tp_all := tp_mem 1553 (by decide +kernel) rfl
theorem tw_1554 : Cond.instanceMethod yX10_count ∈ tp_all := tp_mem 1554 (by decide +kernel) rfl
theorem tw_1555 : Cond.selects RX10 yX10_count yX10_count ∈ tp_all := tp_mem 1555 (by decide +kernel) rfl
theorem dL_law_2041 : decode cL_law 2041 = .ok (.aload_n 1, 1) := by decide +kernel
theorem dL_law_2042 : decode cL_law 2042 = .ok (.aload_n 0, 1) := by decide +kernel
theorem dL_law_2043 : decode cL_law 2043 = .ok (.iload 4, 2) := by decide +kernel
theorem dL_law_2045 : decode cL_law 2045 = .ok (.iconst 1, 1) := by decide +kernel
theorem dL_law_2046 : decode cL_law 2046 = .ok (.iadd, 1) := by decide +kernel
theorem dL_law_2047 : decode cL_law 2047 = .ok (.iaload, 1) := by decide +kernel
theorem dL_law_2048 : decode cL_law 2048 = .ok (.aload_n 0, 1) := by decide +kernel
theorem dL_law_2049 : decode cL_law 2049 = .ok (.iload 4, 2) := by decide +kernel
theorem dL_law_2051 : decode cL_law 2051 = .ok (.iconst 2, 1) := by decide +kernel
theorem dL_law_2052 : decode cL_law 2052 = .ok (.iadd, 1) := by decide +kernel
theorem dL_law_2053 : decode cL_law 2053 = .ok (.iaload, 1) := by decide +kernel
theorem dL_law_2054 : decode cL_law 2054 = .ok (.aload_n 3, 1) := by decide +kernel
theorem dL_law_2055 : decode cL_law 2055 = .ok (.invokestatic 241, 3) := by decide +kernel
theorem dL_law_2058 : decode cL_law 2058 = .ok (.istore 5, 2) := by decide +kernel
theorem dL_law_2060 : decode cL_law 2060 = .ok (.aload_n 2, 1) := by decide +kernel
theorem dL_law_2061 : decode cL_law 2061 = .ok (.aload_n 0, 1) := by decide +kernel
theorem dL_law_2062 : decode cL_law 2062 = .ok (.iload 4, 2) := by decide +kernel
theorem dL_law_2064 : decode cL_law 2064 = .ok (.iconst 1, 1) := by decide +kernel
theorem dL_law_2065 : decode cL_law 2065 = .ok (.iadd, 1) := by decide +kernel
theorem dL_law_2066 : decode cL_law 2066 = .ok (.iaload, 1) := by decide +kernel
theorem dL_law_2067 : decode cL_law 2067 = .ok (.aload_n 0, 1) := by decide +kernel
theorem dL_law_2068 : decode cL_law 2068 = .ok (.iload 4, 2) := by decide +kernel
theorem dL_law_2070 : decode cL_law 2070 = .ok (.iconst 2, 1) := by decide +kernel
theorem dL_law_2071 : decode cL_law 2071 = .ok (.iadd, 1) := by decide +kernel
theorem dL_law_2072 : decode cL_law 2072 = .ok (.iaload, 1) := by decide +kernel
theorem dL_law_2073 : decode cL_law 2073 = .ok (.invokevirtual 243, 3) := by decide +kernel
theorem dL_law_2076 : decode cL_law 2076 = .ok (.istore 6, 2) := by decide +kernel
theorem dL_law_2078 : decode cL_law 2078 = .ok (.aload_n 2, 1) := by decide +kernel
theorem dL_law_2079 : decode cL_law 2079 = .ok (.invokevirtual 133, 3) := by decide +kernel
theorem dL_law_2082 : decode cL_law 2082 = .ok (.iload 5, 2) := by decide +kernel
theorem dL_law_2084 : decode cL_law 2084 = .ok (.if_icmp .eq 5, 3) := by decide +kernel
theorem dL_law_2089 : decode cL_law 2089 = .ok (.iload 5, 2) := by decide +kernel
theorem dL_law_2091 : decode cL_law 2091 = .ok (.ifCond .ne 15, 3) := by decide +kernel
theorem dL_law_2106 : decode cL_law 2106 = .ok (.goto 398, 3) := by decide +kernel
set_option maxRecDepth 100000 in
set_option maxHeartbeats 4000000 in
/-- the case 32 -/
theorem tc_32 {p : Program} {l : Launch} {e : Env} {s0 s : State} {m : MethodId} {below : List Frame} {meth : Method} {c : Code} {A : Nat → Prop} (hst : l.stackTraces = false) {dC : Nat → ClassId} {dI : Nat → Nat → Nat} {cy : Nat → ClassId} {b : Nat} {xs : Nat → Int32} {d0 : Drawn} (hd0 : s0.drawn.sameBut d0 lw_cs) (hs : s = s0.setDrawn d0) (C1 : tc_At p s m meth c b #[Value.ref b] A dC dI cy) (hX : va_X b 7 xs s s.heap) {a0 : Nat} {a1 : Nat} {a2 : Nat} {aT : Nat} {b1 : Nat} {b2 : Nat} {b3 : Nat} {b4 : Nat} {b5 : Nat} {b6 : Nat} {b7 : Nat} {m0 : Nat} {w0 : Nat} {o0 : Nat} {r_phases : Nat} {r_phase : Nat} {r_phaseTicks : Nat} {r_set : Nat} {r_least : Nat} {r_greatest : Nat} {r_from : Nat} {r_to : Nat} {r_time : Nat} {r_room : Nat} {r_first : Nat} {r_rate : Nat} {r_cost : Nat} {r_isShut : Nat} {r_slowed : Nat} {r_row : Nat} {r_size : Nat} {r_came : Nat} {r_left : Nat} {r_mostQueue : Nat} {r_sumQueue : Nat} {r_turned : Nat} {r_flowFrom : Nat} {r_flowTo : Nat} {r_kind : Nat} {r_start : Nat} {r_period : Nat} {r_count : Nat} {r_flow : Nat} {r_began : Nat} {r_state : Nat} {r_link : Nat} {r_end : Nat} {r_gone : Nat} {r_trip : Nat} {r_delay : Nat} {r_way : Nat} (H : Heap) (locs : List Loc) (ls : Array Slot) (hP : va_P (dC, dI) vwCl [(a0, .inr (8, [.ref a1, .ref aT])), (a1, .inr (5, [.ref a2, .ref b1, .ref b2, .ref b3, .ref b4, .ref b5, .int 0, .int 1, .int 0, .int 0, .int 0, .int 0])), (a2, .inr (2, [.ref b6, .int 0, .ref b7, .int 0])), (m0, .inr (10, [.ref w0, .int 0])), (w0, .inr (9, [.int 0, .int 1, .int 0, .ref r_phases, .ref r_phase, .ref r_phaseTicks, .ref r_set, .ref r_least, .ref r_greatest, .int 0, .ref r_from, .ref r_to, .ref r_time, .ref r_room, .ref r_first, .ref r_rate, .ref r_cost, .ref r_isShut, .ref r_slowed, .ref r_row, .ref r_size, .ref r_came, .ref r_left, .ref r_mostQueue, .ref r_sumQueue, .ref r_turned, .int 0, .ref r_flowFrom, .ref r_flowTo, .ref r_kind, .ref r_start, .ref r_period, .ref r_count, .int 0, .ref r_flow, .ref r_began, .ref r_state, .ref r_link, .ref r_end, .ref r_gone, .ref r_trip, .ref r_delay, .ref r_way])), (o0, .inl (cy 1, 1, .inr (.inl ((fun _ => 0)))))] H) (hD : va_D A [(a0, .inr (8, [.ref a1, .ref aT])), (a1, .inr (5, [.ref a2, .ref b1, .ref b2, .ref b3, .ref b4, .ref b5, .int 0, .int 1, .int 0, .int 0, .int 0, .int 0])), (a2, .inr (2, [.ref b6, .int 0, .ref b7, .int 0])), (m0, .inr (10, [.ref w0, .int 0])), (w0, .inr (9, [.int 0, .int 1, .int 0, .ref r_phases, .ref r_phase, .ref r_phaseTicks, .ref r_set, .ref r_least, .ref r_greatest, .int 0, .ref r_from, .ref r_to, .ref r_time, .ref r_room, .ref r_first, .ref r_rate, .ref r_cost, .ref r_isShut, .ref r_slowed, .ref r_row, .ref r_size, .ref r_came, .ref r_left, .ref r_mostQueue, .ref r_sumQueue, .ref r_turned, .int 0, .ref r_flowFrom, .ref r_flowTo, .ref r_kind, .ref r_start, .ref r_period, .ref r_count, .int 0, .ref r_flow, .ref r_began, .ref r_state, .ref r_link, .ref r_end, .ref r_gone, .ref r_trip, .ref r_delay, .ref r_way])), (o0, .inl (cy 1, 1, .inr (.inl ((fun _ => 0)))))]) (hS : va_S A s.heap H locs) (hl : lv_has ls 9 [(0, .ref b), (1, .ref a0), (2, .ref m0), (3, .ref o0), (4, .int 0)]) : W p l e room_1 s m #[Value.ref b] below meth c H locs 1535 31585 (lw_Z below #[Value.ref b] s0) (F0 m 2041 ls []) := by
  have C2 := C1
  obtain ⟨hx, hb, hr, hml, hown, hts, hbl, hlocks, hK, hE, hZ, hA, hbA, hA2⟩ := C2
  refine lv_aload_n hx hb dL_law_2041 rfl (lv_at hl 1 rfl) ?_
  refine lv_aload_n hx hb dL_law_2042 rfl (lv_at hl 0 rfl) ?_
  refine lv_iload hx hb dL_law_2043 (lv_at hl 4 rfl) ?_
  refine lv_iconst (v := 1) hx hb dL_law_2045 (by decide) ?_
  refine lv_iadd hx hb dL_law_2046 ?_
  refine va_sld hx hb hX hbl hbA hS (by unfold vp_in; decide) dL_law_2047 ?_
  refine lv_aload_n hx hb dL_law_2048 rfl (lv_at hl 0 rfl) ?_
  refine lv_iload hx hb dL_law_2049 (lv_at hl 4 rfl) ?_
  refine lv_iconst (v := 2) hx hb dL_law_2051 (by decide) ?_
  refine lv_iadd hx hb dL_law_2052 ?_
  refine va_sld hx hb hX hbl hbA hS (by unfold vp_in; decide) dL_law_2053 ?_
  refine lv_aload_n hx hb dL_law_2054 rfl (lv_at hl 3 rfl) ?_
  have hFc := va_free (wc := [(a0, .inr (8, [.ref a1, .ref aT])), (a1, .inr (5, [.ref a2, .ref b1, .ref b2, .ref b3, .ref b4, .ref b5, .int 0, .int 1, .int 0, .int 0, .int 0, .int 0])), (a2, .inr (2, [.ref b6, .int 0, .ref b7, .int 0])), (o0, .inl (cy 1, 1, .inr (.inl ((fun _ => 0)))))]) hD hS hA [0, 1, 2, 5] rfl
  refine vx_calli (vx_runSX (As := [.ref a0, .int (xs (0 + 1 : Int32).toNatClampNeg), .int (xs (0 + 2 : Int32).toNatClampNeg), .ref o0]) (rest := []) ⟨hx, hb, hml, hown, hts⟩ (tm_L_count l hst dC dI cy a0 a1 a2 aT b1 b2 b3 b4 b5 b6 b7 o0 (xs (0 + 1 : Int32).toNatClampNeg) (xs (0 + 2 : Int32).toNatClampNeg) H.size) (tp_cwSW 4 hts tw_1056 tw_1057 tw_37 tw_1058 rfl rfl (by decide +kernel) ⟨Nat.le_of_ble_eq_true rfl, Nat.le_of_ble_eq_true rfl⟩) ⟨tp_blind, fun U hU hW => ⟨rfl, tp_pay hK hP hD hE hZ hS [0, 1, 2, 5] (by decide) rfl hFc U hU hW⟩⟩ rfl rfl hl.1 rfl (lv_room (Nat.le_of_ble_eq_true rfl)) dL_law_2055 ⟨(Nat.le_of_ble_eq_true rfl), (Nat.le_of_ble_eq_true rfl)⟩) hS (fun q _ h => hFc q h) hFc (fun q _ h => hFc q h) (fun E9 ce q9 u t H1 locs ht hvm hw hB hz1 hk1 hS hce hcv hcl => ?_) (fun r_1 u t H1 locs ht hvm hw hB hz1 hk1 hS => ?_)
  · obtain ⟨hE9, hB⟩ := hB
    exact hE9.elim
  · obtain rfl := hw
    obtain ⟨f_2, hP1, hD1⟩ := hB
    subst f_2
    rw [ht] at hP1
    obtain ⟨hP, hD⟩ := va_join (wr := [(m0, .inr (10, [.ref w0, .int 0])), (w0, .inr (9, [.int 0, .int 1, .int 0, .ref r_phases, .ref r_phase, .ref r_phaseTicks, .ref r_set, .ref r_least, .ref r_greatest, .int 0, .ref r_from, .ref r_to, .ref r_time, .ref r_room, .ref r_first, .ref r_rate, .ref r_cost, .ref r_isShut, .ref r_slowed, .ref r_row, .ref r_size, .ref r_came, .ref r_left, .ref r_mostQueue, .ref r_sumQueue, .ref r_turned, .int 0, .ref r_flowFrom, .ref r_flowTo, .ref r_kind, .ref r_start, .ref r_period, .ref r_count, .int 0, .ref r_flow, .ref r_began, .ref r_state, .ref r_link, .ref r_end, .ref r_gone, .ref r_trip, .ref r_delay, .ref r_way]))]) (w1 := [(o0, .inl (cy 1, 1, .inr (.inl ((fun _ => 0)))))]) hP hD [0, 1, 2, 5] [3, 4] rfl rfl (by decide) (by decide) hk1 hFc hP1 hD1
    generalize H1 = H at hP hS ⊢
    have hP : va_P (dC, dI) vwCl [(m0, .inr (10, [.ref w0, .int 0])), (w0, .inr (9, [.int 0, .int 1, .int 0, .ref r_phases, .ref r_phase, .ref r_phaseTicks, .ref r_set, .ref r_least, .ref r_greatest, .int 0, .ref r_from, .ref r_to, .ref r_time, .ref r_room, .ref r_first, .ref r_rate, .ref r_cost, .ref r_isShut, .ref r_slowed, .ref r_row, .ref r_size, .ref r_came, .ref r_left, .ref r_mostQueue, .ref r_sumQueue, .ref r_turned, .int 0, .ref r_flowFrom, .ref r_flowTo, .ref r_kind, .ref r_start, .ref r_period, .ref r_count, .int 0, .ref r_flow, .ref r_began, .ref r_state, .ref r_link, .ref r_end, .ref r_gone, .ref r_trip, .ref r_delay, .ref r_way])), (o0, .inl (cy 1, 1, .inr (.inl ((fun _ => 0)))))] _ := hP
    have hD : va_D A [(m0, .inr (10, [.ref w0, .int 0])), (w0, .inr (9, [.int 0, .int 1, .int 0, .ref r_phases, .ref r_phase, .ref r_phaseTicks, .ref r_set, .ref r_least, .ref r_greatest, .int 0, .ref r_from, .ref r_to, .ref r_time, .ref r_room, .ref r_first, .ref r_rate, .ref r_cost, .ref r_isShut, .ref r_slowed, .ref r_row, .ref r_size, .ref r_came, .ref r_left, .ref r_mostQueue, .ref r_sumQueue, .ref r_turned, .int 0, .ref r_flowFrom, .ref r_flowTo, .ref r_kind, .ref r_start, .ref r_period, .ref r_count, .int 0, .ref r_flow, .ref r_began, .ref r_state, .ref r_link, .ref r_end, .ref r_gone, .ref r_trip, .ref r_delay, .ref r_way])), (o0, .inl (cy 1, 1, .inr (.inl ((fun _ => 0)))))] := hD
    refine lv_istore (lv' := [(5, .int 1), (0, .ref b), (1, .ref a0), (2, .ref m0), (3, .ref o0), (4, .int 0)]) hx hb dL_law_2058 hl (by decide) rfl (fun ls hl => ?_)
    refine lv_aload_n hx hb dL_law_2060 rfl (lv_at hl 3 rfl) ?_
    refine lv_aload_n hx hb dL_law_2061 rfl (lv_at hl 1 rfl) ?_
    refine lv_iload hx hb dL_law_2062 (lv_at hl 5 rfl) ?_
    refine lv_iconst (v := 1) hx hb dL_law_2064 (by decide) ?_
    refine lv_iadd hx hb dL_law_2065 ?_
    refine va_sld hx hb hX hbl hbA hS (by unfold vp_in; decide) dL_law_2066 ?_
    refine lv_aload_n hx hb dL_law_2067 rfl (lv_at hl 1 rfl) ?_
    refine lv_iload hx hb dL_law_2068 (lv_at hl 5 rfl) ?_
    refine lv_iconst (v := 2) hx hb dL_law_2070 (by decide) ?_
    refine lv_iadd hx hb dL_law_2071 ?_
    refine va_sld hx hb hX hbl hbA hS (by unfold vp_in; decide) dL_law_2072 ?_
    have hFc := va_free (wc := [(m0, .inr (10, [.ref w0, .int 0])), (w0, .inr (9, [.int 0, .int 1, .int 0, .ref r_phases, .ref r_phase, .ref r_phaseTicks, .ref r_set, .ref r_least, .ref r_greatest, .int 0, .ref r_from, .ref r_to, .ref r_time, .ref r_room, .ref r_first, .ref r_rate, .ref r_cost, .ref r_isShut, .ref r_slowed, .ref r_row, .ref r_size, .ref r_came, .ref r_left, .ref r_mostQueue, .ref r_sumQueue, .ref r_turned, .int 0, .ref r_flowFrom, .ref r_flowTo, .ref r_kind, .ref r_start, .ref r_period, .ref r_count, .int 0, .ref r_flow, .ref r_began, .ref r_state, .ref r_link, .ref r_end, .ref r_gone, .ref r_trip, .ref r_delay, .ref r_way]))]) hD hS hA [0, 1] rfl
    refine va_calli (va_runV (As := [.int (xs (0 + 1 : Int32).toNatClampNeg), .int (xs (0 + 2 : Int32).toNatClampNeg)]) (rest := []) ⟨hx, hb, hml, hown, hts⟩ (tm_m_count l hst dC dI cy m0 w0 0 r_phases r_phase r_phaseTicks r_set r_least r_greatest r_from r_to r_time r_room r_first r_rate r_cost r_isShut r_slowed r_row r_size r_came r_left r_mostQueue r_sumQueue r_turned r_flowFrom r_flowTo r_kind r_start r_period r_count r_flow r_began r_state r_link r_end r_gone r_trip r_delay r_way (xs (0 + 1 : Int32).toNatClampNeg) (xs (0 + 2 : Int32).toNatClampNeg) H.size) (tp_cwV 2 hts tw_1553 tw_1554 tw_1555 tw_48 tw_1556 rfl rfl (by decide +kernel) ⟨Nat.le_of_ble_eq_true rfl, Nat.le_of_ble_eq_true rfl⟩) ⟨tp_blind, va_recv hK hP (ci := 10) (q0 := 0) rfl rfl, fun U hU hW => ⟨rfl, tp_pay hK hP hD hE hZ hS [0, 1] (by decide) rfl hFc U hU hW⟩⟩ rfl rfl hl.1 rfl (lv_room (Nat.le_of_ble_eq_true rfl)) dL_law_2073 ⟨(Nat.le_of_ble_eq_true rfl), (Nat.le_of_ble_eq_true rfl)⟩) hS (fun q _ h => hFc q h) hFc (fun r_3 u t H1 locs ht hvm hw hB hz1 hk1 hS => ?_)
    obtain rfl := hw
    obtain ⟨f_4, hP1, hD1⟩ := hB
    subst f_4
    rw [ht] at hP1
    obtain ⟨hP, hD⟩ := va_join (wr := [(o0, .inl (cy 1, 1, .inr (.inl ((fun _ => 0)))))]) (w1 := [(m0, .inr (10, [.ref w0, .int 1]))]) hP hD [0, 1] [2] rfl rfl (by decide) (by decide) hk1 hFc hP1 hD1
    generalize H1 = H at hP hS ⊢
    have hP : va_P (dC, dI) vwCl [(o0, .inl (cy 1, 1, .inr (.inl ((fun _ => 0))))), (m0, .inr (10, [.ref w0, .int 1]))] _ := hP
    have hD : va_D A [(o0, .inl (cy 1, 1, .inr (.inl ((fun _ => 0))))), (m0, .inr (10, [.ref w0, .int 1]))] := hD
    refine lv_istore (lv' := [(6, .int 0), (5, .int 1), (0, .ref b), (1, .ref a0), (2, .ref m0), (3, .ref o0), (4, .int 0)]) hx hb dL_law_2076 hl (by decide) rfl (fun ls hl => ?_)
    refine lv_aload_n hx hb dL_law_2078 rfl (lv_at hl 4 rfl) ?_
    have hFc := va_free (wc := [(m0, .inr (10, [.ref w0, .int 1]))]) hD hS hA [1] rfl
    refine va_calli (va_runV (As := []) (rest := []) ⟨hx, hb, hml, hown, hts⟩ (tm_m_thrown l hst dC dI cy m0 w0 1 H.size) (tp_cwV 0 hts tw_1317 tw_1318 tw_1319 tw_48 tw_1320 rfl rfl (by decide +kernel) ⟨Nat.le_of_ble_eq_true rfl, Nat.le_of_ble_eq_true rfl⟩) ⟨tp_blind, va_recv hK hP (ci := 10) (q0 := 1) rfl rfl, fun U hU hW => ⟨rfl, tp_pay hK hP hD hE hZ hS [1] (by decide) rfl hFc U hU hW⟩⟩ rfl rfl hl.1 rfl (lv_room (Nat.le_of_ble_eq_true rfl)) dL_law_2079 ⟨(Nat.le_of_ble_eq_true rfl), (Nat.le_of_ble_eq_true rfl)⟩) hS (fun q _ h => hFc q h) hFc (fun r_5 u t H1 locs ht hvm hw hB hz1 hk1 hS => ?_)
    obtain rfl := hw
    obtain ⟨f_6, hP1, hD1⟩ := hB
    subst f_6
    rw [ht] at hP1
    obtain ⟨hP, hD⟩ := va_join (wr := [(o0, .inl (cy 1, 1, .inr (.inl ((fun _ => 0)))))]) (w1 := [(m0, .inr (10, [.ref w0, .int 1]))]) hP hD [1] [0] rfl rfl (by decide) (by decide) hk1 hFc hP1 hD1
    generalize H1 = H at hP hS ⊢
    have hP : va_P (dC, dI) vwCl [(o0, .inl (cy 1, 1, .inr (.inl ((fun _ => 0))))), (m0, .inr (10, [.ref w0, .int 1]))] _ := hP
    have hD : va_D A [(o0, .inl (cy 1, 1, .inr (.inl ((fun _ => 0))))), (m0, .inr (10, [.ref w0, .int 1]))] := hD
    refine lv_iload hx hb dL_law_2082 (lv_at hl 1 rfl) ?_
    refine lv_icmp_eq (tgt := 2089) hx hb dL_law_2084 (by decide) (fun _ => ?_) (fun c_7 => absurd rfl c_7)
    refine lv_iload hx hb dL_law_2089 (lv_at hl 1 rfl) ?_
    refine lv_if_ne (tgt := 2106) hx hb dL_law_2091 (by decide) (fun _ => ?_) (fun c_8 => absurd c_8 (by decide))
    refine lv_goto (tgt := 2504) hx hb dL_law_2106 (by decide) ?_
    exact tc_end hd0 hs C1 hX (Nat.le_of_ble_eq_true rfl) (Nat.le_of_ble_eq_true rfl) H _ ls hS (lv_sub hl [2, 6] rfl)
theorem tw_1062 : Cond.codeWith yL_turned cL_turned 5 (some .int) [(0, 10, 13, 19)] ∈ tp_all := tp_mem 1062 (by decide +kernel) rfl
theorem tw_1060 : Cond.methodLink RL 244 yL_turned ∈ tp_all := tp_mem 1060 (by decide +kernel) rfl
theorem tw_1061 : Cond.static yL_turned ∈ tp_all := tp_mem 1061 (by decide +kernel) rfl
theorem tw_1564 : Cond.code yX10_turned cX10_turned 3 (some .int) ∈ tp_all := tp_mem 1564 (by decide +kernel) rfl
theorem tw_1561 : Cond.methodLink RL 246 yX10_turned ∈ tp_all := tp_mem 1561 (by decide +kernel) rfl
theorem tw_1562 : Cond.instanceMethod yX10_turned ∈ tp_all := tp_mem 1562 (by decide +kernel) rfl
theorem tw_1563 : Cond.selects RX10 yX10_turned yX10_turned ∈ tp_all := tp_mem 1563 (by decide +kernel) rfl
theorem dL_law_2109 : decode cL_law 2109 = .ok (.aload_n 1, 1) := by decide +kernel
theorem dL_law_2110 : decode cL_law 2110 = .ok (.aload_n 0, 1) := by decide +kernel
theorem dL_law_2111 : decode cL_law 2111 = .ok (.iload 4, 2) := by decide +kernel
theorem dL_law_2113 : decode cL_law 2113 = .ok (.iconst 1, 1) := by decide +kernel
theorem dL_law_2114 : decode cL_law 2114 = .ok (.iadd, 1) := by decide +kernel
theorem dL_law_2115 : decode cL_law 2115 = .ok (.iaload, 1) := by decide +kernel
theorem dL_law_2116 : decode cL_law 2116 = .ok (.aload_n 0, 1) := by decide +kernel
theorem dL_law_2117 : decode cL_law 2117 = .ok (.iload 4, 2) := by decide +kernel
theorem dL_law_2119 : decode cL_law 2119 = .ok (.iconst 2, 1) := by decide +kernel
theorem dL_law_2120 : decode cL_law 2120 = .ok (.iadd, 1) := by decide +kernel
theorem dL_law_2121 : decode cL_law 2121 = .ok (.iaload, 1) := by decide +kernel
theorem dL_law_2122 : decode cL_law 2122 = .ok (.aload_n 3, 1) := by decide +kernel
theorem dL_law_2123 : decode cL_law 2123 = .ok (.invokestatic 244, 3) := by decide +kernel
theorem dL_law_2126 : decode cL_law 2126 = .ok (.istore 5, 2) := by decide +kernel
theorem dL_law_2128 : decode cL_law 2128 = .ok (.aload_n 2, 1) := by decide +kernel
theorem dL_law_2129 : decode cL_law 2129 = .ok (.aload_n 0, 1) := by decide +kernel
theorem dL_law_2130 : decode cL_law 2130 = .ok (.iload 4, 2) := by decide +kernel
theorem dL_law_2132 : decode cL_law 2132 = .ok (.iconst 1, 1) := by decide +kernel
theorem dL_law_2133 : decode cL_law 2133 = .ok (.iadd, 1) := by decide +kernel
theorem dL_law_2134 : decode cL_law 2134 = .ok (.iaload, 1) := by decide +kernel
theorem dL_law_2135 : decode cL_law 2135 = .ok (.aload_n 0, 1) := by decide +kernel
theorem dL_law_2136 : decode cL_law 2136 = .ok (.iload 4, 2) := by decide +kernel
theorem dL_law_2138 : decode cL_law 2138 = .ok (.iconst 2, 1) := by decide +kernel
theorem dL_law_2139 : decode cL_law 2139 = .ok (.iadd, 1) := by decide +kernel
theorem dL_law_2140 : decode cL_law 2140 = .ok (.iaload, 1) := by decide +kernel
theorem dL_law_2141 : decode cL_law 2141 = .ok (.invokevirtual 246, 3) := by decide +kernel
theorem dL_law_2144 : decode cL_law 2144 = .ok (.istore 6, 2) := by decide +kernel
theorem dL_law_2146 : decode cL_law 2146 = .ok (.aload_n 2, 1) := by decide +kernel
theorem dL_law_2147 : decode cL_law 2147 = .ok (.invokevirtual 133, 3) := by decide +kernel
theorem dL_law_2150 : decode cL_law 2150 = .ok (.iload 5, 2) := by decide +kernel
theorem dL_law_2152 : decode cL_law 2152 = .ok (.if_icmp .eq 5, 3) := by decide +kernel
theorem dL_law_2157 : decode cL_law 2157 = .ok (.iload 5, 2) := by decide +kernel
theorem dL_law_2159 : decode cL_law 2159 = .ok (.ifCond .ne 15, 3) := by decide +kernel
theorem dL_law_2174 : decode cL_law 2174 = .ok (.goto 330, 3) := by decide +kernel
set_option maxRecDepth 100000 in
set_option maxHeartbeats 4000000 in
/-- the case 33 -/
theorem tc_33 {p : Program} {l : Launch} {e : Env} {s0 s : State} {m : MethodId} {below : List Frame} {meth : Method} {c : Code} {A : Nat → Prop} (hst : l.stackTraces = false) {dC : Nat → ClassId} {dI : Nat → Nat → Nat} {cy : Nat → ClassId} {b : Nat} {xs : Nat → Int32} {d0 : Drawn} (hd0 : s0.drawn.sameBut d0 lw_cs) (hs : s = s0.setDrawn d0) (C1 : tc_At p s m meth c b #[Value.ref b] A dC dI cy) (hX : va_X b 7 xs s s.heap) {a0 : Nat} {a1 : Nat} {a2 : Nat} {aT : Nat} {b1 : Nat} {b2 : Nat} {b3 : Nat} {b4 : Nat} {b5 : Nat} {b6 : Nat} {b7 : Nat} {m0 : Nat} {w0 : Nat} {o0 : Nat} {r_phases : Nat} {r_phase : Nat} {r_phaseTicks : Nat} {r_set : Nat} {r_least : Nat} {r_greatest : Nat} {r_from : Nat} {r_to : Nat} {r_time : Nat} {r_room : Nat} {r_first : Nat} {r_rate : Nat} {r_cost : Nat} {r_isShut : Nat} {r_slowed : Nat} {r_row : Nat} {r_size : Nat} {r_came : Nat} {r_left : Nat} {r_mostQueue : Nat} {r_sumQueue : Nat} {r_turned : Nat} {r_flowFrom : Nat} {r_flowTo : Nat} {r_kind : Nat} {r_start : Nat} {r_period : Nat} {r_count : Nat} {r_flow : Nat} {r_began : Nat} {r_state : Nat} {r_link : Nat} {r_end : Nat} {r_gone : Nat} {r_trip : Nat} {r_delay : Nat} {r_way : Nat} (H : Heap) (locs : List Loc) (ls : Array Slot) (hP : va_P (dC, dI) vwCl [(a0, .inr (8, [.ref a1, .ref aT])), (a1, .inr (5, [.ref a2, .ref b1, .ref b2, .ref b3, .ref b4, .ref b5, .int 0, .int 1, .int 0, .int 0, .int 0, .int 0])), (a2, .inr (2, [.ref b6, .int 0, .ref b7, .int 0])), (m0, .inr (10, [.ref w0, .int 0])), (w0, .inr (9, [.int 0, .int 1, .int 0, .ref r_phases, .ref r_phase, .ref r_phaseTicks, .ref r_set, .ref r_least, .ref r_greatest, .int 0, .ref r_from, .ref r_to, .ref r_time, .ref r_room, .ref r_first, .ref r_rate, .ref r_cost, .ref r_isShut, .ref r_slowed, .ref r_row, .ref r_size, .ref r_came, .ref r_left, .ref r_mostQueue, .ref r_sumQueue, .ref r_turned, .int 0, .ref r_flowFrom, .ref r_flowTo, .ref r_kind, .ref r_start, .ref r_period, .ref r_count, .int 0, .ref r_flow, .ref r_began, .ref r_state, .ref r_link, .ref r_end, .ref r_gone, .ref r_trip, .ref r_delay, .ref r_way])), (o0, .inl (cy 1, 1, .inr (.inl ((fun _ => 0)))))] H) (hD : va_D A [(a0, .inr (8, [.ref a1, .ref aT])), (a1, .inr (5, [.ref a2, .ref b1, .ref b2, .ref b3, .ref b4, .ref b5, .int 0, .int 1, .int 0, .int 0, .int 0, .int 0])), (a2, .inr (2, [.ref b6, .int 0, .ref b7, .int 0])), (m0, .inr (10, [.ref w0, .int 0])), (w0, .inr (9, [.int 0, .int 1, .int 0, .ref r_phases, .ref r_phase, .ref r_phaseTicks, .ref r_set, .ref r_least, .ref r_greatest, .int 0, .ref r_from, .ref r_to, .ref r_time, .ref r_room, .ref r_first, .ref r_rate, .ref r_cost, .ref r_isShut, .ref r_slowed, .ref r_row, .ref r_size, .ref r_came, .ref r_left, .ref r_mostQueue, .ref r_sumQueue, .ref r_turned, .int 0, .ref r_flowFrom, .ref r_flowTo, .ref r_kind, .ref r_start, .ref r_period, .ref r_count, .int 0, .ref r_flow, .ref r_began, .ref r_state, .ref r_link, .ref r_end, .ref r_gone, .ref r_trip, .ref r_delay, .ref r_way])), (o0, .inl (cy 1, 1, .inr (.inl ((fun _ => 0)))))]) (hS : va_S A s.heap H locs) (hl : lv_has ls 9 [(0, .ref b), (1, .ref a0), (2, .ref m0), (3, .ref o0), (4, .int 0)]) : W p l e room_1 s m #[Value.ref b] below meth c H locs 1535 31585 (lw_Z below #[Value.ref b] s0) (F0 m 2109 ls []) := by
  have C2 := C1
  obtain ⟨hx, hb, hr, hml, hown, hts, hbl, hlocks, hK, hE, hZ, hA, hbA, hA2⟩ := C2
  refine lv_aload_n hx hb dL_law_2109 rfl (lv_at hl 1 rfl) ?_
  refine lv_aload_n hx hb dL_law_2110 rfl (lv_at hl 0 rfl) ?_
  refine lv_iload hx hb dL_law_2111 (lv_at hl 4 rfl) ?_
  refine lv_iconst (v := 1) hx hb dL_law_2113 (by decide) ?_
  refine lv_iadd hx hb dL_law_2114 ?_
  refine va_sld hx hb hX hbl hbA hS (by unfold vp_in; decide) dL_law_2115 ?_
  refine lv_aload_n hx hb dL_law_2116 rfl (lv_at hl 0 rfl) ?_
  refine lv_iload hx hb dL_law_2117 (lv_at hl 4 rfl) ?_
  refine lv_iconst (v := 2) hx hb dL_law_2119 (by decide) ?_
  refine lv_iadd hx hb dL_law_2120 ?_
  refine va_sld hx hb hX hbl hbA hS (by unfold vp_in; decide) dL_law_2121 ?_
  refine lv_aload_n hx hb dL_law_2122 rfl (lv_at hl 3 rfl) ?_
  have hFc := va_free (wc := [(a0, .inr (8, [.ref a1, .ref aT])), (a1, .inr (5, [.ref a2, .ref b1, .ref b2, .ref b3, .ref b4, .ref b5, .int 0, .int 1, .int 0, .int 0, .int 0, .int 0])), (a2, .inr (2, [.ref b6, .int 0, .ref b7, .int 0])), (o0, .inl (cy 1, 1, .inr (.inl ((fun _ => 0)))))]) hD hS hA [0, 1, 2, 5] rfl
  refine vx_calli (vx_runSX (As := [.ref a0, .int (xs (0 + 1 : Int32).toNatClampNeg), .int (xs (0 + 2 : Int32).toNatClampNeg), .ref o0]) (rest := []) ⟨hx, hb, hml, hown, hts⟩ (tm_L_turned l hst dC dI cy a0 a1 a2 aT b1 b2 b3 b4 b5 b6 b7 o0 (xs (0 + 1 : Int32).toNatClampNeg) (xs (0 + 2 : Int32).toNatClampNeg) H.size) (tp_cwSW 4 hts tw_1060 tw_1061 tw_37 tw_1062 rfl rfl (by decide +kernel) ⟨Nat.le_of_ble_eq_true rfl, Nat.le_of_ble_eq_true rfl⟩) ⟨tp_blind, fun U hU hW => ⟨rfl, tp_pay hK hP hD hE hZ hS [0, 1, 2, 5] (by decide) rfl hFc U hU hW⟩⟩ rfl rfl hl.1 rfl (lv_room (Nat.le_of_ble_eq_true rfl)) dL_law_2123 ⟨(Nat.le_of_ble_eq_true rfl), (Nat.le_of_ble_eq_true rfl)⟩) hS (fun q _ h => hFc q h) hFc (fun q _ h => hFc q h) (fun E9 ce q9 u t H1 locs ht hvm hw hB hz1 hk1 hS hce hcv hcl => ?_) (fun r_1 u t H1 locs ht hvm hw hB hz1 hk1 hS => ?_)
  · obtain ⟨hE9, hB⟩ := hB
    exact hE9.elim
  · obtain rfl := hw
    obtain ⟨f_2, hP1, hD1⟩ := hB
    subst f_2
    rw [ht] at hP1
    obtain ⟨hP, hD⟩ := va_join (wr := [(m0, .inr (10, [.ref w0, .int 0])), (w0, .inr (9, [.int 0, .int 1, .int 0, .ref r_phases, .ref r_phase, .ref r_phaseTicks, .ref r_set, .ref r_least, .ref r_greatest, .int 0, .ref r_from, .ref r_to, .ref r_time, .ref r_room, .ref r_first, .ref r_rate, .ref r_cost, .ref r_isShut, .ref r_slowed, .ref r_row, .ref r_size, .ref r_came, .ref r_left, .ref r_mostQueue, .ref r_sumQueue, .ref r_turned, .int 0, .ref r_flowFrom, .ref r_flowTo, .ref r_kind, .ref r_start, .ref r_period, .ref r_count, .int 0, .ref r_flow, .ref r_began, .ref r_state, .ref r_link, .ref r_end, .ref r_gone, .ref r_trip, .ref r_delay, .ref r_way]))]) (w1 := [(o0, .inl (cy 1, 1, .inr (.inl ((fun _ => 0)))))]) hP hD [0, 1, 2, 5] [3, 4] rfl rfl (by decide) (by decide) hk1 hFc hP1 hD1
    generalize H1 = H at hP hS ⊢
    have hP : va_P (dC, dI) vwCl [(m0, .inr (10, [.ref w0, .int 0])), (w0, .inr (9, [.int 0, .int 1, .int 0, .ref r_phases, .ref r_phase, .ref r_phaseTicks, .ref r_set, .ref r_least, .ref r_greatest, .int 0, .ref r_from, .ref r_to, .ref r_time, .ref r_room, .ref r_first, .ref r_rate, .ref r_cost, .ref r_isShut, .ref r_slowed, .ref r_row, .ref r_size, .ref r_came, .ref r_left, .ref r_mostQueue, .ref r_sumQueue, .ref r_turned, .int 0, .ref r_flowFrom, .ref r_flowTo, .ref r_kind, .ref r_start, .ref r_period, .ref r_count, .int 0, .ref r_flow, .ref r_began, .ref r_state, .ref r_link, .ref r_end, .ref r_gone, .ref r_trip, .ref r_delay, .ref r_way])), (o0, .inl (cy 1, 1, .inr (.inl ((fun _ => 0)))))] _ := hP
    have hD : va_D A [(m0, .inr (10, [.ref w0, .int 0])), (w0, .inr (9, [.int 0, .int 1, .int 0, .ref r_phases, .ref r_phase, .ref r_phaseTicks, .ref r_set, .ref r_least, .ref r_greatest, .int 0, .ref r_from, .ref r_to, .ref r_time, .ref r_room, .ref r_first, .ref r_rate, .ref r_cost, .ref r_isShut, .ref r_slowed, .ref r_row, .ref r_size, .ref r_came, .ref r_left, .ref r_mostQueue, .ref r_sumQueue, .ref r_turned, .int 0, .ref r_flowFrom, .ref r_flowTo, .ref r_kind, .ref r_start, .ref r_period, .ref r_count, .int 0, .ref r_flow, .ref r_began, .ref r_state, .ref r_link, .ref r_end, .ref r_gone, .ref r_trip, .ref r_delay, .ref r_way])), (o0, .inl (cy 1, 1, .inr (.inl ((fun _ => 0)))))] := hD
    refine lv_istore (lv' := [(5, .int 1), (0, .ref b), (1, .ref a0), (2, .ref m0), (3, .ref o0), (4, .int 0)]) hx hb dL_law_2126 hl (by decide) rfl (fun ls hl => ?_)
    refine lv_aload_n hx hb dL_law_2128 rfl (lv_at hl 3 rfl) ?_
    refine lv_aload_n hx hb dL_law_2129 rfl (lv_at hl 1 rfl) ?_
    refine lv_iload hx hb dL_law_2130 (lv_at hl 5 rfl) ?_
    refine lv_iconst (v := 1) hx hb dL_law_2132 (by decide) ?_
    refine lv_iadd hx hb dL_law_2133 ?_
    refine va_sld hx hb hX hbl hbA hS (by unfold vp_in; decide) dL_law_2134 ?_
    refine lv_aload_n hx hb dL_law_2135 rfl (lv_at hl 1 rfl) ?_
    refine lv_iload hx hb dL_law_2136 (lv_at hl 5 rfl) ?_
    refine lv_iconst (v := 2) hx hb dL_law_2138 (by decide) ?_
    refine lv_iadd hx hb dL_law_2139 ?_
    refine va_sld hx hb hX hbl hbA hS (by unfold vp_in; decide) dL_law_2140 ?_
    have hFc := va_free (wc := [(m0, .inr (10, [.ref w0, .int 0])), (w0, .inr (9, [.int 0, .int 1, .int 0, .ref r_phases, .ref r_phase, .ref r_phaseTicks, .ref r_set, .ref r_least, .ref r_greatest, .int 0, .ref r_from, .ref r_to, .ref r_time, .ref r_room, .ref r_first, .ref r_rate, .ref r_cost, .ref r_isShut, .ref r_slowed, .ref r_row, .ref r_size, .ref r_came, .ref r_left, .ref r_mostQueue, .ref r_sumQueue, .ref r_turned, .int 0, .ref r_flowFrom, .ref r_flowTo, .ref r_kind, .ref r_start, .ref r_period, .ref r_count, .int 0, .ref r_flow, .ref r_began, .ref r_state, .ref r_link, .ref r_end, .ref r_gone, .ref r_trip, .ref r_delay, .ref r_way]))]) hD hS hA [0, 1] rfl
    refine va_calli (va_runV (As := [.int (xs (0 + 1 : Int32).toNatClampNeg), .int (xs (0 + 2 : Int32).toNatClampNeg)]) (rest := []) ⟨hx, hb, hml, hown, hts⟩ (tm_m_turned l hst dC dI cy m0 w0 0 r_phases r_phase r_phaseTicks r_set r_least r_greatest r_from r_to r_time r_room r_first r_rate r_cost r_isShut r_slowed r_row r_size r_came r_left r_mostQueue r_sumQueue r_turned r_flowFrom r_flowTo r_kind r_start r_period r_count r_flow r_began r_state r_link r_end r_gone r_trip r_delay r_way (xs (0 + 1 : Int32).toNatClampNeg) (xs (0 + 2 : Int32).toNatClampNeg) H.size) (tp_cwV 2 hts tw_1561 tw_1562 tw_1563 tw_48 tw_1564 rfl rfl (by decide +kernel) ⟨Nat.le_of_ble_eq_true rfl, Nat.le_of_ble_eq_true rfl⟩) ⟨tp_blind, va_recv hK hP (ci := 10) (q0 := 0) rfl rfl, fun U hU hW => ⟨rfl, tp_pay hK hP hD hE hZ hS [0, 1] (by decide) rfl hFc U hU hW⟩⟩ rfl rfl hl.1 rfl (lv_room (Nat.le_of_ble_eq_true rfl)) dL_law_2141 ⟨(Nat.le_of_ble_eq_true rfl), (Nat.le_of_ble_eq_true rfl)⟩) hS (fun q _ h => hFc q h) hFc (fun r_3 u t H1 locs ht hvm hw hB hz1 hk1 hS => ?_)
    obtain rfl := hw
    obtain ⟨f_4, hP1, hD1⟩ := hB
    subst f_4
    rw [ht] at hP1
    obtain ⟨hP, hD⟩ := va_join (wr := [(o0, .inl (cy 1, 1, .inr (.inl ((fun _ => 0)))))]) (w1 := [(m0, .inr (10, [.ref w0, .int 1]))]) hP hD [0, 1] [2] rfl rfl (by decide) (by decide) hk1 hFc hP1 hD1
    generalize H1 = H at hP hS ⊢
    have hP : va_P (dC, dI) vwCl [(o0, .inl (cy 1, 1, .inr (.inl ((fun _ => 0))))), (m0, .inr (10, [.ref w0, .int 1]))] _ := hP
    have hD : va_D A [(o0, .inl (cy 1, 1, .inr (.inl ((fun _ => 0))))), (m0, .inr (10, [.ref w0, .int 1]))] := hD
    refine lv_istore (lv' := [(6, .int 0), (5, .int 1), (0, .ref b), (1, .ref a0), (2, .ref m0), (3, .ref o0), (4, .int 0)]) hx hb dL_law_2144 hl (by decide) rfl (fun ls hl => ?_)
    refine lv_aload_n hx hb dL_law_2146 rfl (lv_at hl 4 rfl) ?_
    have hFc := va_free (wc := [(m0, .inr (10, [.ref w0, .int 1]))]) hD hS hA [1] rfl
    refine va_calli (va_runV (As := []) (rest := []) ⟨hx, hb, hml, hown, hts⟩ (tm_m_thrown l hst dC dI cy m0 w0 1 H.size) (tp_cwV 0 hts tw_1317 tw_1318 tw_1319 tw_48 tw_1320 rfl rfl (by decide +kernel) ⟨Nat.le_of_ble_eq_true rfl, Nat.le_of_ble_eq_true rfl⟩) ⟨tp_blind, va_recv hK hP (ci := 10) (q0 := 1) rfl rfl, fun U hU hW => ⟨rfl, tp_pay hK hP hD hE hZ hS [1] (by decide) rfl hFc U hU hW⟩⟩ rfl rfl hl.1 rfl (lv_room (Nat.le_of_ble_eq_true rfl)) dL_law_2147 ⟨(Nat.le_of_ble_eq_true rfl), (Nat.le_of_ble_eq_true rfl)⟩) hS (fun q _ h => hFc q h) hFc (fun r_5 u t H1 locs ht hvm hw hB hz1 hk1 hS => ?_)
    obtain rfl := hw
    obtain ⟨f_6, hP1, hD1⟩ := hB
    subst f_6
    rw [ht] at hP1
    obtain ⟨hP, hD⟩ := va_join (wr := [(o0, .inl (cy 1, 1, .inr (.inl ((fun _ => 0)))))]) (w1 := [(m0, .inr (10, [.ref w0, .int 1]))]) hP hD [1] [0] rfl rfl (by decide) (by decide) hk1 hFc hP1 hD1
    generalize H1 = H at hP hS ⊢
    have hP : va_P (dC, dI) vwCl [(o0, .inl (cy 1, 1, .inr (.inl ((fun _ => 0))))), (m0, .inr (10, [.ref w0, .int 1]))] _ := hP
    have hD : va_D A [(o0, .inl (cy 1, 1, .inr (.inl ((fun _ => 0))))), (m0, .inr (10, [.ref w0, .int 1]))] := hD
    refine lv_iload hx hb dL_law_2150 (lv_at hl 1 rfl) ?_
    refine lv_icmp_eq (tgt := 2157) hx hb dL_law_2152 (by decide) (fun _ => ?_) (fun c_7 => absurd rfl c_7)
    refine lv_iload hx hb dL_law_2157 (lv_at hl 1 rfl) ?_
    refine lv_if_ne (tgt := 2174) hx hb dL_law_2159 (by decide) (fun _ => ?_) (fun c_8 => absurd c_8 (by decide))
    refine lv_goto (tgt := 2504) hx hb dL_law_2174 (by decide) ?_
    exact tc_end hd0 hs C1 hX (Nat.le_of_ble_eq_true rfl) (Nat.le_of_ble_eq_true rfl) H _ ls hS (lv_sub hl [2, 6] rfl)
theorem tw_1066 : Cond.codeWith yL_ofFlow cL_ofFlow 5 (some .int) [(0, 10, 13, 19), (0, 10, 17, 21)] ∈ tp_all := tp_mem 1066 (by decide +kernel) rfl
theorem tw_1064 : Cond.methodLink RL 247 yL_ofFlow ∈ tp_all := tp_mem 1064 (by decide +kernel) rfl
theorem tw_1065 : Cond.static yL_ofFlow ∈ tp_all := tp_mem 1065 (by decide +kernel) rfl
theorem tw_1568 : Cond.code yX10_ofFlow cX10_ofFlow 3 (some .int) ∈ tp_all := tp_mem 1568 (by decide +kernel) rfl
theorem tw_1565 : Cond.methodLink RL 249 yX10_ofFlow ∈ tp_all := tp_mem 1565 (by decide +kernel) rfl
theorem tw_1566 : Cond.instanceMethod yX10_ofFlow ∈ tp_all := tp_mem 1566 (by decide +kernel) rfl
theorem tw_1567 : Cond.selects RX10 yX10_ofFlow yX10_ofFlow ∈ tp_all := tp_mem 1567 (by decide +kernel) rfl
theorem dL_law_2177 : decode cL_law 2177 = .ok (.aload_n 1, 1) := by decide +kernel
theorem dL_law_2178 : decode cL_law 2178 = .ok (.aload_n 0, 1) := by decide +kernel
theorem dL_law_2179 : decode cL_law 2179 = .ok (.iload 4, 2) := by decide +kernel
theorem dL_law_2181 : decode cL_law 2181 = .ok (.iconst 1, 1) := by decide +kernel
theorem dL_law_2182 : decode cL_law 2182 = .ok (.iadd, 1) := by decide +kernel
theorem dL_law_2183 : decode cL_law 2183 = .ok (.iaload, 1) := by decide +kernel
theorem dL_law_2184 : decode cL_law 2184 = .ok (.aload_n 0, 1) := by decide +kernel
theorem dL_law_2185 : decode cL_law 2185 = .ok (.iload 4, 2) := by decide +kernel
theorem dL_law_2187 : decode cL_law 2187 = .ok (.iconst 2, 1) := by decide +kernel
theorem dL_law_2188 : decode cL_law 2188 = .ok (.iadd, 1) := by decide +kernel
theorem dL_law_2189 : decode cL_law 2189 = .ok (.iaload, 1) := by decide +kernel
theorem dL_law_2190 : decode cL_law 2190 = .ok (.aload_n 3, 1) := by decide +kernel
theorem dL_law_2191 : decode cL_law 2191 = .ok (.invokestatic 247, 3) := by decide +kernel
theorem dL_law_2194 : decode cL_law 2194 = .ok (.istore 5, 2) := by decide +kernel
theorem dL_law_2196 : decode cL_law 2196 = .ok (.aload_n 2, 1) := by decide +kernel
theorem dL_law_2197 : decode cL_law 2197 = .ok (.aload_n 0, 1) := by decide +kernel
theorem dL_law_2198 : decode cL_law 2198 = .ok (.iload 4, 2) := by decide +kernel
theorem dL_law_2200 : decode cL_law 2200 = .ok (.iconst 1, 1) := by decide +kernel
theorem dL_law_2201 : decode cL_law 2201 = .ok (.iadd, 1) := by decide +kernel
theorem dL_law_2202 : decode cL_law 2202 = .ok (.iaload, 1) := by decide +kernel
theorem dL_law_2203 : decode cL_law 2203 = .ok (.aload_n 0, 1) := by decide +kernel
theorem dL_law_2204 : decode cL_law 2204 = .ok (.iload 4, 2) := by decide +kernel
theorem dL_law_2206 : decode cL_law 2206 = .ok (.iconst 2, 1) := by decide +kernel
theorem dL_law_2207 : decode cL_law 2207 = .ok (.iadd, 1) := by decide +kernel
theorem dL_law_2208 : decode cL_law 2208 = .ok (.iaload, 1) := by decide +kernel
theorem dL_law_2209 : decode cL_law 2209 = .ok (.invokevirtual 249, 3) := by decide +kernel
theorem dL_law_2212 : decode cL_law 2212 = .ok (.istore 6, 2) := by decide +kernel
theorem dL_law_2214 : decode cL_law 2214 = .ok (.aload_n 2, 1) := by decide +kernel
theorem dL_law_2215 : decode cL_law 2215 = .ok (.invokevirtual 133, 3) := by decide +kernel
theorem dL_law_2218 : decode cL_law 2218 = .ok (.iload 5, 2) := by decide +kernel
theorem dL_law_2220 : decode cL_law 2220 = .ok (.if_icmp .eq 5, 3) := by decide +kernel
theorem dL_law_2225 : decode cL_law 2225 = .ok (.iload 5, 2) := by decide +kernel
theorem dL_law_2227 : decode cL_law 2227 = .ok (.ifCond .ne 15, 3) := by decide +kernel
theorem dL_law_2242 : decode cL_law 2242 = .ok (.goto 262, 3) := by decide +kernel
set_option maxRecDepth 100000 in
set_option maxHeartbeats 4000000 in
/-- the case 34 -/
theorem tc_34 {p : Program} {l : Launch} {e : Env} {s0 s : State} {m : MethodId} {below : List Frame} {meth : Method} {c : Code} {A : Nat → Prop} (hst : l.stackTraces = false) {dC : Nat → ClassId} {dI : Nat → Nat → Nat} {cy : Nat → ClassId} {b : Nat} {xs : Nat → Int32} {d0 : Drawn} (hd0 : s0.drawn.sameBut d0 lw_cs) (hs : s = s0.setDrawn d0) (C1 : tc_At p s m meth c b #[Value.ref b] A dC dI cy) (hX : va_X b 7 xs s s.heap) {a0 : Nat} {a1 : Nat} {a2 : Nat} {aT : Nat} {b1 : Nat} {b2 : Nat} {b3 : Nat} {b4 : Nat} {b5 : Nat} {b6 : Nat} {b7 : Nat} {m0 : Nat} {w0 : Nat} {o0 : Nat} {r_phases : Nat} {r_phase : Nat} {r_phaseTicks : Nat} {r_set : Nat} {r_least : Nat} {r_greatest : Nat} {r_from : Nat} {r_to : Nat} {r_time : Nat} {r_room : Nat} {r_first : Nat} {r_rate : Nat} {r_cost : Nat} {r_isShut : Nat} {r_slowed : Nat} {r_row : Nat} {r_size : Nat} {r_came : Nat} {r_left : Nat} {r_mostQueue : Nat} {r_sumQueue : Nat} {r_turned : Nat} {r_flowFrom : Nat} {r_flowTo : Nat} {r_kind : Nat} {r_start : Nat} {r_period : Nat} {r_count : Nat} {r_flow : Nat} {r_began : Nat} {r_state : Nat} {r_link : Nat} {r_end : Nat} {r_gone : Nat} {r_trip : Nat} {r_delay : Nat} {r_way : Nat} (H : Heap) (locs : List Loc) (ls : Array Slot) (hP : va_P (dC, dI) vwCl [(a0, .inr (8, [.ref a1, .ref aT])), (a1, .inr (5, [.ref a2, .ref b1, .ref b2, .ref b3, .ref b4, .ref b5, .int 0, .int 1, .int 0, .int 0, .int 0, .int 0])), (a2, .inr (2, [.ref b6, .int 0, .ref b7, .int 0])), (m0, .inr (10, [.ref w0, .int 0])), (w0, .inr (9, [.int 0, .int 1, .int 0, .ref r_phases, .ref r_phase, .ref r_phaseTicks, .ref r_set, .ref r_least, .ref r_greatest, .int 0, .ref r_from, .ref r_to, .ref r_time, .ref r_room, .ref r_first, .ref r_rate, .ref r_cost, .ref r_isShut, .ref r_slowed, .ref r_row, .ref r_size, .ref r_came, .ref r_left, .ref r_mostQueue, .ref r_sumQueue, .ref r_turned, .int 0, .ref r_flowFrom, .ref r_flowTo, .ref r_kind, .ref r_start, .ref r_period, .ref r_count, .int 0, .ref r_flow, .ref r_began, .ref r_state, .ref r_link, .ref r_end, .ref r_gone, .ref r_trip, .ref r_delay, .ref r_way])), (o0, .inl (cy 1, 1, .inr (.inl ((fun _ => 0)))))] H) (hD : va_D A [(a0, .inr (8, [.ref a1, .ref aT])), (a1, .inr (5, [.ref a2, .ref b1, .ref b2, .ref b3, .ref b4, .ref b5, .int 0, .int 1, .int 0, .int 0, .int 0, .int 0])), (a2, .inr (2, [.ref b6, .int 0, .ref b7, .int 0])), (m0, .inr (10, [.ref w0, .int 0])), (w0, .inr (9, [.int 0, .int 1, .int 0, .ref r_phases, .ref r_phase, .ref r_phaseTicks, .ref r_set, .ref r_least, .ref r_greatest, .int 0, .ref r_from, .ref r_to, .ref r_time, .ref r_room, .ref r_first, .ref r_rate, .ref r_cost, .ref r_isShut, .ref r_slowed, .ref r_row, .ref r_size, .ref r_came, .ref r_left, .ref r_mostQueue, .ref r_sumQueue, .ref r_turned, .int 0, .ref r_flowFrom, .ref r_flowTo, .ref r_kind, .ref r_start, .ref r_period, .ref r_count, .int 0, .ref r_flow, .ref r_began, .ref r_state, .ref r_link, .ref r_end, .ref r_gone, .ref r_trip, .ref r_delay, .ref r_way])), (o0, .inl (cy 1, 1, .inr (.inl ((fun _ => 0)))))]) (hS : va_S A s.heap H locs) (hl : lv_has ls 9 [(0, .ref b), (1, .ref a0), (2, .ref m0), (3, .ref o0), (4, .int 0)]) : W p l e room_1 s m #[Value.ref b] below meth c H locs 1535 31585 (lw_Z below #[Value.ref b] s0) (F0 m 2177 ls []) := by
  have C2 := C1
  obtain ⟨hx, hb, hr, hml, hown, hts, hbl, hlocks, hK, hE, hZ, hA, hbA, hA2⟩ := C2
  refine lv_aload_n hx hb dL_law_2177 rfl (lv_at hl 1 rfl) ?_
  refine lv_aload_n hx hb dL_law_2178 rfl (lv_at hl 0 rfl) ?_
  refine lv_iload hx hb dL_law_2179 (lv_at hl 4 rfl) ?_
  refine lv_iconst (v := 1) hx hb dL_law_2181 (by decide) ?_
  refine lv_iadd hx hb dL_law_2182 ?_
  refine va_sld hx hb hX hbl hbA hS (by unfold vp_in; decide) dL_law_2183 ?_
  refine lv_aload_n hx hb dL_law_2184 rfl (lv_at hl 0 rfl) ?_
  refine lv_iload hx hb dL_law_2185 (lv_at hl 4 rfl) ?_
  refine lv_iconst (v := 2) hx hb dL_law_2187 (by decide) ?_
  refine lv_iadd hx hb dL_law_2188 ?_
  refine va_sld hx hb hX hbl hbA hS (by unfold vp_in; decide) dL_law_2189 ?_
  refine lv_aload_n hx hb dL_law_2190 rfl (lv_at hl 3 rfl) ?_
  have hFc := va_free (wc := [(a0, .inr (8, [.ref a1, .ref aT])), (a1, .inr (5, [.ref a2, .ref b1, .ref b2, .ref b3, .ref b4, .ref b5, .int 0, .int 1, .int 0, .int 0, .int 0, .int 0])), (a2, .inr (2, [.ref b6, .int 0, .ref b7, .int 0])), (o0, .inl (cy 1, 1, .inr (.inl ((fun _ => 0)))))]) hD hS hA [0, 1, 2, 5] rfl
  refine vx_calli (vx_runSX (As := [.ref a0, .int (xs (0 + 1 : Int32).toNatClampNeg), .int (xs (0 + 2 : Int32).toNatClampNeg), .ref o0]) (rest := []) ⟨hx, hb, hml, hown, hts⟩ (tm_L_ofFlow l hst dC dI cy a0 a1 a2 aT b1 b2 b3 b4 b5 b6 b7 o0 (xs (0 + 1 : Int32).toNatClampNeg) (xs (0 + 2 : Int32).toNatClampNeg) H.size) (tp_cwSW 4 hts tw_1064 tw_1065 tw_37 tw_1066 rfl rfl (by decide +kernel) ⟨Nat.le_of_ble_eq_true rfl, Nat.le_of_ble_eq_true rfl⟩) ⟨tp_blind, fun U hU hW => ⟨rfl, tp_pay hK hP hD hE hZ hS [0, 1, 2, 5] (by decide) rfl hFc U hU hW⟩⟩ rfl rfl hl.1 rfl (lv_room (Nat.le_of_ble_eq_true rfl)) dL_law_2191 ⟨(Nat.le_of_ble_eq_true rfl), (Nat.le_of_ble_eq_true rfl)⟩) hS (fun q _ h => hFc q h) hFc (fun q _ h => hFc q h) (fun E9 ce q9 u t H1 locs ht hvm hw hB hz1 hk1 hS hce hcv hcl => ?_) (fun r_1 u t H1 locs ht hvm hw hB hz1 hk1 hS => ?_)
  · obtain ⟨hE9, hB⟩ := hB
    exact hE9.elim
  · obtain rfl := hw
    obtain ⟨f_2, hP1, hD1⟩ := hB
    subst f_2
    rw [ht] at hP1
    obtain ⟨hP, hD⟩ := va_join (wr := [(m0, .inr (10, [.ref w0, .int 0])), (w0, .inr (9, [.int 0, .int 1, .int 0, .ref r_phases, .ref r_phase, .ref r_phaseTicks, .ref r_set, .ref r_least, .ref r_greatest, .int 0, .ref r_from, .ref r_to, .ref r_time, .ref r_room, .ref r_first, .ref r_rate, .ref r_cost, .ref r_isShut, .ref r_slowed, .ref r_row, .ref r_size, .ref r_came, .ref r_left, .ref r_mostQueue, .ref r_sumQueue, .ref r_turned, .int 0, .ref r_flowFrom, .ref r_flowTo, .ref r_kind, .ref r_start, .ref r_period, .ref r_count, .int 0, .ref r_flow, .ref r_began, .ref r_state, .ref r_link, .ref r_end, .ref r_gone, .ref r_trip, .ref r_delay, .ref r_way]))]) (w1 := [(o0, .inl (cy 1, 1, .inr (.inl ((fun _ => 0)))))]) hP hD [0, 1, 2, 5] [3, 4] rfl rfl (by decide) (by decide) hk1 hFc hP1 hD1
    generalize H1 = H at hP hS ⊢
    have hP : va_P (dC, dI) vwCl [(m0, .inr (10, [.ref w0, .int 0])), (w0, .inr (9, [.int 0, .int 1, .int 0, .ref r_phases, .ref r_phase, .ref r_phaseTicks, .ref r_set, .ref r_least, .ref r_greatest, .int 0, .ref r_from, .ref r_to, .ref r_time, .ref r_room, .ref r_first, .ref r_rate, .ref r_cost, .ref r_isShut, .ref r_slowed, .ref r_row, .ref r_size, .ref r_came, .ref r_left, .ref r_mostQueue, .ref r_sumQueue, .ref r_turned, .int 0, .ref r_flowFrom, .ref r_flowTo, .ref r_kind, .ref r_start, .ref r_period, .ref r_count, .int 0, .ref r_flow, .ref r_began, .ref r_state, .ref r_link, .ref r_end, .ref r_gone, .ref r_trip, .ref r_delay, .ref r_way])), (o0, .inl (cy 1, 1, .inr (.inl ((fun _ => 0)))))] _ := hP
    have hD : va_D A [(m0, .inr (10, [.ref w0, .int 0])), (w0, .inr (9, [.int 0, .int 1, .int 0, .ref r_phases, .ref r_phase, .ref r_phaseTicks, .ref r_set, .ref r_least, .ref r_greatest, .int 0, .ref r_from, .ref r_to, .ref r_time, .ref r_room, .ref r_first, .ref r_rate, .ref r_cost, .ref r_isShut, .ref r_slowed, .ref r_row, .ref r_size, .ref r_came, .ref r_left, .ref r_mostQueue, .ref r_sumQueue, .ref r_turned, .int 0, .ref r_flowFrom, .ref r_flowTo, .ref r_kind, .ref r_start, .ref r_period, .ref r_count, .int 0, .ref r_flow, .ref r_began, .ref r_state, .ref r_link, .ref r_end, .ref r_gone, .ref r_trip, .ref r_delay, .ref r_way])), (o0, .inl (cy 1, 1, .inr (.inl ((fun _ => 0)))))] := hD
    refine lv_istore (lv' := [(5, .int 1), (0, .ref b), (1, .ref a0), (2, .ref m0), (3, .ref o0), (4, .int 0)]) hx hb dL_law_2194 hl (by decide) rfl (fun ls hl => ?_)
    refine lv_aload_n hx hb dL_law_2196 rfl (lv_at hl 3 rfl) ?_
    refine lv_aload_n hx hb dL_law_2197 rfl (lv_at hl 1 rfl) ?_
    refine lv_iload hx hb dL_law_2198 (lv_at hl 5 rfl) ?_
    refine lv_iconst (v := 1) hx hb dL_law_2200 (by decide) ?_
    refine lv_iadd hx hb dL_law_2201 ?_
    refine va_sld hx hb hX hbl hbA hS (by unfold vp_in; decide) dL_law_2202 ?_
    refine lv_aload_n hx hb dL_law_2203 rfl (lv_at hl 1 rfl) ?_
    refine lv_iload hx hb dL_law_2204 (lv_at hl 5 rfl) ?_
    refine lv_iconst (v := 2) hx hb dL_law_2206 (by decide) ?_
    refine lv_iadd hx hb dL_law_2207 ?_
    refine va_sld hx hb hX hbl hbA hS (by unfold vp_in; decide) dL_law_2208 ?_
    have hFc := va_free (wc := [(m0, .inr (10, [.ref w0, .int 0])), (w0, .inr (9, [.int 0, .int 1, .int 0, .ref r_phases, .ref r_phase, .ref r_phaseTicks, .ref r_set, .ref r_least, .ref r_greatest, .int 0, .ref r_from, .ref r_to, .ref r_time, .ref r_room, .ref r_first, .ref r_rate, .ref r_cost, .ref r_isShut, .ref r_slowed, .ref r_row, .ref r_size, .ref r_came, .ref r_left, .ref r_mostQueue, .ref r_sumQueue, .ref r_turned, .int 0, .ref r_flowFrom, .ref r_flowTo, .ref r_kind, .ref r_start, .ref r_period, .ref r_count, .int 0, .ref r_flow, .ref r_began, .ref r_state, .ref r_link, .ref r_end, .ref r_gone, .ref r_trip, .ref r_delay, .ref r_way]))]) hD hS hA [0, 1] rfl
    refine va_calli (va_runV (As := [.int (xs (0 + 1 : Int32).toNatClampNeg), .int (xs (0 + 2 : Int32).toNatClampNeg)]) (rest := []) ⟨hx, hb, hml, hown, hts⟩ (tm_m_ofFlow l hst dC dI cy m0 w0 0 r_phases r_phase r_phaseTicks r_set r_least r_greatest r_from r_to r_time r_room r_first r_rate r_cost r_isShut r_slowed r_row r_size r_came r_left r_mostQueue r_sumQueue r_turned r_flowFrom r_flowTo r_kind r_start r_period r_count r_flow r_began r_state r_link r_end r_gone r_trip r_delay r_way (xs (0 + 1 : Int32).toNatClampNeg) (xs (0 + 2 : Int32).toNatClampNeg) H.size) (tp_cwV 2 hts tw_1565 tw_1566 tw_1567 tw_48 tw_1568 rfl rfl (by decide +kernel) ⟨Nat.le_of_ble_eq_true rfl, Nat.le_of_ble_eq_true rfl⟩) ⟨tp_blind, va_recv hK hP (ci := 10) (q0 := 0) rfl rfl, fun U hU hW => ⟨rfl, tp_pay hK hP hD hE hZ hS [0, 1] (by decide) rfl hFc U hU hW⟩⟩ rfl rfl hl.1 rfl (lv_room (Nat.le_of_ble_eq_true rfl)) dL_law_2209 ⟨(Nat.le_of_ble_eq_true rfl), (Nat.le_of_ble_eq_true rfl)⟩) hS (fun q _ h => hFc q h) hFc (fun r_3 u t H1 locs ht hvm hw hB hz1 hk1 hS => ?_)
    obtain rfl := hw
    obtain ⟨f_4, hP1, hD1⟩ := hB
    subst f_4
    rw [ht] at hP1
    obtain ⟨hP, hD⟩ := va_join (wr := [(o0, .inl (cy 1, 1, .inr (.inl ((fun _ => 0)))))]) (w1 := [(m0, .inr (10, [.ref w0, .int 1]))]) hP hD [0, 1] [2] rfl rfl (by decide) (by decide) hk1 hFc hP1 hD1
    generalize H1 = H at hP hS ⊢
    have hP : va_P (dC, dI) vwCl [(o0, .inl (cy 1, 1, .inr (.inl ((fun _ => 0))))), (m0, .inr (10, [.ref w0, .int 1]))] _ := hP
    have hD : va_D A [(o0, .inl (cy 1, 1, .inr (.inl ((fun _ => 0))))), (m0, .inr (10, [.ref w0, .int 1]))] := hD
    refine lv_istore (lv' := [(6, .int 0), (5, .int 1), (0, .ref b), (1, .ref a0), (2, .ref m0), (3, .ref o0), (4, .int 0)]) hx hb dL_law_2212 hl (by decide) rfl (fun ls hl => ?_)
    refine lv_aload_n hx hb dL_law_2214 rfl (lv_at hl 4 rfl) ?_
    have hFc := va_free (wc := [(m0, .inr (10, [.ref w0, .int 1]))]) hD hS hA [1] rfl
    refine va_calli (va_runV (As := []) (rest := []) ⟨hx, hb, hml, hown, hts⟩ (tm_m_thrown l hst dC dI cy m0 w0 1 H.size) (tp_cwV 0 hts tw_1317 tw_1318 tw_1319 tw_48 tw_1320 rfl rfl (by decide +kernel) ⟨Nat.le_of_ble_eq_true rfl, Nat.le_of_ble_eq_true rfl⟩) ⟨tp_blind, va_recv hK hP (ci := 10) (q0 := 1) rfl rfl, fun U hU hW => ⟨rfl, tp_pay hK hP hD hE hZ hS [1] (by decide) rfl hFc U hU hW⟩⟩ rfl rfl hl.1 rfl (lv_room (Nat.le_of_ble_eq_true rfl)) dL_law_2215 ⟨(Nat.le_of_ble_eq_true rfl), (Nat.le_of_ble_eq_true rfl)⟩) hS (fun q _ h => hFc q h) hFc (fun r_5 u t H1 locs ht hvm hw hB hz1 hk1 hS => ?_)
    obtain rfl := hw
    obtain ⟨f_6, hP1, hD1⟩ := hB
    subst f_6
    rw [ht] at hP1
    obtain ⟨hP, hD⟩ := va_join (wr := [(o0, .inl (cy 1, 1, .inr (.inl ((fun _ => 0)))))]) (w1 := [(m0, .inr (10, [.ref w0, .int 1]))]) hP hD [1] [0] rfl rfl (by decide) (by decide) hk1 hFc hP1 hD1
    generalize H1 = H at hP hS ⊢
    have hP : va_P (dC, dI) vwCl [(o0, .inl (cy 1, 1, .inr (.inl ((fun _ => 0))))), (m0, .inr (10, [.ref w0, .int 1]))] _ := hP
    have hD : va_D A [(o0, .inl (cy 1, 1, .inr (.inl ((fun _ => 0))))), (m0, .inr (10, [.ref w0, .int 1]))] := hD
    refine lv_iload hx hb dL_law_2218 (lv_at hl 1 rfl) ?_
    refine lv_icmp_eq (tgt := 2225) hx hb dL_law_2220 (by decide) (fun _ => ?_) (fun c_7 => absurd rfl c_7)
    refine lv_iload hx hb dL_law_2225 (lv_at hl 1 rfl) ?_
    refine lv_if_ne (tgt := 2242) hx hb dL_law_2227 (by decide) (fun _ => ?_) (fun c_8 => absurd c_8 (by decide))
    refine lv_goto (tgt := 2504) hx hb dL_law_2242 (by decide) ?_
    exact tc_end hd0 hs C1 hX (Nat.le_of_ble_eq_true rfl) (Nat.le_of_ble_eq_true rfl) H _ ls hS (lv_sub hl [2, 6] rfl)
theorem tw_436 : Cond.code yX8_meanTrip cX8_meanTrip 5 (some .double) ∈ tp_all := tp_mem 436 (by decide +kernel) rfl
theorem tw_433 : Cond.methodLink RL 250 yX8_meanTrip ∈ tp_all := tp_mem 433 (by decide +kernel) rfl
theorem tw_434 : Cond.instanceMethod yX8_meanTrip ∈ tp_all := tp_mem 434 (by decide +kernel) rfl
theorem tw_435 : Cond.selects RX8 yX8_meanTrip yX8_meanTrip ∈ tp_all := tp_mem 435 (by decide +kernel) rfl
theorem tw_1576 : Cond.code yX10_meanTrip cX10_meanTrip 4 (some .double) ∈ tp_all := tp_mem 1576 (by decide +kernel) rfl
theorem tw_1573 : Cond.methodLink RL 254 yX10_meanTrip ∈ tp_all := tp_mem 1573 (by decide +kernel) rfl
theorem tw_1574 : Cond.instanceMethod yX10_meanTrip ∈ tp_all := tp_mem 1574 (by decide +kernel) rfl
theorem tw_1575 : Cond.selects RX10 yX10_meanTrip yX10_meanTrip ∈ tp_all := tp_mem 1575 (by decide +kernel) rfl
theorem dL_law_2245 : decode cL_law 2245 = .ok (.aload_n 1, 1) := by decide +kernel
theorem dL_law_2246 : decode cL_law 2246 = .ok (.invokevirtual 250, 3) := by decide +kernel
theorem dL_law_2249 : decode cL_law 2249 = .ok (.dstore 5, 2) := by decide +kernel
theorem dL_law_2251 : decode cL_law 2251 = .ok (.aload_n 2, 1) := by decide +kernel
theorem dL_law_2252 : decode cL_law 2252 = .ok (.invokevirtual 254, 3) := by decide +kernel
theorem dL_law_2255 : decode cL_law 2255 = .ok (.dstore 7, 2) := by decide +kernel
theorem dL_law_2257 : decode cL_law 2257 = .ok (.dload 5, 2) := by decide +kernel
theorem dL_law_2259 : decode cL_law 2259 = .ok (.dload 7, 2) := by decide +kernel
theorem dL_law_2261 : decode cL_law 2261 = .ok (.dcmp .l, 1) := by decide +kernel
theorem dL_law_2262 : decode cL_law 2262 = .ok (.ifCond .eq 21, 3) := by decide +kernel
theorem dL_law_2283 : decode cL_law 2283 = .ok (.goto 221, 3) := by decide +kernel
set_option maxRecDepth 100000 in
set_option maxHeartbeats 4000000 in
/-- the case 35 -/
theorem tc_35 {p : Program} {l : Launch} {e : Env} {s0 s : State} {m : MethodId} {below : List Frame} {meth : Method} {c : Code} {A : Nat → Prop} (hst : l.stackTraces = false) {dC : Nat → ClassId} {dI : Nat → Nat → Nat} {cy : Nat → ClassId} {b : Nat} {xs : Nat → Int32} {d0 : Drawn} (hd0 : s0.drawn.sameBut d0 lw_cs) (hs : s = s0.setDrawn d0) (C1 : tc_At p s m meth c b #[Value.ref b] A dC dI cy) (hX : va_X b 7 xs s s.heap) {a0 : Nat} {a1 : Nat} {a2 : Nat} {aT : Nat} {b1 : Nat} {b2 : Nat} {b3 : Nat} {b4 : Nat} {b5 : Nat} {b6 : Nat} {b7 : Nat} {m0 : Nat} {w0 : Nat} {o0 : Nat} {r_phases : Nat} {r_phase : Nat} {r_phaseTicks : Nat} {r_set : Nat} {r_least : Nat} {r_greatest : Nat} {r_from : Nat} {r_to : Nat} {r_time : Nat} {r_room : Nat} {r_first : Nat} {r_rate : Nat} {r_cost : Nat} {r_isShut : Nat} {r_slowed : Nat} {r_row : Nat} {r_size : Nat} {r_came : Nat} {r_left : Nat} {r_mostQueue : Nat} {r_sumQueue : Nat} {r_turned : Nat} {r_flowFrom : Nat} {r_flowTo : Nat} {r_kind : Nat} {r_start : Nat} {r_period : Nat} {r_count : Nat} {r_flow : Nat} {r_began : Nat} {r_state : Nat} {r_link : Nat} {r_end : Nat} {r_gone : Nat} {r_trip : Nat} {r_delay : Nat} {r_way : Nat} (H : Heap) (locs : List Loc) (ls : Array Slot) (hP : va_P (dC, dI) vwCl [(a0, .inr (8, [.ref a1, .ref aT])), (a1, .inr (5, [.ref a2, .ref b1, .ref b2, .ref b3, .ref b4, .ref b5, .int 0, .int 1, .int 0, .int 0, .int 0, .int 0])), (a2, .inr (2, [.ref b6, .int 0, .ref b7, .int 0])), (m0, .inr (10, [.ref w0, .int 0])), (w0, .inr (9, [.int 0, .int 1, .int 0, .ref r_phases, .ref r_phase, .ref r_phaseTicks, .ref r_set, .ref r_least, .ref r_greatest, .int 0, .ref r_from, .ref r_to, .ref r_time, .ref r_room, .ref r_first, .ref r_rate, .ref r_cost, .ref r_isShut, .ref r_slowed, .ref r_row, .ref r_size, .ref r_came, .ref r_left, .ref r_mostQueue, .ref r_sumQueue, .ref r_turned, .int 0, .ref r_flowFrom, .ref r_flowTo, .ref r_kind, .ref r_start, .ref r_period, .ref r_count, .int 0, .ref r_flow, .ref r_began, .ref r_state, .ref r_link, .ref r_end, .ref r_gone, .ref r_trip, .ref r_delay, .ref r_way])), (o0, .inl (cy 1, 1, .inr (.inl ((fun _ => 0)))))] H) (hD : va_D A [(a0, .inr (8, [.ref a1, .ref aT])), (a1, .inr (5, [.ref a2, .ref b1, .ref b2, .ref b3, .ref b4, .ref b5, .int 0, .int 1, .int 0, .int 0, .int 0, .int 0])), (a2, .inr (2, [.ref b6, .int 0, .ref b7, .int 0])), (m0, .inr (10, [.ref w0, .int 0])), (w0, .inr (9, [.int 0, .int 1, .int 0, .ref r_phases, .ref r_phase, .ref r_phaseTicks, .ref r_set, .ref r_least, .ref r_greatest, .int 0, .ref r_from, .ref r_to, .ref r_time, .ref r_room, .ref r_first, .ref r_rate, .ref r_cost, .ref r_isShut, .ref r_slowed, .ref r_row, .ref r_size, .ref r_came, .ref r_left, .ref r_mostQueue, .ref r_sumQueue, .ref r_turned, .int 0, .ref r_flowFrom, .ref r_flowTo, .ref r_kind, .ref r_start, .ref r_period, .ref r_count, .int 0, .ref r_flow, .ref r_began, .ref r_state, .ref r_link, .ref r_end, .ref r_gone, .ref r_trip, .ref r_delay, .ref r_way])), (o0, .inl (cy 1, 1, .inr (.inl ((fun _ => 0)))))]) (hS : va_S A s.heap H locs) (hl : lv_has ls 9 [(0, .ref b), (1, .ref a0), (2, .ref m0), (3, .ref o0), (4, .int 0)]) : W p l e room_1 s m #[Value.ref b] below meth c H locs 1535 31585 (lw_Z below #[Value.ref b] s0) (F0 m 2245 ls []) := by
  have C2 := C1
  obtain ⟨hx, hb, hr, hml, hown, hts, hbl, hlocks, hK, hE, hZ, hA, hbA, hA2⟩ := C2
  refine lv_aload_n hx hb dL_law_2245 rfl (lv_at hl 1 rfl) ?_
  have hFc := va_free (wc := [(a0, .inr (8, [.ref a1, .ref aT])), (a1, .inr (5, [.ref a2, .ref b1, .ref b2, .ref b3, .ref b4, .ref b5, .int 0, .int 1, .int 0, .int 0, .int 0, .int 0])), (a2, .inr (2, [.ref b6, .int 0, .ref b7, .int 0]))]) hD hS hA [0, 1, 2] rfl
  refine va_calld (va_runV (As := []) (rest := []) ⟨hx, hb, hml, hown, hts⟩ (tm_meanTrip l hst dC dI cy a0 a1 a2 aT b1 b2 b3 b4 b5 b6 b7 H.size) (tp_cwV 0 hts tw_433 tw_434 tw_435 tw_38 tw_436 rfl rfl (by decide +kernel) ⟨Nat.le_of_ble_eq_true rfl, Nat.le_of_ble_eq_true rfl⟩) ⟨tp_blind, va_recv hK hP (ci := 8) (q0 := 0) rfl rfl, fun U hU hW => ⟨rfl, tp_pay hK hP hD hE hZ hS [0, 1, 2] (by decide) rfl hFc U hU hW⟩⟩ rfl rfl hl.1 rfl (lv_room (Nat.le_of_ble_eq_true rfl)) dL_law_2246 ⟨(Nat.le_of_ble_eq_true rfl), (Nat.le_of_ble_eq_true rfl)⟩) hS (fun q _ h => hFc q h) hFc (fun r_1 u t H1 locs ht hvm hw hB hz1 hk1 hS => ?_)
  obtain rfl := hw
  obtain ⟨f_2, hP1, hD1⟩ := hB
  subst f_2
  rw [ht] at hP1
  obtain ⟨hP, hD⟩ := va_join (wr := [(m0, .inr (10, [.ref w0, .int 0])), (w0, .inr (9, [.int 0, .int 1, .int 0, .ref r_phases, .ref r_phase, .ref r_phaseTicks, .ref r_set, .ref r_least, .ref r_greatest, .int 0, .ref r_from, .ref r_to, .ref r_time, .ref r_room, .ref r_first, .ref r_rate, .ref r_cost, .ref r_isShut, .ref r_slowed, .ref r_row, .ref r_size, .ref r_came, .ref r_left, .ref r_mostQueue, .ref r_sumQueue, .ref r_turned, .int 0, .ref r_flowFrom, .ref r_flowTo, .ref r_kind, .ref r_start, .ref r_period, .ref r_count, .int 0, .ref r_flow, .ref r_began, .ref r_state, .ref r_link, .ref r_end, .ref r_gone, .ref r_trip, .ref r_delay, .ref r_way])), (o0, .inl (cy 1, 1, .inr (.inl ((fun _ => 0)))))]) (w1 := []) hP hD [0, 1, 2] [3, 4, 5] rfl rfl (by decide) (by decide) hk1 hFc hP1 hD1
  generalize H1 = H at hP hS ⊢
  have hP : va_P (dC, dI) vwCl [(m0, .inr (10, [.ref w0, .int 0])), (w0, .inr (9, [.int 0, .int 1, .int 0, .ref r_phases, .ref r_phase, .ref r_phaseTicks, .ref r_set, .ref r_least, .ref r_greatest, .int 0, .ref r_from, .ref r_to, .ref r_time, .ref r_room, .ref r_first, .ref r_rate, .ref r_cost, .ref r_isShut, .ref r_slowed, .ref r_row, .ref r_size, .ref r_came, .ref r_left, .ref r_mostQueue, .ref r_sumQueue, .ref r_turned, .int 0, .ref r_flowFrom, .ref r_flowTo, .ref r_kind, .ref r_start, .ref r_period, .ref r_count, .int 0, .ref r_flow, .ref r_began, .ref r_state, .ref r_link, .ref r_end, .ref r_gone, .ref r_trip, .ref r_delay, .ref r_way])), (o0, .inl (cy 1, 1, .inr (.inl ((fun _ => 0)))))] _ := hP
  have hD : va_D A [(m0, .inr (10, [.ref w0, .int 0])), (w0, .inr (9, [.int 0, .int 1, .int 0, .ref r_phases, .ref r_phase, .ref r_phaseTicks, .ref r_set, .ref r_least, .ref r_greatest, .int 0, .ref r_from, .ref r_to, .ref r_time, .ref r_room, .ref r_first, .ref r_rate, .ref r_cost, .ref r_isShut, .ref r_slowed, .ref r_row, .ref r_size, .ref r_came, .ref r_left, .ref r_mostQueue, .ref r_sumQueue, .ref r_turned, .int 0, .ref r_flowFrom, .ref r_flowTo, .ref r_kind, .ref r_start, .ref r_period, .ref r_count, .int 0, .ref r_flow, .ref r_began, .ref r_state, .ref r_link, .ref r_end, .ref r_gone, .ref r_trip, .ref r_delay, .ref r_way])), (o0, .inl (cy 1, 1, .inr (.inl ((fun _ => 0)))))] := hD
  refine lv_dstore (lv' := [(5, .double 0), (0, .ref b), (1, .ref a0), (2, .ref m0), (3, .ref o0), (4, .int 0)]) hx hb dL_law_2249 hl (by decide) rfl (fun ls hl => ?_)
  refine lv_aload_n hx hb dL_law_2251 rfl (lv_at hl 3 rfl) ?_
  have hFc := va_free (wc := [(m0, .inr (10, [.ref w0, .int 0])), (w0, .inr (9, [.int 0, .int 1, .int 0, .ref r_phases, .ref r_phase, .ref r_phaseTicks, .ref r_set, .ref r_least, .ref r_greatest, .int 0, .ref r_from, .ref r_to, .ref r_time, .ref r_room, .ref r_first, .ref r_rate, .ref r_cost, .ref r_isShut, .ref r_slowed, .ref r_row, .ref r_size, .ref r_came, .ref r_left, .ref r_mostQueue, .ref r_sumQueue, .ref r_turned, .int 0, .ref r_flowFrom, .ref r_flowTo, .ref r_kind, .ref r_start, .ref r_period, .ref r_count, .int 0, .ref r_flow, .ref r_began, .ref r_state, .ref r_link, .ref r_end, .ref r_gone, .ref r_trip, .ref r_delay, .ref r_way]))]) hD hS hA [0, 1] rfl
  refine va_calld (va_runV (As := []) (rest := []) ⟨hx, hb, hml, hown, hts⟩ (tm_m_meanTrip l hst dC dI cy m0 w0 0 r_phases r_phase r_phaseTicks r_set r_least r_greatest r_from r_to r_time r_room r_first r_rate r_cost r_isShut r_slowed r_row r_size r_came r_left r_mostQueue r_sumQueue r_turned r_flowFrom r_flowTo r_kind r_start r_period r_count r_flow r_began r_state r_link r_end r_gone r_trip r_delay r_way H.size) (tp_cwV 0 hts tw_1573 tw_1574 tw_1575 tw_48 tw_1576 rfl rfl (by decide +kernel) ⟨Nat.le_of_ble_eq_true rfl, Nat.le_of_ble_eq_true rfl⟩) ⟨tp_blind, va_recv hK hP (ci := 10) (q0 := 0) rfl rfl, fun U hU hW => ⟨rfl, tp_pay hK hP hD hE hZ hS [0, 1] (by decide) rfl hFc U hU hW⟩⟩ rfl rfl hl.1 rfl (lv_room (Nat.le_of_ble_eq_true rfl)) dL_law_2252 ⟨(Nat.le_of_ble_eq_true rfl), (Nat.le_of_ble_eq_true rfl)⟩) hS (fun q _ h => hFc q h) hFc (fun r_3 u t H1 locs ht hvm hw hB hz1 hk1 hS => ?_)
  obtain rfl := hw
  obtain ⟨f_4, hP1, hD1⟩ := hB
  subst f_4
  rw [ht] at hP1
  obtain ⟨hP, hD⟩ := va_join (wr := [(o0, .inl (cy 1, 1, .inr (.inl ((fun _ => 0)))))]) (w1 := [(m0, .inr (10, [.ref w0, .int 0]))]) hP hD [0, 1] [2] rfl rfl (by decide) (by decide) hk1 hFc hP1 hD1
  generalize H1 = H at hP hS ⊢
  have hP : va_P (dC, dI) vwCl [(o0, .inl (cy 1, 1, .inr (.inl ((fun _ => 0))))), (m0, .inr (10, [.ref w0, .int 0]))] _ := hP
  have hD : va_D A [(o0, .inl (cy 1, 1, .inr (.inl ((fun _ => 0))))), (m0, .inr (10, [.ref w0, .int 0]))] := hD
  refine lv_dstore (lv' := [(7, .double 0), (5, .double 0), (0, .ref b), (1, .ref a0), (2, .ref m0), (3, .ref o0), (4, .int 0)]) hx hb dL_law_2255 hl (by decide) rfl (fun ls hl => ?_)
  refine lv_dload hx hb dL_law_2257 (lv_at hl 1 rfl) ?_
  refine lv_dload hx hb dL_law_2259 (lv_at hl 0 rfl) ?_
  refine lv_dcmp hx hb dL_law_2261 ?_
  refine lv_if_eq (tgt := 2283) hx hb dL_law_2262 (by decide) (fun _ => ?_) (fun c_5 => absurd (by decide +kernel) c_5)
  refine lv_goto (tgt := 2504) hx hb dL_law_2283 (by decide) ?_
  exact tc_end hd0 hs C1 hX (Nat.le_of_ble_eq_true rfl) (Nat.le_of_ble_eq_true rfl) H _ ls hS (lv_sub hl [2, 6] rfl)
theorem tw_1070 : Cond.codeWith yL_arrivesIn cL_arrivesIn 5 (some .int) [(0, 10, 13, 19), (0, 10, 17, 21)] ∈ tp_all := tp_mem 1070 (by decide +kernel) rfl
theorem tw_1068 : Cond.methodLink RL 255 yL_arrivesIn ∈ tp_all := tp_mem 1068 (by decide +kernel) rfl
theorem tw_1069 : Cond.static yL_arrivesIn ∈ tp_all := tp_mem 1069 (by decide +kernel) rfl
theorem tw_1580 : Cond.code yX10_arrivesIn cX10_arrivesIn 5 (some .int) ∈ tp_all := tp_mem 1580 (by decide +kernel) rfl
theorem tw_1577 : Cond.methodLink RL 257 yX10_arrivesIn ∈ tp_all := tp_mem 1577 (by decide +kernel) rfl
theorem tw_1578 : Cond.instanceMethod yX10_arrivesIn ∈ tp_all := tp_mem 1578 (by decide +kernel) rfl
theorem tw_1579 : Cond.selects RX10 yX10_arrivesIn yX10_arrivesIn ∈ tp_all := tp_mem 1579 (by decide +kernel) rfl
theorem dL_law_2286 : decode cL_law 2286 = .ok (.aload_n 1, 1) := by decide +kernel
theorem dL_law_2287 : decode cL_law 2287 = .ok (.aload_n 0, 1) := by decide +kernel
theorem dL_law_2288 : decode cL_law 2288 = .ok (.iload 4, 2) := by decide +kernel
theorem dL_law_2290 : decode cL_law 2290 = .ok (.iconst 1, 1) := by decide +kernel
theorem dL_law_2291 : decode cL_law 2291 = .ok (.iadd, 1) := by decide +kernel
theorem dL_law_2292 : decode cL_law 2292 = .ok (.iaload, 1) := by decide +kernel
theorem dL_law_2293 : decode cL_law 2293 = .ok (.aload_n 0, 1) := by decide +kernel
theorem dL_law_2294 : decode cL_law 2294 = .ok (.iload 4, 2) := by decide +kernel
theorem dL_law_2296 : decode cL_law 2296 = .ok (.iconst 2, 1) := by decide +kernel
theorem dL_law_2297 : decode cL_law 2297 = .ok (.iadd, 1) := by decide +kernel
theorem dL_law_2298 : decode cL_law 2298 = .ok (.iaload, 1) := by decide +kernel
theorem dL_law_2299 : decode cL_law 2299 = .ok (.aload_n 3, 1) := by decide +kernel
theorem dL_law_2300 : decode cL_law 2300 = .ok (.invokestatic 255, 3) := by decide +kernel
theorem dL_law_2303 : decode cL_law 2303 = .ok (.istore 5, 2) := by decide +kernel
theorem dL_law_2305 : decode cL_law 2305 = .ok (.aload_n 2, 1) := by decide +kernel
theorem dL_law_2306 : decode cL_law 2306 = .ok (.aload_n 0, 1) := by decide +kernel
theorem dL_law_2307 : decode cL_law 2307 = .ok (.iload 4, 2) := by decide +kernel
theorem dL_law_2309 : decode cL_law 2309 = .ok (.iconst 1, 1) := by decide +kernel
theorem dL_law_2310 : decode cL_law 2310 = .ok (.iadd, 1) := by decide +kernel
theorem dL_law_2311 : decode cL_law 2311 = .ok (.iaload, 1) := by decide +kernel
theorem dL_law_2312 : decode cL_law 2312 = .ok (.aload_n 0, 1) := by decide +kernel
theorem dL_law_2313 : decode cL_law 2313 = .ok (.iload 4, 2) := by decide +kernel
theorem dL_law_2315 : decode cL_law 2315 = .ok (.iconst 2, 1) := by decide +kernel
theorem dL_law_2316 : decode cL_law 2316 = .ok (.iadd, 1) := by decide +kernel
theorem dL_law_2317 : decode cL_law 2317 = .ok (.iaload, 1) := by decide +kernel
theorem dL_law_2318 : decode cL_law 2318 = .ok (.invokevirtual 257, 3) := by decide +kernel
theorem dL_law_2321 : decode cL_law 2321 = .ok (.istore 6, 2) := by decide +kernel
theorem dL_law_2323 : decode cL_law 2323 = .ok (.aload_n 2, 1) := by decide +kernel
theorem dL_law_2324 : decode cL_law 2324 = .ok (.invokevirtual 133, 3) := by decide +kernel
theorem dL_law_2327 : decode cL_law 2327 = .ok (.iload 5, 2) := by decide +kernel
theorem dL_law_2329 : decode cL_law 2329 = .ok (.if_icmp .eq 5, 3) := by decide +kernel
theorem dL_law_2334 : decode cL_law 2334 = .ok (.iload 5, 2) := by decide +kernel
theorem dL_law_2336 : decode cL_law 2336 = .ok (.ifCond .ne 15, 3) := by decide +kernel
theorem dL_law_2351 : decode cL_law 2351 = .ok (.goto 153, 3) := by decide +kernel
set_option maxRecDepth 100000 in
set_option maxHeartbeats 4000000 in
/-- the case 36 -/
theorem tc_36 {p : Program} {l : Launch} {e : Env} {s0 s : State} {m : MethodId} {below : List Frame} {meth : Method} {c : Code} {A : Nat → Prop} (hst : l.stackTraces = false) {dC : Nat → ClassId} {dI : Nat → Nat → Nat} {cy : Nat → ClassId} {b : Nat} {xs : Nat → Int32} {d0 : Drawn} (hd0 : s0.drawn.sameBut d0 lw_cs) (hs : s = s0.setDrawn d0) (C1 : tc_At p s m meth c b #[Value.ref b] A dC dI cy) (hX : va_X b 7 xs s s.heap) {a0 : Nat} {a1 : Nat} {a2 : Nat} {aT : Nat} {b1 : Nat} {b2 : Nat} {b3 : Nat} {b4 : Nat} {b5 : Nat} {b6 : Nat} {b7 : Nat} {m0 : Nat} {w0 : Nat} {o0 : Nat} {r_phases : Nat} {r_phase : Nat} {r_phaseTicks : Nat} {r_set : Nat} {r_least : Nat} {r_greatest : Nat} {r_from : Nat} {r_to : Nat} {r_time : Nat} {r_room : Nat} {r_first : Nat} {r_rate : Nat} {r_cost : Nat} {r_isShut : Nat} {r_slowed : Nat} {r_row : Nat} {r_size : Nat} {r_came : Nat} {r_left : Nat} {r_mostQueue : Nat} {r_sumQueue : Nat} {r_turned : Nat} {r_flowFrom : Nat} {r_flowTo : Nat} {r_kind : Nat} {r_start : Nat} {r_period : Nat} {r_count : Nat} {r_flow : Nat} {r_began : Nat} {r_state : Nat} {r_link : Nat} {r_end : Nat} {r_gone : Nat} {r_trip : Nat} {r_delay : Nat} {r_way : Nat} (H : Heap) (locs : List Loc) (ls : Array Slot) (hP : va_P (dC, dI) vwCl [(a0, .inr (8, [.ref a1, .ref aT])), (a1, .inr (5, [.ref a2, .ref b1, .ref b2, .ref b3, .ref b4, .ref b5, .int 0, .int 1, .int 0, .int 0, .int 0, .int 0])), (a2, .inr (2, [.ref b6, .int 0, .ref b7, .int 0])), (m0, .inr (10, [.ref w0, .int 0])), (w0, .inr (9, [.int 0, .int 1, .int 0, .ref r_phases, .ref r_phase, .ref r_phaseTicks, .ref r_set, .ref r_least, .ref r_greatest, .int 0, .ref r_from, .ref r_to, .ref r_time, .ref r_room, .ref r_first, .ref r_rate, .ref r_cost, .ref r_isShut, .ref r_slowed, .ref r_row, .ref r_size, .ref r_came, .ref r_left, .ref r_mostQueue, .ref r_sumQueue, .ref r_turned, .int 0, .ref r_flowFrom, .ref r_flowTo, .ref r_kind, .ref r_start, .ref r_period, .ref r_count, .int 0, .ref r_flow, .ref r_began, .ref r_state, .ref r_link, .ref r_end, .ref r_gone, .ref r_trip, .ref r_delay, .ref r_way])), (o0, .inl (cy 1, 1, .inr (.inl ((fun _ => 0)))))] H) (hD : va_D A [(a0, .inr (8, [.ref a1, .ref aT])), (a1, .inr (5, [.ref a2, .ref b1, .ref b2, .ref b3, .ref b4, .ref b5, .int 0, .int 1, .int 0, .int 0, .int 0, .int 0])), (a2, .inr (2, [.ref b6, .int 0, .ref b7, .int 0])), (m0, .inr (10, [.ref w0, .int 0])), (w0, .inr (9, [.int 0, .int 1, .int 0, .ref r_phases, .ref r_phase, .ref r_phaseTicks, .ref r_set, .ref r_least, .ref r_greatest, .int 0, .ref r_from, .ref r_to, .ref r_time, .ref r_room, .ref r_first, .ref r_rate, .ref r_cost, .ref r_isShut, .ref r_slowed, .ref r_row, .ref r_size, .ref r_came, .ref r_left, .ref r_mostQueue, .ref r_sumQueue, .ref r_turned, .int 0, .ref r_flowFrom, .ref r_flowTo, .ref r_kind, .ref r_start, .ref r_period, .ref r_count, .int 0, .ref r_flow, .ref r_began, .ref r_state, .ref r_link, .ref r_end, .ref r_gone, .ref r_trip, .ref r_delay, .ref r_way])), (o0, .inl (cy 1, 1, .inr (.inl ((fun _ => 0)))))]) (hS : va_S A s.heap H locs) (hl : lv_has ls 9 [(0, .ref b), (1, .ref a0), (2, .ref m0), (3, .ref o0), (4, .int 0)]) : W p l e room_1 s m #[Value.ref b] below meth c H locs 1535 31585 (lw_Z below #[Value.ref b] s0) (F0 m 2286 ls []) := by
  have C2 := C1
  obtain ⟨hx, hb, hr, hml, hown, hts, hbl, hlocks, hK, hE, hZ, hA, hbA, hA2⟩ := C2
  refine lv_aload_n hx hb dL_law_2286 rfl (lv_at hl 1 rfl) ?_
  refine lv_aload_n hx hb dL_law_2287 rfl (lv_at hl 0 rfl) ?_
  refine lv_iload hx hb dL_law_2288 (lv_at hl 4 rfl) ?_
  refine lv_iconst (v := 1) hx hb dL_law_2290 (by decide) ?_
  refine lv_iadd hx hb dL_law_2291 ?_
  refine va_sld hx hb hX hbl hbA hS (by unfold vp_in; decide) dL_law_2292 ?_
  refine lv_aload_n hx hb dL_law_2293 rfl (lv_at hl 0 rfl) ?_
  refine lv_iload hx hb dL_law_2294 (lv_at hl 4 rfl) ?_
  refine lv_iconst (v := 2) hx hb dL_law_2296 (by decide) ?_
  refine lv_iadd hx hb dL_law_2297 ?_
  refine va_sld hx hb hX hbl hbA hS (by unfold vp_in; decide) dL_law_2298 ?_
  refine lv_aload_n hx hb dL_law_2299 rfl (lv_at hl 3 rfl) ?_
  have hFc := va_free (wc := [(a0, .inr (8, [.ref a1, .ref aT])), (a1, .inr (5, [.ref a2, .ref b1, .ref b2, .ref b3, .ref b4, .ref b5, .int 0, .int 1, .int 0, .int 0, .int 0, .int 0])), (a2, .inr (2, [.ref b6, .int 0, .ref b7, .int 0])), (o0, .inl (cy 1, 1, .inr (.inl ((fun _ => 0)))))]) hD hS hA [0, 1, 2, 5] rfl
  refine vx_calli (vx_runSX (As := [.ref a0, .int (xs (0 + 1 : Int32).toNatClampNeg), .int (xs (0 + 2 : Int32).toNatClampNeg), .ref o0]) (rest := []) ⟨hx, hb, hml, hown, hts⟩ (tm_L_arrivesIn l hst dC dI cy a0 a1 a2 aT b1 b2 b3 b4 b5 b6 b7 o0 (xs (0 + 1 : Int32).toNatClampNeg) (xs (0 + 2 : Int32).toNatClampNeg) H.size) (tp_cwSW 4 hts tw_1068 tw_1069 tw_37 tw_1070 rfl rfl (by decide +kernel) ⟨Nat.le_of_ble_eq_true rfl, Nat.le_of_ble_eq_true rfl⟩) ⟨tp_blind, fun U hU hW => ⟨rfl, tp_pay hK hP hD hE hZ hS [0, 1, 2, 5] (by decide) rfl hFc U hU hW⟩⟩ rfl rfl hl.1 rfl (lv_room (Nat.le_of_ble_eq_true rfl)) dL_law_2300 ⟨(Nat.le_of_ble_eq_true rfl), (Nat.le_of_ble_eq_true rfl)⟩) hS (fun q _ h => hFc q h) hFc (fun q _ h => hFc q h) (fun E9 ce q9 u t H1 locs ht hvm hw hB hz1 hk1 hS hce hcv hcl => ?_) (fun r_1 u t H1 locs ht hvm hw hB hz1 hk1 hS => ?_)
  · obtain ⟨hE9, hB⟩ := hB
    exact hE9.elim
  · obtain rfl := hw
    obtain ⟨f_2, hP1, hD1⟩ := hB
    subst f_2
    rw [ht] at hP1
    obtain ⟨hP, hD⟩ := va_join (wr := [(m0, .inr (10, [.ref w0, .int 0])), (w0, .inr (9, [.int 0, .int 1, .int 0, .ref r_phases, .ref r_phase, .ref r_phaseTicks, .ref r_set, .ref r_least, .ref r_greatest, .int 0, .ref r_from, .ref r_to, .ref r_time, .ref r_room, .ref r_first, .ref r_rate, .ref r_cost, .ref r_isShut, .ref r_slowed, .ref r_row, .ref r_size, .ref r_came, .ref r_left, .ref r_mostQueue, .ref r_sumQueue, .ref r_turned, .int 0, .ref r_flowFrom, .ref r_flowTo, .ref r_kind, .ref r_start, .ref r_period, .ref r_count, .int 0, .ref r_flow, .ref r_began, .ref r_state, .ref r_link, .ref r_end, .ref r_gone, .ref r_trip, .ref r_delay, .ref r_way]))]) (w1 := [(o0, .inl (cy 1, 1, .inr (.inl ((fun _ => 0)))))]) hP hD [0, 1, 2, 5] [3, 4] rfl rfl (by decide) (by decide) hk1 hFc hP1 hD1
    generalize H1 = H at hP hS ⊢
    have hP : va_P (dC, dI) vwCl [(m0, .inr (10, [.ref w0, .int 0])), (w0, .inr (9, [.int 0, .int 1, .int 0, .ref r_phases, .ref r_phase, .ref r_phaseTicks, .ref r_set, .ref r_least, .ref r_greatest, .int 0, .ref r_from, .ref r_to, .ref r_time, .ref r_room, .ref r_first, .ref r_rate, .ref r_cost, .ref r_isShut, .ref r_slowed, .ref r_row, .ref r_size, .ref r_came, .ref r_left, .ref r_mostQueue, .ref r_sumQueue, .ref r_turned, .int 0, .ref r_flowFrom, .ref r_flowTo, .ref r_kind, .ref r_start, .ref r_period, .ref r_count, .int 0, .ref r_flow, .ref r_began, .ref r_state, .ref r_link, .ref r_end, .ref r_gone, .ref r_trip, .ref r_delay, .ref r_way])), (o0, .inl (cy 1, 1, .inr (.inl ((fun _ => 0)))))] _ := hP
    have hD : va_D A [(m0, .inr (10, [.ref w0, .int 0])), (w0, .inr (9, [.int 0, .int 1, .int 0, .ref r_phases, .ref r_phase, .ref r_phaseTicks, .ref r_set, .ref r_least, .ref r_greatest, .int 0, .ref r_from, .ref r_to, .ref r_time, .ref r_room, .ref r_first, .ref r_rate, .ref r_cost, .ref r_isShut, .ref r_slowed, .ref r_row, .ref r_size, .ref r_came, .ref r_left, .ref r_mostQueue, .ref r_sumQueue, .ref r_turned, .int 0, .ref r_flowFrom, .ref r_flowTo, .ref r_kind, .ref r_start, .ref r_period, .ref r_count, .int 0, .ref r_flow, .ref r_began, .ref r_state, .ref r_link, .ref r_end, .ref r_gone, .ref r_trip, .ref r_delay, .ref r_way])), (o0, .inl (cy 1, 1, .inr (.inl ((fun _ => 0)))))] := hD
    refine lv_istore (lv' := [(5, .int 1), (0, .ref b), (1, .ref a0), (2, .ref m0), (3, .ref o0), (4, .int 0)]) hx hb dL_law_2303 hl (by decide) rfl (fun ls hl => ?_)
    refine lv_aload_n hx hb dL_law_2305 rfl (lv_at hl 3 rfl) ?_
    refine lv_aload_n hx hb dL_law_2306 rfl (lv_at hl 1 rfl) ?_
    refine lv_iload hx hb dL_law_2307 (lv_at hl 5 rfl) ?_
    refine lv_iconst (v := 1) hx hb dL_law_2309 (by decide) ?_
    refine lv_iadd hx hb dL_law_2310 ?_
    refine va_sld hx hb hX hbl hbA hS (by unfold vp_in; decide) dL_law_2311 ?_
    refine lv_aload_n hx hb dL_law_2312 rfl (lv_at hl 1 rfl) ?_
    refine lv_iload hx hb dL_law_2313 (lv_at hl 5 rfl) ?_
    refine lv_iconst (v := 2) hx hb dL_law_2315 (by decide) ?_
    refine lv_iadd hx hb dL_law_2316 ?_
    refine va_sld hx hb hX hbl hbA hS (by unfold vp_in; decide) dL_law_2317 ?_
    have hFc := va_free (wc := [(m0, .inr (10, [.ref w0, .int 0])), (w0, .inr (9, [.int 0, .int 1, .int 0, .ref r_phases, .ref r_phase, .ref r_phaseTicks, .ref r_set, .ref r_least, .ref r_greatest, .int 0, .ref r_from, .ref r_to, .ref r_time, .ref r_room, .ref r_first, .ref r_rate, .ref r_cost, .ref r_isShut, .ref r_slowed, .ref r_row, .ref r_size, .ref r_came, .ref r_left, .ref r_mostQueue, .ref r_sumQueue, .ref r_turned, .int 0, .ref r_flowFrom, .ref r_flowTo, .ref r_kind, .ref r_start, .ref r_period, .ref r_count, .int 0, .ref r_flow, .ref r_began, .ref r_state, .ref r_link, .ref r_end, .ref r_gone, .ref r_trip, .ref r_delay, .ref r_way]))]) hD hS hA [0, 1] rfl
    refine va_calli (va_runV (As := [.int (xs (0 + 1 : Int32).toNatClampNeg), .int (xs (0 + 2 : Int32).toNatClampNeg)]) (rest := []) ⟨hx, hb, hml, hown, hts⟩ (tm_m_arrivesIn l hst dC dI cy m0 w0 0 r_phases r_phase r_phaseTicks r_set r_least r_greatest r_from r_to r_time r_room r_first r_rate r_cost r_isShut r_slowed r_row r_size r_came r_left r_mostQueue r_sumQueue r_turned r_flowFrom r_flowTo r_kind r_start r_period r_count r_flow r_began r_state r_link r_end r_gone r_trip r_delay r_way (xs (0 + 1 : Int32).toNatClampNeg) (xs (0 + 2 : Int32).toNatClampNeg) H.size) (tp_cwV 2 hts tw_1577 tw_1578 tw_1579 tw_48 tw_1580 rfl rfl (by decide +kernel) ⟨Nat.le_of_ble_eq_true rfl, Nat.le_of_ble_eq_true rfl⟩) ⟨tp_blind, va_recv hK hP (ci := 10) (q0 := 0) rfl rfl, fun U hU hW => ⟨rfl, tp_pay hK hP hD hE hZ hS [0, 1] (by decide) rfl hFc U hU hW⟩⟩ rfl rfl hl.1 rfl (lv_room (Nat.le_of_ble_eq_true rfl)) dL_law_2318 ⟨(Nat.le_of_ble_eq_true rfl), (Nat.le_of_ble_eq_true rfl)⟩) hS (fun q _ h => hFc q h) hFc (fun r_3 u t H1 locs ht hvm hw hB hz1 hk1 hS => ?_)
    obtain rfl := hw
    obtain ⟨f_4, hP1, hD1⟩ := hB
    subst f_4
    rw [ht] at hP1
    obtain ⟨hP, hD⟩ := va_join (wr := [(o0, .inl (cy 1, 1, .inr (.inl ((fun _ => 0)))))]) (w1 := [(m0, .inr (10, [.ref w0, .int 1]))]) hP hD [0, 1] [2] rfl rfl (by decide) (by decide) hk1 hFc hP1 hD1
    generalize H1 = H at hP hS ⊢
    have hP : va_P (dC, dI) vwCl [(o0, .inl (cy 1, 1, .inr (.inl ((fun _ => 0))))), (m0, .inr (10, [.ref w0, .int 1]))] _ := hP
    have hD : va_D A [(o0, .inl (cy 1, 1, .inr (.inl ((fun _ => 0))))), (m0, .inr (10, [.ref w0, .int 1]))] := hD
    refine lv_istore (lv' := [(6, .int 0), (5, .int 1), (0, .ref b), (1, .ref a0), (2, .ref m0), (3, .ref o0), (4, .int 0)]) hx hb dL_law_2321 hl (by decide) rfl (fun ls hl => ?_)
    refine lv_aload_n hx hb dL_law_2323 rfl (lv_at hl 4 rfl) ?_
    have hFc := va_free (wc := [(m0, .inr (10, [.ref w0, .int 1]))]) hD hS hA [1] rfl
    refine va_calli (va_runV (As := []) (rest := []) ⟨hx, hb, hml, hown, hts⟩ (tm_m_thrown l hst dC dI cy m0 w0 1 H.size) (tp_cwV 0 hts tw_1317 tw_1318 tw_1319 tw_48 tw_1320 rfl rfl (by decide +kernel) ⟨Nat.le_of_ble_eq_true rfl, Nat.le_of_ble_eq_true rfl⟩) ⟨tp_blind, va_recv hK hP (ci := 10) (q0 := 1) rfl rfl, fun U hU hW => ⟨rfl, tp_pay hK hP hD hE hZ hS [1] (by decide) rfl hFc U hU hW⟩⟩ rfl rfl hl.1 rfl (lv_room (Nat.le_of_ble_eq_true rfl)) dL_law_2324 ⟨(Nat.le_of_ble_eq_true rfl), (Nat.le_of_ble_eq_true rfl)⟩) hS (fun q _ h => hFc q h) hFc (fun r_5 u t H1 locs ht hvm hw hB hz1 hk1 hS => ?_)
    obtain rfl := hw
    obtain ⟨f_6, hP1, hD1⟩ := hB
    subst f_6
    rw [ht] at hP1
    obtain ⟨hP, hD⟩ := va_join (wr := [(o0, .inl (cy 1, 1, .inr (.inl ((fun _ => 0)))))]) (w1 := [(m0, .inr (10, [.ref w0, .int 1]))]) hP hD [1] [0] rfl rfl (by decide) (by decide) hk1 hFc hP1 hD1
    generalize H1 = H at hP hS ⊢
    have hP : va_P (dC, dI) vwCl [(o0, .inl (cy 1, 1, .inr (.inl ((fun _ => 0))))), (m0, .inr (10, [.ref w0, .int 1]))] _ := hP
    have hD : va_D A [(o0, .inl (cy 1, 1, .inr (.inl ((fun _ => 0))))), (m0, .inr (10, [.ref w0, .int 1]))] := hD
    refine lv_iload hx hb dL_law_2327 (lv_at hl 1 rfl) ?_
    refine lv_icmp_eq (tgt := 2334) hx hb dL_law_2329 (by decide) (fun _ => ?_) (fun c_7 => absurd rfl c_7)
    refine lv_iload hx hb dL_law_2334 (lv_at hl 1 rfl) ?_
    refine lv_if_ne (tgt := 2351) hx hb dL_law_2336 (by decide) (fun _ => ?_) (fun c_8 => absurd c_8 (by decide))
    refine lv_goto (tgt := 2504) hx hb dL_law_2351 (by decide) ?_
    exact tc_end hd0 hs C1 hX (Nat.le_of_ble_eq_true rfl) (Nat.le_of_ble_eq_true rfl) H _ ls hS (lv_sub hl [2, 6] rfl)
theorem tw_1107 : Cond.codeWith yL_emptyIn cL_emptyIn 4 (some .int) [(0, 9, 12, 21)] ∈ tp_all := tp_mem 1107 (by decide +kernel) rfl
theorem tw_1105 : Cond.methodLink RL 258 yL_emptyIn ∈ tp_all := tp_mem 1105 (by decide +kernel) rfl
theorem tw_1106 : Cond.static yL_emptyIn ∈ tp_all := tp_mem 1106 (by decide +kernel) rfl
theorem tw_1594 : Cond.code yX10_emptyIn cX10_emptyIn 4 (some .int) ∈ tp_all := tp_mem 1594 (by decide +kernel) rfl
theorem tw_1591 : Cond.methodLink RL 260 yX10_emptyIn ∈ tp_all := tp_mem 1591 (by decide +kernel) rfl
theorem tw_1592 : Cond.instanceMethod yX10_emptyIn ∈ tp_all := tp_mem 1592 (by decide +kernel) rfl
theorem tw_1593 : Cond.selects RX10 yX10_emptyIn yX10_emptyIn ∈ tp_all := tp_mem 1593 (by decide +kernel) rfl
theorem dL_law_2354 : decode cL_law 2354 = .ok (.aload_n 1, 1) := by decide +kernel
theorem dL_law_2355 : decode cL_law 2355 = .ok (.aload_n 0, 1) := by decide +kernel
theorem dL_law_2356 : decode cL_law 2356 = .ok (.iload 4, 2) := by decide +kernel
theorem dL_law_2358 : decode cL_law 2358 = .ok (.iconst 1, 1) := by decide +kernel
theorem dL_law_2359 : decode cL_law 2359 = .ok (.iadd, 1) := by decide +kernel
theorem dL_law_2360 : decode cL_law 2360 = .ok (.iaload, 1) := by decide +kernel
theorem dL_law_2361 : decode cL_law 2361 = .ok (.aload_n 3, 1) := by decide +kernel
theorem dL_law_2362 : decode cL_law 2362 = .ok (.invokestatic 258, 3) := by decide +kernel
theorem dL_law_2365 : decode cL_law 2365 = .ok (.istore 5, 2) := by decide +kernel
theorem dL_law_2367 : decode cL_law 2367 = .ok (.aload_n 2, 1) := by decide +kernel
theorem dL_law_2368 : decode cL_law 2368 = .ok (.aload_n 0, 1) := by decide +kernel
theorem dL_law_2369 : decode cL_law 2369 = .ok (.iload 4, 2) := by decide +kernel
theorem dL_law_2371 : decode cL_law 2371 = .ok (.iconst 1, 1) := by decide +kernel
theorem dL_law_2372 : decode cL_law 2372 = .ok (.iadd, 1) := by decide +kernel
theorem dL_law_2373 : decode cL_law 2373 = .ok (.iaload, 1) := by decide +kernel
theorem dL_law_2374 : decode cL_law 2374 = .ok (.invokevirtual 260, 3) := by decide +kernel
theorem dL_law_2377 : decode cL_law 2377 = .ok (.istore 6, 2) := by decide +kernel
theorem dL_law_2379 : decode cL_law 2379 = .ok (.aload_n 2, 1) := by decide +kernel
theorem dL_law_2380 : decode cL_law 2380 = .ok (.invokevirtual 133, 3) := by decide +kernel
theorem dL_law_2383 : decode cL_law 2383 = .ok (.iload 5, 2) := by decide +kernel
theorem dL_law_2385 : decode cL_law 2385 = .ok (.if_icmp .eq 5, 3) := by decide +kernel
theorem dL_law_2390 : decode cL_law 2390 = .ok (.iload 5, 2) := by decide +kernel
theorem dL_law_2392 : decode cL_law 2392 = .ok (.ifCond .ne 15, 3) := by decide +kernel
theorem dL_law_2395 : decode cL_law 2395 = .ok (.aload_n 3, 1) := by decide +kernel
theorem dL_law_2396 : decode cL_law 2396 = .ok (.iconst 0, 1) := by decide +kernel
theorem dL_law_2397 : decode cL_law 2397 = .ok (.laload, 1) := by decide +kernel
theorem dL_law_2398 : decode cL_law 2398 = .ok (.iload 6, 2) := by decide +kernel
theorem dL_law_2400 : decode cL_law 2400 = .ok (.i2l, 1) := by decide +kernel
theorem dL_law_2401 : decode cL_law 2401 = .ok (.lcmp, 1) := by decide +kernel
theorem dL_law_2402 : decode cL_law 2402 = .ok (.ifCond .eq 5, 3) := by decide +kernel
theorem dL_law_2407 : decode cL_law 2407 = .ok (.goto 97, 3) := by decide +kernel
set_option maxRecDepth 100000 in
set_option maxHeartbeats 4000000 in
/-- the case 37 in -/
theorem tc_37_in {p : Program} {l : Launch} {e : Env} {s0 s : State} {m : MethodId} {below : List Frame} {meth : Method} {c : Code} {A : Nat → Prop} (hst : l.stackTraces = false) {dC : Nat → ClassId} {dI : Nat → Nat → Nat} {cy : Nat → ClassId} {b : Nat} {xs : Nat → Int32} {d0 : Drawn} (hd0 : s0.drawn.sameBut d0 lw_cs) (hs : s = s0.setDrawn d0) (C1 : tc_At p s m meth c b #[Value.ref b] A dC dI cy) (hX : va_X b 7 xs s s.heap) {a0 : Nat} {a1 : Nat} {a2 : Nat} {aT : Nat} {b1 : Nat} {b2 : Nat} {b3 : Nat} {b4 : Nat} {b5 : Nat} {b6 : Nat} {b7 : Nat} {m0 : Nat} {w0 : Nat} {o0 : Nat} {r_phases : Nat} {r_phase : Nat} {r_phaseTicks : Nat} {r_set : Nat} {r_least : Nat} {r_greatest : Nat} {r_from : Nat} {r_to : Nat} {r_time : Nat} {r_room : Nat} {r_first : Nat} {r_rate : Nat} {r_cost : Nat} {r_isShut : Nat} {r_slowed : Nat} {r_row : Nat} {r_size : Nat} {r_came : Nat} {r_left : Nat} {r_mostQueue : Nat} {r_sumQueue : Nat} {r_turned : Nat} {r_flowFrom : Nat} {r_flowTo : Nat} {r_kind : Nat} {r_start : Nat} {r_period : Nat} {r_count : Nat} {r_flow : Nat} {r_began : Nat} {r_state : Nat} {r_link : Nat} {r_end : Nat} {r_gone : Nat} {r_trip : Nat} {r_delay : Nat} {r_way : Nat} {g_phases : Nat → Int32} {g_phase : Nat → Int32} {g_phaseTicks : Nat → Int32} {g_set : Nat → Int32} {g_least : Nat → Int32} {g_greatest : Nat → Int32} {g_from : Nat → Int32} {g_to : Nat → Int32} {g_time : Nat → Int32} {g_room : Nat → Int32} {g_first : Nat → Int32} {g_rate : Nat → Int32} {g_cost : Nat → Int32} {g_slowed : Nat → Int32} {g_row : Nat → Int32} {g_size : Nat → Int32} {g_came : Nat → Int32} {g_left : Nat → Int32} {g_mostQueue : Nat → Int32} {g_sumQueue : Nat → Int32} {g_turned : Nat → Int32} {g_flowFrom : Nat → Int32} {g_flowTo : Nat → Int32} {g_kind : Nat → Int32} {g_start : Nat → Int32} {g_period : Nat → Int32} {g_count : Nat → Int32} {g_flow : Nat → Int32} {g_began : Nat → Int32} {g_state : Nat → Int32} {g_link : Nat → Int32} {g_end : Nat → Int32} {g_gone : Nat → Int32} {g_trip : Nat → Int32} {g_delay : Nat → Int32} (hc : (1 : Int32) ≤ xs (0 + 1 : Int32).toNatClampNeg ∧ xs (0 + 1 : Int32).toNatClampNeg ≤ 60) (H : Heap) (locs : List Loc) (ls : Array Slot) (hP : va_P (dC, dI) vwCl [(a0, .inr (8, [.ref a1, .ref aT])), (a1, .inr (5, [.ref a2, .ref b1, .ref b2, .ref b3, .ref b4, .ref b5, .int 0, .int 1, .int 0, .int 0, .int 0, .int 0])), (a2, .inr (2, [.ref b6, .int 0, .ref b7, .int 0])), (m0, .inr (10, [.ref w0, .int 0])), (w0, .inr (9, [.int 0, .int 1, .int 0, .ref r_phases, .ref r_phase, .ref r_phaseTicks, .ref r_set, .ref r_least, .ref r_greatest, .int 0, .ref r_from, .ref r_to, .ref r_time, .ref r_room, .ref r_first, .ref r_rate, .ref r_cost, .ref r_isShut, .ref r_slowed, .ref r_row, .ref r_size, .ref r_came, .ref r_left, .ref r_mostQueue, .ref r_sumQueue, .ref r_turned, .int 0, .ref r_flowFrom, .ref r_flowTo, .ref r_kind, .ref r_start, .ref r_period, .ref r_count, .int 0, .ref r_flow, .ref r_began, .ref r_state, .ref r_link, .ref r_end, .ref r_gone, .ref r_trip, .ref r_delay, .ref r_way])), (r_phases, .inl (cy 0, 12, .inl g_phases)), (r_phase, .inl (cy 0, 12, .inl g_phase)), (r_phaseTicks, .inl (cy 0, 12, .inl g_phaseTicks)), (r_set, .inl (cy 0, 48, .inl g_set)), (r_least, .inl (cy 0, 48, .inl g_least)), (r_greatest, .inl (cy 0, 48, .inl g_greatest)), (r_from, .inl (cy 0, 24, .inl g_from)), (r_to, .inl (cy 0, 24, .inl g_to)), (r_time, .inl (cy 0, 24, .inl g_time)), (r_room, .inl (cy 0, 24, .inl g_room)), (r_first, .inl (cy 0, 24, .inl g_first)), (r_rate, .inl (cy 0, 24, .inl g_rate)), (r_cost, .inl (cy 0, 24, .inl g_cost)), (r_slowed, .inl (cy 0, 24, .inl g_slowed)), (r_row, .inl (cy 0, 7200, .inl g_row)), (r_size, .inl (cy 0, 36, .inl g_size)), (r_came, .inl (cy 0, 24, .inl g_came)), (r_left, .inl (cy 0, 24, .inl g_left)), (r_mostQueue, .inl (cy 0, 24, .inl g_mostQueue)), (r_sumQueue, .inl (cy 0, 24, .inl g_sumQueue)), (r_turned, .inl (cy 0, 576, .inl g_turned)), (r_flowFrom, .inl (cy 0, 10, .inl g_flowFrom)), (r_flowTo, .inl (cy 0, 10, .inl g_flowTo)), (r_kind, .inl (cy 0, 10, .inl g_kind)), (r_start, .inl (cy 0, 10, .inl g_start)), (r_period, .inl (cy 0, 10, .inl g_period)), (r_count, .inl (cy 0, 10, .inl g_count)), (r_flow, .inl (cy 0, 200, .inl g_flow)), (r_began, .inl (cy 0, 200, .inl g_began)), (r_state, .inl (cy 0, 200, .inl g_state)), (r_link, .inl (cy 0, 200, .inl g_link)), (r_end, .inl (cy 0, 200, .inl g_end)), (r_gone, .inl (cy 0, 200, .inl g_gone)), (r_trip, .inl (cy 0, 200, .inl g_trip)), (r_delay, .inl (cy 0, 200, .inl g_delay)), (r_isShut, .inl (cy 2, 24, .inl ((fun _ => 0)))), (o0, .inl (cy 1, 1, .inr (.inl ((fun _ => 0)))))] H) (hD : va_D A [(a0, .inr (8, [.ref a1, .ref aT])), (a1, .inr (5, [.ref a2, .ref b1, .ref b2, .ref b3, .ref b4, .ref b5, .int 0, .int 1, .int 0, .int 0, .int 0, .int 0])), (a2, .inr (2, [.ref b6, .int 0, .ref b7, .int 0])), (m0, .inr (10, [.ref w0, .int 0])), (w0, .inr (9, [.int 0, .int 1, .int 0, .ref r_phases, .ref r_phase, .ref r_phaseTicks, .ref r_set, .ref r_least, .ref r_greatest, .int 0, .ref r_from, .ref r_to, .ref r_time, .ref r_room, .ref r_first, .ref r_rate, .ref r_cost, .ref r_isShut, .ref r_slowed, .ref r_row, .ref r_size, .ref r_came, .ref r_left, .ref r_mostQueue, .ref r_sumQueue, .ref r_turned, .int 0, .ref r_flowFrom, .ref r_flowTo, .ref r_kind, .ref r_start, .ref r_period, .ref r_count, .int 0, .ref r_flow, .ref r_began, .ref r_state, .ref r_link, .ref r_end, .ref r_gone, .ref r_trip, .ref r_delay, .ref r_way])), (r_phases, .inl (cy 0, 12, .inl g_phases)), (r_phase, .inl (cy 0, 12, .inl g_phase)), (r_phaseTicks, .inl (cy 0, 12, .inl g_phaseTicks)), (r_set, .inl (cy 0, 48, .inl g_set)), (r_least, .inl (cy 0, 48, .inl g_least)), (r_greatest, .inl (cy 0, 48, .inl g_greatest)), (r_from, .inl (cy 0, 24, .inl g_from)), (r_to, .inl (cy 0, 24, .inl g_to)), (r_time, .inl (cy 0, 24, .inl g_time)), (r_room, .inl (cy 0, 24, .inl g_room)), (r_first, .inl (cy 0, 24, .inl g_first)), (r_rate, .inl (cy 0, 24, .inl g_rate)), (r_cost, .inl (cy 0, 24, .inl g_cost)), (r_slowed, .inl (cy 0, 24, .inl g_slowed)), (r_row, .inl (cy 0, 7200, .inl g_row)), (r_size, .inl (cy 0, 36, .inl g_size)), (r_came, .inl (cy 0, 24, .inl g_came)), (r_left, .inl (cy 0, 24, .inl g_left)), (r_mostQueue, .inl (cy 0, 24, .inl g_mostQueue)), (r_sumQueue, .inl (cy 0, 24, .inl g_sumQueue)), (r_turned, .inl (cy 0, 576, .inl g_turned)), (r_flowFrom, .inl (cy 0, 10, .inl g_flowFrom)), (r_flowTo, .inl (cy 0, 10, .inl g_flowTo)), (r_kind, .inl (cy 0, 10, .inl g_kind)), (r_start, .inl (cy 0, 10, .inl g_start)), (r_period, .inl (cy 0, 10, .inl g_period)), (r_count, .inl (cy 0, 10, .inl g_count)), (r_flow, .inl (cy 0, 200, .inl g_flow)), (r_began, .inl (cy 0, 200, .inl g_began)), (r_state, .inl (cy 0, 200, .inl g_state)), (r_link, .inl (cy 0, 200, .inl g_link)), (r_end, .inl (cy 0, 200, .inl g_end)), (r_gone, .inl (cy 0, 200, .inl g_gone)), (r_trip, .inl (cy 0, 200, .inl g_trip)), (r_delay, .inl (cy 0, 200, .inl g_delay)), (r_isShut, .inl (cy 2, 24, .inl ((fun _ => 0)))), (o0, .inl (cy 1, 1, .inr (.inl ((fun _ => 0)))))]) (hS : va_S A s.heap H locs) (hl : lv_has ls 9 [(0, .ref b), (1, .ref a0), (2, .ref m0), (3, .ref o0), (4, .int 0)]) : W p l e room_1 s m #[Value.ref b] below meth c H locs 1535 31585 (lw_Z below #[Value.ref b] s0) (F0 m 2354 ls []) := by
  have C2 := C1
  obtain ⟨hx, hb, hr, hml, hown, hts, hbl, hlocks, hK, hE, hZ, hA, hbA, hA2⟩ := C2
  refine lv_aload_n hx hb dL_law_2354 rfl (lv_at hl 1 rfl) ?_
  refine lv_aload_n hx hb dL_law_2355 rfl (lv_at hl 0 rfl) ?_
  refine lv_iload hx hb dL_law_2356 (lv_at hl 4 rfl) ?_
  refine lv_iconst (v := 1) hx hb dL_law_2358 (by decide) ?_
  refine lv_iadd hx hb dL_law_2359 ?_
  refine va_sld hx hb hX hbl hbA hS (by unfold vp_in; decide) dL_law_2360 ?_
  refine lv_aload_n hx hb dL_law_2361 rfl (lv_at hl 3 rfl) ?_
  have hFc := va_free (wc := [(a0, .inr (8, [.ref a1, .ref aT])), (a1, .inr (5, [.ref a2, .ref b1, .ref b2, .ref b3, .ref b4, .ref b5, .int 0, .int 1, .int 0, .int 0, .int 0, .int 0])), (a2, .inr (2, [.ref b6, .int 0, .ref b7, .int 0])), (o0, .inl (cy 1, 1, .inr (.inl ((fun _ => 0)))))]) hD hS hA [0, 1, 2, 41] rfl
  refine vx_calli (vx_runSX (As := [.ref a0, .int (xs (0 + 1 : Int32).toNatClampNeg), .ref o0]) (rest := []) ⟨hx, hb, hml, hown, hts⟩ (tm_L_emptyIn_in l hst dC dI cy a0 a1 a2 aT b1 b2 b3 b4 b5 b6 b7 o0 (xs (0 + 1 : Int32).toNatClampNeg) H.size (by first | assumption | exact tp_none _ | decide | omega)) (tp_cwSW 3 hts tw_1105 tw_1106 tw_37 tw_1107 rfl rfl (by decide +kernel) ⟨Nat.le_of_ble_eq_true rfl, Nat.le_of_ble_eq_true rfl⟩) ⟨tp_blind, fun U hU hW => ⟨rfl, tp_pay hK hP hD hE hZ hS [0, 1, 2, 41] (by decide) rfl hFc U hU hW⟩⟩ rfl rfl hl.1 rfl (lv_room (Nat.le_of_ble_eq_true rfl)) dL_law_2362 ⟨(Nat.le_of_ble_eq_true rfl), (Nat.le_of_ble_eq_true rfl)⟩) hS (fun q _ h => hFc q h) hFc (fun q _ h => hFc q h) (fun E9 ce q9 u t H1 locs ht hvm hw hB hz1 hk1 hS hce hcv hcl => ?_) (fun r_1 u t H1 locs ht hvm hw hB hz1 hk1 hS => ?_)
  · obtain ⟨hE9, hB⟩ := hB
    exact hE9.elim
  · obtain rfl := hw
    obtain ⟨z_2, f_3, f_4, hP1, hD1⟩ := hB
    subst f_3
    rw [ht] at hP1
    obtain ⟨hP, hD⟩ := va_join (wr := [(m0, .inr (10, [.ref w0, .int 0])), (w0, .inr (9, [.int 0, .int 1, .int 0, .ref r_phases, .ref r_phase, .ref r_phaseTicks, .ref r_set, .ref r_least, .ref r_greatest, .int 0, .ref r_from, .ref r_to, .ref r_time, .ref r_room, .ref r_first, .ref r_rate, .ref r_cost, .ref r_isShut, .ref r_slowed, .ref r_row, .ref r_size, .ref r_came, .ref r_left, .ref r_mostQueue, .ref r_sumQueue, .ref r_turned, .int 0, .ref r_flowFrom, .ref r_flowTo, .ref r_kind, .ref r_start, .ref r_period, .ref r_count, .int 0, .ref r_flow, .ref r_began, .ref r_state, .ref r_link, .ref r_end, .ref r_gone, .ref r_trip, .ref r_delay, .ref r_way])), (r_phases, .inl (cy 0, 12, .inl g_phases)), (r_phase, .inl (cy 0, 12, .inl g_phase)), (r_phaseTicks, .inl (cy 0, 12, .inl g_phaseTicks)), (r_set, .inl (cy 0, 48, .inl g_set)), (r_least, .inl (cy 0, 48, .inl g_least)), (r_greatest, .inl (cy 0, 48, .inl g_greatest)), (r_from, .inl (cy 0, 24, .inl g_from)), (r_to, .inl (cy 0, 24, .inl g_to)), (r_time, .inl (cy 0, 24, .inl g_time)), (r_room, .inl (cy 0, 24, .inl g_room)), (r_first, .inl (cy 0, 24, .inl g_first)), (r_rate, .inl (cy 0, 24, .inl g_rate)), (r_cost, .inl (cy 0, 24, .inl g_cost)), (r_slowed, .inl (cy 0, 24, .inl g_slowed)), (r_row, .inl (cy 0, 7200, .inl g_row)), (r_size, .inl (cy 0, 36, .inl g_size)), (r_came, .inl (cy 0, 24, .inl g_came)), (r_left, .inl (cy 0, 24, .inl g_left)), (r_mostQueue, .inl (cy 0, 24, .inl g_mostQueue)), (r_sumQueue, .inl (cy 0, 24, .inl g_sumQueue)), (r_turned, .inl (cy 0, 576, .inl g_turned)), (r_flowFrom, .inl (cy 0, 10, .inl g_flowFrom)), (r_flowTo, .inl (cy 0, 10, .inl g_flowTo)), (r_kind, .inl (cy 0, 10, .inl g_kind)), (r_start, .inl (cy 0, 10, .inl g_start)), (r_period, .inl (cy 0, 10, .inl g_period)), (r_count, .inl (cy 0, 10, .inl g_count)), (r_flow, .inl (cy 0, 200, .inl g_flow)), (r_began, .inl (cy 0, 200, .inl g_began)), (r_state, .inl (cy 0, 200, .inl g_state)), (r_link, .inl (cy 0, 200, .inl g_link)), (r_end, .inl (cy 0, 200, .inl g_end)), (r_gone, .inl (cy 0, 200, .inl g_gone)), (r_trip, .inl (cy 0, 200, .inl g_trip)), (r_delay, .inl (cy 0, 200, .inl g_delay)), (r_isShut, .inl (cy 2, 24, .inl ((fun _ => 0))))]) (w1 := [(o0, .inl (cy 1, 1, .inr (.inl z_2)))]) hP hD [0, 1, 2, 41] [3, 4, 5, 6, 7, 8, 9, 10, 11, 12, 13, 14, 15, 16, 17, 18, 19, 20, 21, 22, 23, 24, 25, 26, 27, 28, 29, 30, 31, 32, 33, 34, 35, 36, 37, 38, 39, 40] rfl rfl (by decide) (by decide) hk1 hFc hP1 hD1
    generalize H1 = H at hP hS ⊢
    have hP : va_P (dC, dI) vwCl [(m0, .inr (10, [.ref w0, .int 0])), (w0, .inr (9, [.int 0, .int 1, .int 0, .ref r_phases, .ref r_phase, .ref r_phaseTicks, .ref r_set, .ref r_least, .ref r_greatest, .int 0, .ref r_from, .ref r_to, .ref r_time, .ref r_room, .ref r_first, .ref r_rate, .ref r_cost, .ref r_isShut, .ref r_slowed, .ref r_row, .ref r_size, .ref r_came, .ref r_left, .ref r_mostQueue, .ref r_sumQueue, .ref r_turned, .int 0, .ref r_flowFrom, .ref r_flowTo, .ref r_kind, .ref r_start, .ref r_period, .ref r_count, .int 0, .ref r_flow, .ref r_began, .ref r_state, .ref r_link, .ref r_end, .ref r_gone, .ref r_trip, .ref r_delay, .ref r_way])), (r_phases, .inl (cy 0, 12, .inl g_phases)), (r_phase, .inl (cy 0, 12, .inl g_phase)), (r_phaseTicks, .inl (cy 0, 12, .inl g_phaseTicks)), (r_set, .inl (cy 0, 48, .inl g_set)), (r_least, .inl (cy 0, 48, .inl g_least)), (r_greatest, .inl (cy 0, 48, .inl g_greatest)), (r_from, .inl (cy 0, 24, .inl g_from)), (r_to, .inl (cy 0, 24, .inl g_to)), (r_time, .inl (cy 0, 24, .inl g_time)), (r_room, .inl (cy 0, 24, .inl g_room)), (r_first, .inl (cy 0, 24, .inl g_first)), (r_rate, .inl (cy 0, 24, .inl g_rate)), (r_cost, .inl (cy 0, 24, .inl g_cost)), (r_slowed, .inl (cy 0, 24, .inl g_slowed)), (r_row, .inl (cy 0, 7200, .inl g_row)), (r_size, .inl (cy 0, 36, .inl g_size)), (r_came, .inl (cy 0, 24, .inl g_came)), (r_left, .inl (cy 0, 24, .inl g_left)), (r_mostQueue, .inl (cy 0, 24, .inl g_mostQueue)), (r_sumQueue, .inl (cy 0, 24, .inl g_sumQueue)), (r_turned, .inl (cy 0, 576, .inl g_turned)), (r_flowFrom, .inl (cy 0, 10, .inl g_flowFrom)), (r_flowTo, .inl (cy 0, 10, .inl g_flowTo)), (r_kind, .inl (cy 0, 10, .inl g_kind)), (r_start, .inl (cy 0, 10, .inl g_start)), (r_period, .inl (cy 0, 10, .inl g_period)), (r_count, .inl (cy 0, 10, .inl g_count)), (r_flow, .inl (cy 0, 200, .inl g_flow)), (r_began, .inl (cy 0, 200, .inl g_began)), (r_state, .inl (cy 0, 200, .inl g_state)), (r_link, .inl (cy 0, 200, .inl g_link)), (r_end, .inl (cy 0, 200, .inl g_end)), (r_gone, .inl (cy 0, 200, .inl g_gone)), (r_trip, .inl (cy 0, 200, .inl g_trip)), (r_delay, .inl (cy 0, 200, .inl g_delay)), (r_isShut, .inl (cy 2, 24, .inl ((fun _ => 0)))), (o0, .inl (cy 1, 1, .inr (.inl z_2)))] _ := hP
    have hD : va_D A [(m0, .inr (10, [.ref w0, .int 0])), (w0, .inr (9, [.int 0, .int 1, .int 0, .ref r_phases, .ref r_phase, .ref r_phaseTicks, .ref r_set, .ref r_least, .ref r_greatest, .int 0, .ref r_from, .ref r_to, .ref r_time, .ref r_room, .ref r_first, .ref r_rate, .ref r_cost, .ref r_isShut, .ref r_slowed, .ref r_row, .ref r_size, .ref r_came, .ref r_left, .ref r_mostQueue, .ref r_sumQueue, .ref r_turned, .int 0, .ref r_flowFrom, .ref r_flowTo, .ref r_kind, .ref r_start, .ref r_period, .ref r_count, .int 0, .ref r_flow, .ref r_began, .ref r_state, .ref r_link, .ref r_end, .ref r_gone, .ref r_trip, .ref r_delay, .ref r_way])), (r_phases, .inl (cy 0, 12, .inl g_phases)), (r_phase, .inl (cy 0, 12, .inl g_phase)), (r_phaseTicks, .inl (cy 0, 12, .inl g_phaseTicks)), (r_set, .inl (cy 0, 48, .inl g_set)), (r_least, .inl (cy 0, 48, .inl g_least)), (r_greatest, .inl (cy 0, 48, .inl g_greatest)), (r_from, .inl (cy 0, 24, .inl g_from)), (r_to, .inl (cy 0, 24, .inl g_to)), (r_time, .inl (cy 0, 24, .inl g_time)), (r_room, .inl (cy 0, 24, .inl g_room)), (r_first, .inl (cy 0, 24, .inl g_first)), (r_rate, .inl (cy 0, 24, .inl g_rate)), (r_cost, .inl (cy 0, 24, .inl g_cost)), (r_slowed, .inl (cy 0, 24, .inl g_slowed)), (r_row, .inl (cy 0, 7200, .inl g_row)), (r_size, .inl (cy 0, 36, .inl g_size)), (r_came, .inl (cy 0, 24, .inl g_came)), (r_left, .inl (cy 0, 24, .inl g_left)), (r_mostQueue, .inl (cy 0, 24, .inl g_mostQueue)), (r_sumQueue, .inl (cy 0, 24, .inl g_sumQueue)), (r_turned, .inl (cy 0, 576, .inl g_turned)), (r_flowFrom, .inl (cy 0, 10, .inl g_flowFrom)), (r_flowTo, .inl (cy 0, 10, .inl g_flowTo)), (r_kind, .inl (cy 0, 10, .inl g_kind)), (r_start, .inl (cy 0, 10, .inl g_start)), (r_period, .inl (cy 0, 10, .inl g_period)), (r_count, .inl (cy 0, 10, .inl g_count)), (r_flow, .inl (cy 0, 200, .inl g_flow)), (r_began, .inl (cy 0, 200, .inl g_began)), (r_state, .inl (cy 0, 200, .inl g_state)), (r_link, .inl (cy 0, 200, .inl g_link)), (r_end, .inl (cy 0, 200, .inl g_end)), (r_gone, .inl (cy 0, 200, .inl g_gone)), (r_trip, .inl (cy 0, 200, .inl g_trip)), (r_delay, .inl (cy 0, 200, .inl g_delay)), (r_isShut, .inl (cy 2, 24, .inl ((fun _ => 0)))), (o0, .inl (cy 1, 1, .inr (.inl z_2)))] := hD
    refine lv_istore (lv' := [(5, .int 0), (0, .ref b), (1, .ref a0), (2, .ref m0), (3, .ref o0), (4, .int 0)]) hx hb dL_law_2365 hl (by decide) rfl (fun ls hl => ?_)
    refine lv_aload_n hx hb dL_law_2367 rfl (lv_at hl 3 rfl) ?_
    refine lv_aload_n hx hb dL_law_2368 rfl (lv_at hl 1 rfl) ?_
    refine lv_iload hx hb dL_law_2369 (lv_at hl 5 rfl) ?_
    refine lv_iconst (v := 1) hx hb dL_law_2371 (by decide) ?_
    refine lv_iadd hx hb dL_law_2372 ?_
    refine va_sld hx hb hX hbl hbA hS (by unfold vp_in; decide) dL_law_2373 ?_
    have hFc := va_free (wc := [(m0, .inr (10, [.ref w0, .int 0])), (w0, .inr (9, [.int 0, .int 1, .int 0, .ref r_phases, .ref r_phase, .ref r_phaseTicks, .ref r_set, .ref r_least, .ref r_greatest, .int 0, .ref r_from, .ref r_to, .ref r_time, .ref r_room, .ref r_first, .ref r_rate, .ref r_cost, .ref r_isShut, .ref r_slowed, .ref r_row, .ref r_size, .ref r_came, .ref r_left, .ref r_mostQueue, .ref r_sumQueue, .ref r_turned, .int 0, .ref r_flowFrom, .ref r_flowTo, .ref r_kind, .ref r_start, .ref r_period, .ref r_count, .int 0, .ref r_flow, .ref r_began, .ref r_state, .ref r_link, .ref r_end, .ref r_gone, .ref r_trip, .ref r_delay, .ref r_way])), (r_phases, .inl (cy 0, 12, .inl g_phases)), (r_phase, .inl (cy 0, 12, .inl g_phase)), (r_phaseTicks, .inl (cy 0, 12, .inl g_phaseTicks)), (r_set, .inl (cy 0, 48, .inl g_set)), (r_least, .inl (cy 0, 48, .inl g_least)), (r_greatest, .inl (cy 0, 48, .inl g_greatest)), (r_from, .inl (cy 0, 24, .inl g_from)), (r_to, .inl (cy 0, 24, .inl g_to)), (r_time, .inl (cy 0, 24, .inl g_time)), (r_room, .inl (cy 0, 24, .inl g_room)), (r_first, .inl (cy 0, 24, .inl g_first)), (r_rate, .inl (cy 0, 24, .inl g_rate)), (r_cost, .inl (cy 0, 24, .inl g_cost)), (r_slowed, .inl (cy 0, 24, .inl g_slowed)), (r_row, .inl (cy 0, 7200, .inl g_row)), (r_size, .inl (cy 0, 36, .inl g_size)), (r_came, .inl (cy 0, 24, .inl g_came)), (r_left, .inl (cy 0, 24, .inl g_left)), (r_mostQueue, .inl (cy 0, 24, .inl g_mostQueue)), (r_sumQueue, .inl (cy 0, 24, .inl g_sumQueue)), (r_turned, .inl (cy 0, 576, .inl g_turned)), (r_flowFrom, .inl (cy 0, 10, .inl g_flowFrom)), (r_flowTo, .inl (cy 0, 10, .inl g_flowTo)), (r_kind, .inl (cy 0, 10, .inl g_kind)), (r_start, .inl (cy 0, 10, .inl g_start)), (r_period, .inl (cy 0, 10, .inl g_period)), (r_count, .inl (cy 0, 10, .inl g_count)), (r_flow, .inl (cy 0, 200, .inl g_flow)), (r_began, .inl (cy 0, 200, .inl g_began)), (r_state, .inl (cy 0, 200, .inl g_state)), (r_link, .inl (cy 0, 200, .inl g_link)), (r_end, .inl (cy 0, 200, .inl g_end)), (r_gone, .inl (cy 0, 200, .inl g_gone)), (r_trip, .inl (cy 0, 200, .inl g_trip)), (r_delay, .inl (cy 0, 200, .inl g_delay)), (r_isShut, .inl (cy 2, 24, .inl ((fun _ => 0))))]) hD hS hA [0, 1, 2, 3, 4, 5, 6, 7, 8, 9, 10, 11, 12, 13, 14, 15, 16, 17, 18, 19, 20, 21, 22, 23, 24, 25, 26, 27, 28, 29, 30, 31, 32, 33, 34, 35, 36, 37] rfl
    refine va_calli (va_runV (As := [.int (xs (0 + 1 : Int32).toNatClampNeg)]) (rest := []) ⟨hx, hb, hml, hown, hts⟩ (tm_m_emptyIn_in l hst dC dI cy m0 w0 0 r_phases r_phase r_phaseTicks r_set r_least r_greatest r_from r_to r_time r_room r_first r_rate r_cost r_isShut r_slowed r_row r_size r_came r_left r_mostQueue r_sumQueue r_turned r_flowFrom r_flowTo r_kind r_start r_period r_count r_flow r_began r_state r_link r_end r_gone r_trip r_delay r_way g_phases g_phase g_phaseTicks g_set g_least g_greatest g_from g_to g_time g_room g_first g_rate g_cost g_slowed g_row g_size g_came g_left g_mostQueue g_sumQueue g_turned g_flowFrom g_flowTo g_kind g_start g_period g_count g_flow g_began g_state g_link g_end g_gone g_trip g_delay (xs (0 + 1 : Int32).toNatClampNeg) H.size (by first | assumption | exact tp_none _ | decide | omega)) (tp_cwV 1 hts tw_1591 tw_1592 tw_1593 tw_48 tw_1594 rfl rfl (by decide +kernel) ⟨Nat.le_of_ble_eq_true rfl, Nat.le_of_ble_eq_true rfl⟩) ⟨tp_blind, va_recv hK hP (ci := 10) (q0 := 0) rfl rfl, fun U hU hW => ⟨rfl, tp_pay hK hP hD hE hZ hS [0, 1, 2, 3, 4, 5, 6, 7, 8, 9, 10, 11, 12, 13, 14, 15, 16, 17, 18, 19, 20, 21, 22, 23, 24, 25, 26, 27, 28, 29, 30, 31, 32, 33, 34, 35, 36, 37] (by decide) rfl hFc U hU hW⟩⟩ rfl rfl hl.1 rfl (lv_room (Nat.le_of_ble_eq_true rfl)) dL_law_2374 ⟨(Nat.le_of_ble_eq_true rfl), (Nat.le_of_ble_eq_true rfl)⟩) hS (fun q _ h => hFc q h) hFc (fun r_5 u t H1 locs ht hvm hw hB hz1 hk1 hS => ?_)
    obtain rfl := hw
    obtain ⟨f_6, hP1, hD1⟩ := hB
    subst f_6
    rw [ht] at hP1
    obtain ⟨hP, hD⟩ := va_join (wr := [(o0, .inl (cy 1, 1, .inr (.inl z_2)))]) (w1 := [(m0, .inr (10, [.ref w0, .int 0]))]) hP hD [0, 1, 2, 3, 4, 5, 6, 7, 8, 9, 10, 11, 12, 13, 14, 15, 16, 17, 18, 19, 20, 21, 22, 23, 24, 25, 26, 27, 28, 29, 30, 31, 32, 33, 34, 35, 36, 37] [38] rfl rfl (by decide) (by decide) hk1 hFc hP1 hD1
    generalize H1 = H at hP hS ⊢
    have hP : va_P (dC, dI) vwCl [(o0, .inl (cy 1, 1, .inr (.inl z_2))), (m0, .inr (10, [.ref w0, .int 0]))] _ := hP
    have hD : va_D A [(o0, .inl (cy 1, 1, .inr (.inl z_2))), (m0, .inr (10, [.ref w0, .int 0]))] := hD
    refine lv_istore (lv' := [(6, .int 0), (5, .int 0), (0, .ref b), (1, .ref a0), (2, .ref m0), (3, .ref o0), (4, .int 0)]) hx hb dL_law_2377 hl (by decide) rfl (fun ls hl => ?_)
    refine lv_aload_n hx hb dL_law_2379 rfl (lv_at hl 4 rfl) ?_
    have hFc := va_free (wc := [(m0, .inr (10, [.ref w0, .int 0]))]) hD hS hA [1] rfl
    refine va_calli (va_runV (As := []) (rest := []) ⟨hx, hb, hml, hown, hts⟩ (tm_m_thrown l hst dC dI cy m0 w0 0 H.size) (tp_cwV 0 hts tw_1317 tw_1318 tw_1319 tw_48 tw_1320 rfl rfl (by decide +kernel) ⟨Nat.le_of_ble_eq_true rfl, Nat.le_of_ble_eq_true rfl⟩) ⟨tp_blind, va_recv hK hP (ci := 10) (q0 := 1) rfl rfl, fun U hU hW => ⟨rfl, tp_pay hK hP hD hE hZ hS [1] (by decide) rfl hFc U hU hW⟩⟩ rfl rfl hl.1 rfl (lv_room (Nat.le_of_ble_eq_true rfl)) dL_law_2380 ⟨(Nat.le_of_ble_eq_true rfl), (Nat.le_of_ble_eq_true rfl)⟩) hS (fun q _ h => hFc q h) hFc (fun r_7 u t H1 locs ht hvm hw hB hz1 hk1 hS => ?_)
    obtain rfl := hw
    obtain ⟨f_8, hP1, hD1⟩ := hB
    subst f_8
    rw [ht] at hP1
    obtain ⟨hP, hD⟩ := va_join (wr := [(o0, .inl (cy 1, 1, .inr (.inl z_2)))]) (w1 := [(m0, .inr (10, [.ref w0, .int 0]))]) hP hD [1] [0] rfl rfl (by decide) (by decide) hk1 hFc hP1 hD1
    generalize H1 = H at hP hS ⊢
    have hP : va_P (dC, dI) vwCl [(o0, .inl (cy 1, 1, .inr (.inl z_2))), (m0, .inr (10, [.ref w0, .int 0]))] _ := hP
    have hD : va_D A [(o0, .inl (cy 1, 1, .inr (.inl z_2))), (m0, .inr (10, [.ref w0, .int 0]))] := hD
    refine lv_iload hx hb dL_law_2383 (lv_at hl 1 rfl) ?_
    refine lv_icmp_eq (tgt := 2390) hx hb dL_law_2385 (by decide) (fun _ => ?_) (fun c_9 => absurd rfl c_9)
    refine lv_iload hx hb dL_law_2390 (lv_at hl 1 rfl) ?_
    refine lv_if_ne (tgt := 2407) hx hb dL_law_2392 (by decide) (fun c_10 => absurd (by decide) c_10) (fun _ => ?_)
    refine lv_aload_n hx hb dL_law_2395 rfl (lv_at hl 5 rfl) ?_
    refine lv_iconst (v := 0) hx hb dL_law_2396 (by decide) ?_
    refine va_lald hx hb hK hP 0 1 rfl rfl (by unfold vp_in; decide) dL_law_2397 ?_
    rw [f_4]
    refine lv_iload hx hb dL_law_2398 (lv_at hl 0 rfl) ?_
    refine lv_i2l (v := 0) hx hb dL_law_2400 (by decide) ?_
    refine W.lcmp hx hb dL_law_2401 ?_
    refine lv_if_eq (tgt := 2407) hx hb dL_law_2402 (by decide) (fun _ => ?_) (fun c_11 => absurd (tp_cmp _) c_11)
    refine lv_goto (tgt := 2504) hx hb dL_law_2407 (by decide) ?_
    exact tc_end hd0 hs C1 hX (Nat.le_of_ble_eq_true rfl) (Nat.le_of_ble_eq_true rfl) H _ ls hS (lv_sub hl [2, 6] rfl)
set_option maxRecDepth 100000 in
set_option maxHeartbeats 4000000 in
/-- the case 37 out -/
theorem tc_37_out {p : Program} {l : Launch} {e : Env} {s0 s : State} {m : MethodId} {below : List Frame} {meth : Method} {c : Code} {A : Nat → Prop} (hst : l.stackTraces = false) {dC : Nat → ClassId} {dI : Nat → Nat → Nat} {cy : Nat → ClassId} {b : Nat} {xs : Nat → Int32} {d0 : Drawn} (hd0 : s0.drawn.sameBut d0 lw_cs) (hs : s = s0.setDrawn d0) (C1 : tc_At p s m meth c b #[Value.ref b] A dC dI cy) (hX : va_X b 7 xs s s.heap) {a0 : Nat} {a1 : Nat} {a2 : Nat} {aT : Nat} {b1 : Nat} {b2 : Nat} {b3 : Nat} {b4 : Nat} {b5 : Nat} {b6 : Nat} {b7 : Nat} {m0 : Nat} {w0 : Nat} {o0 : Nat} {r_phases : Nat} {r_phase : Nat} {r_phaseTicks : Nat} {r_set : Nat} {r_least : Nat} {r_greatest : Nat} {r_from : Nat} {r_to : Nat} {r_time : Nat} {r_room : Nat} {r_first : Nat} {r_rate : Nat} {r_cost : Nat} {r_isShut : Nat} {r_slowed : Nat} {r_row : Nat} {r_size : Nat} {r_came : Nat} {r_left : Nat} {r_mostQueue : Nat} {r_sumQueue : Nat} {r_turned : Nat} {r_flowFrom : Nat} {r_flowTo : Nat} {r_kind : Nat} {r_start : Nat} {r_period : Nat} {r_count : Nat} {r_flow : Nat} {r_began : Nat} {r_state : Nat} {r_link : Nat} {r_end : Nat} {r_gone : Nat} {r_trip : Nat} {r_delay : Nat} {r_way : Nat} (hc : ¬ ((1 : Int32) ≤ xs (0 + 1 : Int32).toNatClampNeg ∧ xs (0 + 1 : Int32).toNatClampNeg ≤ 60)) (H : Heap) (locs : List Loc) (ls : Array Slot) (hP : va_P (dC, dI) vwCl [(a0, .inr (8, [.ref a1, .ref aT])), (a1, .inr (5, [.ref a2, .ref b1, .ref b2, .ref b3, .ref b4, .ref b5, .int 0, .int 1, .int 0, .int 0, .int 0, .int 0])), (a2, .inr (2, [.ref b6, .int 0, .ref b7, .int 0])), (m0, .inr (10, [.ref w0, .int 0])), (w0, .inr (9, [.int 0, .int 1, .int 0, .ref r_phases, .ref r_phase, .ref r_phaseTicks, .ref r_set, .ref r_least, .ref r_greatest, .int 0, .ref r_from, .ref r_to, .ref r_time, .ref r_room, .ref r_first, .ref r_rate, .ref r_cost, .ref r_isShut, .ref r_slowed, .ref r_row, .ref r_size, .ref r_came, .ref r_left, .ref r_mostQueue, .ref r_sumQueue, .ref r_turned, .int 0, .ref r_flowFrom, .ref r_flowTo, .ref r_kind, .ref r_start, .ref r_period, .ref r_count, .int 0, .ref r_flow, .ref r_began, .ref r_state, .ref r_link, .ref r_end, .ref r_gone, .ref r_trip, .ref r_delay, .ref r_way])), (o0, .inl (cy 1, 1, .inr (.inl ((fun _ => 0)))))] H) (hD : va_D A [(a0, .inr (8, [.ref a1, .ref aT])), (a1, .inr (5, [.ref a2, .ref b1, .ref b2, .ref b3, .ref b4, .ref b5, .int 0, .int 1, .int 0, .int 0, .int 0, .int 0])), (a2, .inr (2, [.ref b6, .int 0, .ref b7, .int 0])), (m0, .inr (10, [.ref w0, .int 0])), (w0, .inr (9, [.int 0, .int 1, .int 0, .ref r_phases, .ref r_phase, .ref r_phaseTicks, .ref r_set, .ref r_least, .ref r_greatest, .int 0, .ref r_from, .ref r_to, .ref r_time, .ref r_room, .ref r_first, .ref r_rate, .ref r_cost, .ref r_isShut, .ref r_slowed, .ref r_row, .ref r_size, .ref r_came, .ref r_left, .ref r_mostQueue, .ref r_sumQueue, .ref r_turned, .int 0, .ref r_flowFrom, .ref r_flowTo, .ref r_kind, .ref r_start, .ref r_period, .ref r_count, .int 0, .ref r_flow, .ref r_began, .ref r_state, .ref r_link, .ref r_end, .ref r_gone, .ref r_trip, .ref r_delay, .ref r_way])), (o0, .inl (cy 1, 1, .inr (.inl ((fun _ => 0)))))]) (hS : va_S A s.heap H locs) (hl : lv_has ls 9 [(0, .ref b), (1, .ref a0), (2, .ref m0), (3, .ref o0), (4, .int 0)]) : W p l e room_1 s m #[Value.ref b] below meth c H locs 1535 31585 (lw_Z below #[Value.ref b] s0) (F0 m 2354 ls []) := by
  have C2 := C1
  obtain ⟨hx, hb, hr, hml, hown, hts, hbl, hlocks, hK, hE, hZ, hA, hbA, hA2⟩ := C2
  refine lv_aload_n hx hb dL_law_2354 rfl (lv_at hl 1 rfl) ?_
  refine lv_aload_n hx hb dL_law_2355 rfl (lv_at hl 0 rfl) ?_
  refine lv_iload hx hb dL_law_2356 (lv_at hl 4 rfl) ?_
  refine lv_iconst (v := 1) hx hb dL_law_2358 (by decide) ?_
  refine lv_iadd hx hb dL_law_2359 ?_
  refine va_sld hx hb hX hbl hbA hS (by unfold vp_in; decide) dL_law_2360 ?_
  refine lv_aload_n hx hb dL_law_2361 rfl (lv_at hl 3 rfl) ?_
  have hFc := va_free (wc := [(a0, .inr (8, [.ref a1, .ref aT])), (a1, .inr (5, [.ref a2, .ref b1, .ref b2, .ref b3, .ref b4, .ref b5, .int 0, .int 1, .int 0, .int 0, .int 0, .int 0])), (a2, .inr (2, [.ref b6, .int 0, .ref b7, .int 0])), (o0, .inl (cy 1, 1, .inr (.inl ((fun _ => 0)))))]) hD hS hA [0, 1, 2, 5] rfl
  refine vx_calli (vx_runSX (As := [.ref a0, .int (xs (0 + 1 : Int32).toNatClampNeg), .ref o0]) (rest := []) ⟨hx, hb, hml, hown, hts⟩ (tm_L_emptyIn_out l hst dC dI cy a0 a1 a2 aT b1 b2 b3 b4 b5 b6 b7 o0 (xs (0 + 1 : Int32).toNatClampNeg) H.size (by first | assumption | exact tp_none _ | decide | omega)) (tp_cwSW 3 hts tw_1105 tw_1106 tw_37 tw_1107 rfl rfl (by decide +kernel) ⟨Nat.le_of_ble_eq_true rfl, Nat.le_of_ble_eq_true rfl⟩) ⟨tp_blind, fun U hU hW => ⟨rfl, tp_pay hK hP hD hE hZ hS [0, 1, 2, 5] (by decide) rfl hFc U hU hW⟩⟩ rfl rfl hl.1 rfl (lv_room (Nat.le_of_ble_eq_true rfl)) dL_law_2362 ⟨(Nat.le_of_ble_eq_true rfl), (Nat.le_of_ble_eq_true rfl)⟩) hS (fun q _ h => hFc q h) hFc (fun q _ h => hFc q h) (fun E9 ce q9 u t H1 locs ht hvm hw hB hz1 hk1 hS hce hcv hcl => ?_) (fun r_1 u t H1 locs ht hvm hw hB hz1 hk1 hS => ?_)
  · obtain ⟨hE9, hB⟩ := hB
    exact hE9.elim
  · obtain rfl := hw
    obtain ⟨f_2, hP1, hD1⟩ := hB
    subst f_2
    rw [ht] at hP1
    obtain ⟨hP, hD⟩ := va_join (wr := [(m0, .inr (10, [.ref w0, .int 0])), (w0, .inr (9, [.int 0, .int 1, .int 0, .ref r_phases, .ref r_phase, .ref r_phaseTicks, .ref r_set, .ref r_least, .ref r_greatest, .int 0, .ref r_from, .ref r_to, .ref r_time, .ref r_room, .ref r_first, .ref r_rate, .ref r_cost, .ref r_isShut, .ref r_slowed, .ref r_row, .ref r_size, .ref r_came, .ref r_left, .ref r_mostQueue, .ref r_sumQueue, .ref r_turned, .int 0, .ref r_flowFrom, .ref r_flowTo, .ref r_kind, .ref r_start, .ref r_period, .ref r_count, .int 0, .ref r_flow, .ref r_began, .ref r_state, .ref r_link, .ref r_end, .ref r_gone, .ref r_trip, .ref r_delay, .ref r_way]))]) (w1 := [(o0, .inl (cy 1, 1, .inr (.inl ((fun _ => 0)))))]) hP hD [0, 1, 2, 5] [3, 4] rfl rfl (by decide) (by decide) hk1 hFc hP1 hD1
    generalize H1 = H at hP hS ⊢
    have hP : va_P (dC, dI) vwCl [(m0, .inr (10, [.ref w0, .int 0])), (w0, .inr (9, [.int 0, .int 1, .int 0, .ref r_phases, .ref r_phase, .ref r_phaseTicks, .ref r_set, .ref r_least, .ref r_greatest, .int 0, .ref r_from, .ref r_to, .ref r_time, .ref r_room, .ref r_first, .ref r_rate, .ref r_cost, .ref r_isShut, .ref r_slowed, .ref r_row, .ref r_size, .ref r_came, .ref r_left, .ref r_mostQueue, .ref r_sumQueue, .ref r_turned, .int 0, .ref r_flowFrom, .ref r_flowTo, .ref r_kind, .ref r_start, .ref r_period, .ref r_count, .int 0, .ref r_flow, .ref r_began, .ref r_state, .ref r_link, .ref r_end, .ref r_gone, .ref r_trip, .ref r_delay, .ref r_way])), (o0, .inl (cy 1, 1, .inr (.inl ((fun _ => 0)))))] _ := hP
    have hD : va_D A [(m0, .inr (10, [.ref w0, .int 0])), (w0, .inr (9, [.int 0, .int 1, .int 0, .ref r_phases, .ref r_phase, .ref r_phaseTicks, .ref r_set, .ref r_least, .ref r_greatest, .int 0, .ref r_from, .ref r_to, .ref r_time, .ref r_room, .ref r_first, .ref r_rate, .ref r_cost, .ref r_isShut, .ref r_slowed, .ref r_row, .ref r_size, .ref r_came, .ref r_left, .ref r_mostQueue, .ref r_sumQueue, .ref r_turned, .int 0, .ref r_flowFrom, .ref r_flowTo, .ref r_kind, .ref r_start, .ref r_period, .ref r_count, .int 0, .ref r_flow, .ref r_began, .ref r_state, .ref r_link, .ref r_end, .ref r_gone, .ref r_trip, .ref r_delay, .ref r_way])), (o0, .inl (cy 1, 1, .inr (.inl ((fun _ => 0)))))] := hD
    refine lv_istore (lv' := [(5, .int 1), (0, .ref b), (1, .ref a0), (2, .ref m0), (3, .ref o0), (4, .int 0)]) hx hb dL_law_2365 hl (by decide) rfl (fun ls hl => ?_)
    refine lv_aload_n hx hb dL_law_2367 rfl (lv_at hl 3 rfl) ?_
    refine lv_aload_n hx hb dL_law_2368 rfl (lv_at hl 1 rfl) ?_
    refine lv_iload hx hb dL_law_2369 (lv_at hl 5 rfl) ?_
    refine lv_iconst (v := 1) hx hb dL_law_2371 (by decide) ?_
    refine lv_iadd hx hb dL_law_2372 ?_
    refine va_sld hx hb hX hbl hbA hS (by unfold vp_in; decide) dL_law_2373 ?_
    have hFc := va_free (wc := [(m0, .inr (10, [.ref w0, .int 0])), (w0, .inr (9, [.int 0, .int 1, .int 0, .ref r_phases, .ref r_phase, .ref r_phaseTicks, .ref r_set, .ref r_least, .ref r_greatest, .int 0, .ref r_from, .ref r_to, .ref r_time, .ref r_room, .ref r_first, .ref r_rate, .ref r_cost, .ref r_isShut, .ref r_slowed, .ref r_row, .ref r_size, .ref r_came, .ref r_left, .ref r_mostQueue, .ref r_sumQueue, .ref r_turned, .int 0, .ref r_flowFrom, .ref r_flowTo, .ref r_kind, .ref r_start, .ref r_period, .ref r_count, .int 0, .ref r_flow, .ref r_began, .ref r_state, .ref r_link, .ref r_end, .ref r_gone, .ref r_trip, .ref r_delay, .ref r_way]))]) hD hS hA [0, 1] rfl
    refine va_calli (va_runV (As := [.int (xs (0 + 1 : Int32).toNatClampNeg)]) (rest := []) ⟨hx, hb, hml, hown, hts⟩ (tm_m_emptyIn_out l hst dC dI cy m0 w0 0 r_phases r_phase r_phaseTicks r_set r_least r_greatest r_from r_to r_time r_room r_first r_rate r_cost r_isShut r_slowed r_row r_size r_came r_left r_mostQueue r_sumQueue r_turned r_flowFrom r_flowTo r_kind r_start r_period r_count r_flow r_began r_state r_link r_end r_gone r_trip r_delay r_way (xs (0 + 1 : Int32).toNatClampNeg) H.size (by first | assumption | exact tp_none _ | decide | omega)) (tp_cwV 1 hts tw_1591 tw_1592 tw_1593 tw_48 tw_1594 rfl rfl (by decide +kernel) ⟨Nat.le_of_ble_eq_true rfl, Nat.le_of_ble_eq_true rfl⟩) ⟨tp_blind, va_recv hK hP (ci := 10) (q0 := 0) rfl rfl, fun U hU hW => ⟨rfl, tp_pay hK hP hD hE hZ hS [0, 1] (by decide) rfl hFc U hU hW⟩⟩ rfl rfl hl.1 rfl (lv_room (Nat.le_of_ble_eq_true rfl)) dL_law_2374 ⟨(Nat.le_of_ble_eq_true rfl), (Nat.le_of_ble_eq_true rfl)⟩) hS (fun q _ h => hFc q h) hFc (fun r_3 u t H1 locs ht hvm hw hB hz1 hk1 hS => ?_)
    obtain rfl := hw
    obtain ⟨f_4, hP1, hD1⟩ := hB
    subst f_4
    rw [ht] at hP1
    obtain ⟨hP, hD⟩ := va_join (wr := [(o0, .inl (cy 1, 1, .inr (.inl ((fun _ => 0)))))]) (w1 := [(m0, .inr (10, [.ref w0, .int 1]))]) hP hD [0, 1] [2] rfl rfl (by decide) (by decide) hk1 hFc hP1 hD1
    generalize H1 = H at hP hS ⊢
    have hP : va_P (dC, dI) vwCl [(o0, .inl (cy 1, 1, .inr (.inl ((fun _ => 0))))), (m0, .inr (10, [.ref w0, .int 1]))] _ := hP
    have hD : va_D A [(o0, .inl (cy 1, 1, .inr (.inl ((fun _ => 0))))), (m0, .inr (10, [.ref w0, .int 1]))] := hD
    refine lv_istore (lv' := [(6, .int 0), (5, .int 1), (0, .ref b), (1, .ref a0), (2, .ref m0), (3, .ref o0), (4, .int 0)]) hx hb dL_law_2377 hl (by decide) rfl (fun ls hl => ?_)
    refine lv_aload_n hx hb dL_law_2379 rfl (lv_at hl 4 rfl) ?_
    have hFc := va_free (wc := [(m0, .inr (10, [.ref w0, .int 1]))]) hD hS hA [1] rfl
    refine va_calli (va_runV (As := []) (rest := []) ⟨hx, hb, hml, hown, hts⟩ (tm_m_thrown l hst dC dI cy m0 w0 1 H.size) (tp_cwV 0 hts tw_1317 tw_1318 tw_1319 tw_48 tw_1320 rfl rfl (by decide +kernel) ⟨Nat.le_of_ble_eq_true rfl, Nat.le_of_ble_eq_true rfl⟩) ⟨tp_blind, va_recv hK hP (ci := 10) (q0 := 1) rfl rfl, fun U hU hW => ⟨rfl, tp_pay hK hP hD hE hZ hS [1] (by decide) rfl hFc U hU hW⟩⟩ rfl rfl hl.1 rfl (lv_room (Nat.le_of_ble_eq_true rfl)) dL_law_2380 ⟨(Nat.le_of_ble_eq_true rfl), (Nat.le_of_ble_eq_true rfl)⟩) hS (fun q _ h => hFc q h) hFc (fun r_5 u t H1 locs ht hvm hw hB hz1 hk1 hS => ?_)
    obtain rfl := hw
    obtain ⟨f_6, hP1, hD1⟩ := hB
    subst f_6
    rw [ht] at hP1
    obtain ⟨hP, hD⟩ := va_join (wr := [(o0, .inl (cy 1, 1, .inr (.inl ((fun _ => 0)))))]) (w1 := [(m0, .inr (10, [.ref w0, .int 1]))]) hP hD [1] [0] rfl rfl (by decide) (by decide) hk1 hFc hP1 hD1
    generalize H1 = H at hP hS ⊢
    have hP : va_P (dC, dI) vwCl [(o0, .inl (cy 1, 1, .inr (.inl ((fun _ => 0))))), (m0, .inr (10, [.ref w0, .int 1]))] _ := hP
    have hD : va_D A [(o0, .inl (cy 1, 1, .inr (.inl ((fun _ => 0))))), (m0, .inr (10, [.ref w0, .int 1]))] := hD
    refine lv_iload hx hb dL_law_2383 (lv_at hl 1 rfl) ?_
    refine lv_icmp_eq (tgt := 2390) hx hb dL_law_2385 (by decide) (fun _ => ?_) (fun c_7 => absurd rfl c_7)
    refine lv_iload hx hb dL_law_2390 (lv_at hl 1 rfl) ?_
    refine lv_if_ne (tgt := 2407) hx hb dL_law_2392 (by decide) (fun _ => ?_) (fun c_8 => absurd c_8 (by decide))
    refine lv_goto (tgt := 2504) hx hb dL_law_2407 (by decide) ?_
    exact tc_end hd0 hs C1 hX (Nat.le_of_ble_eq_true rfl) (Nat.le_of_ble_eq_true rfl) H _ ls hS (lv_sub hl [2, 6] rfl)
theorem tw_1114 : Cond.codeWith yL_distanceWithout cL_distanceWithout 6 (some .int) [(0, 12, 15, 19)] ∈ tp_all := tp_mem 1114 (by decide +kernel) rfl
theorem tw_1112 : Cond.methodLink RL 261 yL_distanceWithout ∈ tp_all := tp_mem 1112 (by decide +kernel) rfl
theorem tw_1113 : Cond.static yL_distanceWithout ∈ tp_all := tp_mem 1113 (by decide +kernel) rfl
theorem tw_1602 : Cond.code yX10_distanceWithout cX10_distanceWithout 4 (some .int) ∈ tp_all := tp_mem 1602 (by decide +kernel) rfl
theorem tw_1599 : Cond.methodLink RL 263 yX10_distanceWithout ∈ tp_all := tp_mem 1599 (by decide +kernel) rfl
theorem tw_1600 : Cond.instanceMethod yX10_distanceWithout ∈ tp_all := tp_mem 1600 (by decide +kernel) rfl
theorem tw_1601 : Cond.selects RX10 yX10_distanceWithout yX10_distanceWithout ∈ tp_all := tp_mem 1601 (by decide +kernel) rfl
theorem dL_law_2410 : decode cL_law 2410 = .ok (.aload_n 1, 1) := by decide +kernel
theorem dL_law_2411 : decode cL_law 2411 = .ok (.aload_n 0, 1) := by decide +kernel
theorem dL_law_2412 : decode cL_law 2412 = .ok (.iload 4, 2) := by decide +kernel
theorem dL_law_2414 : decode cL_law 2414 = .ok (.iconst 1, 1) := by decide +kernel
theorem dL_law_2415 : decode cL_law 2415 = .ok (.iadd, 1) := by decide +kernel
theorem dL_law_2416 : decode cL_law 2416 = .ok (.iaload, 1) := by decide +kernel
theorem dL_law_2417 : decode cL_law 2417 = .ok (.aload_n 0, 1) := by decide +kernel
theorem dL_law_2418 : decode cL_law 2418 = .ok (.iload 4, 2) := by decide +kernel
theorem dL_law_2420 : decode cL_law 2420 = .ok (.iconst 2, 1) := by decide +kernel
theorem dL_law_2421 : decode cL_law 2421 = .ok (.iadd, 1) := by decide +kernel
theorem dL_law_2422 : decode cL_law 2422 = .ok (.iaload, 1) := by decide +kernel
theorem dL_law_2423 : decode cL_law 2423 = .ok (.aload_n 0, 1) := by decide +kernel
theorem dL_law_2424 : decode cL_law 2424 = .ok (.iload 4, 2) := by decide +kernel
theorem dL_law_2426 : decode cL_law 2426 = .ok (.iconst 3, 1) := by decide +kernel
theorem dL_law_2427 : decode cL_law 2427 = .ok (.iadd, 1) := by decide +kernel
theorem dL_law_2428 : decode cL_law 2428 = .ok (.iaload, 1) := by decide +kernel
theorem dL_law_2429 : decode cL_law 2429 = .ok (.aload_n 3, 1) := by decide +kernel
theorem dL_law_2430 : decode cL_law 2430 = .ok (.invokestatic 261, 3) := by decide +kernel
theorem dL_law_2433 : decode cL_law 2433 = .ok (.istore 5, 2) := by decide +kernel
theorem dL_law_2435 : decode cL_law 2435 = .ok (.aload_n 2, 1) := by decide +kernel
theorem dL_law_2436 : decode cL_law 2436 = .ok (.aload_n 0, 1) := by decide +kernel
theorem dL_law_2437 : decode cL_law 2437 = .ok (.iload 4, 2) := by decide +kernel
theorem dL_law_2439 : decode cL_law 2439 = .ok (.iconst 1, 1) := by decide +kernel
theorem dL_law_2440 : decode cL_law 2440 = .ok (.iadd, 1) := by decide +kernel
theorem dL_law_2441 : decode cL_law 2441 = .ok (.iaload, 1) := by decide +kernel
theorem dL_law_2442 : decode cL_law 2442 = .ok (.aload_n 0, 1) := by decide +kernel
theorem dL_law_2443 : decode cL_law 2443 = .ok (.iload 4, 2) := by decide +kernel
theorem dL_law_2445 : decode cL_law 2445 = .ok (.iconst 2, 1) := by decide +kernel
theorem dL_law_2446 : decode cL_law 2446 = .ok (.iadd, 1) := by decide +kernel
theorem dL_law_2447 : decode cL_law 2447 = .ok (.iaload, 1) := by decide +kernel
theorem dL_law_2448 : decode cL_law 2448 = .ok (.aload_n 0, 1) := by decide +kernel
theorem dL_law_2449 : decode cL_law 2449 = .ok (.iload 4, 2) := by decide +kernel
theorem dL_law_2451 : decode cL_law 2451 = .ok (.iconst 3, 1) := by decide +kernel
theorem dL_law_2452 : decode cL_law 2452 = .ok (.iadd, 1) := by decide +kernel
theorem dL_law_2453 : decode cL_law 2453 = .ok (.iaload, 1) := by decide +kernel
theorem dL_law_2454 : decode cL_law 2454 = .ok (.invokevirtual 263, 3) := by decide +kernel
theorem dL_law_2457 : decode cL_law 2457 = .ok (.istore 6, 2) := by decide +kernel
theorem dL_law_2459 : decode cL_law 2459 = .ok (.aload_n 2, 1) := by decide +kernel
theorem dL_law_2460 : decode cL_law 2460 = .ok (.invokevirtual 133, 3) := by decide +kernel
theorem dL_law_2463 : decode cL_law 2463 = .ok (.iload 5, 2) := by decide +kernel
theorem dL_law_2465 : decode cL_law 2465 = .ok (.if_icmp .eq 5, 3) := by decide +kernel
theorem dL_law_2470 : decode cL_law 2470 = .ok (.iload 5, 2) := by decide +kernel
theorem dL_law_2472 : decode cL_law 2472 = .ok (.ifCond .ne 15, 3) := by decide +kernel
theorem dL_law_2487 : decode cL_law 2487 = .ok (.goto 17, 3) := by decide +kernel
set_option maxRecDepth 100000 in
set_option maxHeartbeats 4000000 in
/-- the case 38 -/
theorem tc_38 {p : Program} {l : Launch} {e : Env} {s0 s : State} {m : MethodId} {below : List Frame} {meth : Method} {c : Code} {A : Nat → Prop} (hst : l.stackTraces = false) {dC : Nat → ClassId} {dI : Nat → Nat → Nat} {cy : Nat → ClassId} {b : Nat} {xs : Nat → Int32} {d0 : Drawn} (hd0 : s0.drawn.sameBut d0 lw_cs) (hs : s = s0.setDrawn d0) (C1 : tc_At p s m meth c b #[Value.ref b] A dC dI cy) (hX : va_X b 7 xs s s.heap) {a0 : Nat} {a1 : Nat} {a2 : Nat} {aT : Nat} {b1 : Nat} {b2 : Nat} {b3 : Nat} {b4 : Nat} {b5 : Nat} {b6 : Nat} {b7 : Nat} {m0 : Nat} {w0 : Nat} {o0 : Nat} {r_phases : Nat} {r_phase : Nat} {r_phaseTicks : Nat} {r_set : Nat} {r_least : Nat} {r_greatest : Nat} {r_from : Nat} {r_to : Nat} {r_time : Nat} {r_room : Nat} {r_first : Nat} {r_rate : Nat} {r_cost : Nat} {r_isShut : Nat} {r_slowed : Nat} {r_row : Nat} {r_size : Nat} {r_came : Nat} {r_left : Nat} {r_mostQueue : Nat} {r_sumQueue : Nat} {r_turned : Nat} {r_flowFrom : Nat} {r_flowTo : Nat} {r_kind : Nat} {r_start : Nat} {r_period : Nat} {r_count : Nat} {r_flow : Nat} {r_began : Nat} {r_state : Nat} {r_link : Nat} {r_end : Nat} {r_gone : Nat} {r_trip : Nat} {r_delay : Nat} {r_way : Nat} (H : Heap) (locs : List Loc) (ls : Array Slot) (hP : va_P (dC, dI) vwCl [(a0, .inr (8, [.ref a1, .ref aT])), (a1, .inr (5, [.ref a2, .ref b1, .ref b2, .ref b3, .ref b4, .ref b5, .int 0, .int 1, .int 0, .int 0, .int 0, .int 0])), (a2, .inr (2, [.ref b6, .int 0, .ref b7, .int 0])), (m0, .inr (10, [.ref w0, .int 0])), (w0, .inr (9, [.int 0, .int 1, .int 0, .ref r_phases, .ref r_phase, .ref r_phaseTicks, .ref r_set, .ref r_least, .ref r_greatest, .int 0, .ref r_from, .ref r_to, .ref r_time, .ref r_room, .ref r_first, .ref r_rate, .ref r_cost, .ref r_isShut, .ref r_slowed, .ref r_row, .ref r_size, .ref r_came, .ref r_left, .ref r_mostQueue, .ref r_sumQueue, .ref r_turned, .int 0, .ref r_flowFrom, .ref r_flowTo, .ref r_kind, .ref r_start, .ref r_period, .ref r_count, .int 0, .ref r_flow, .ref r_began, .ref r_state, .ref r_link, .ref r_end, .ref r_gone, .ref r_trip, .ref r_delay, .ref r_way])), (o0, .inl (cy 1, 1, .inr (.inl ((fun _ => 0)))))] H) (hD : va_D A [(a0, .inr (8, [.ref a1, .ref aT])), (a1, .inr (5, [.ref a2, .ref b1, .ref b2, .ref b3, .ref b4, .ref b5, .int 0, .int 1, .int 0, .int 0, .int 0, .int 0])), (a2, .inr (2, [.ref b6, .int 0, .ref b7, .int 0])), (m0, .inr (10, [.ref w0, .int 0])), (w0, .inr (9, [.int 0, .int 1, .int 0, .ref r_phases, .ref r_phase, .ref r_phaseTicks, .ref r_set, .ref r_least, .ref r_greatest, .int 0, .ref r_from, .ref r_to, .ref r_time, .ref r_room, .ref r_first, .ref r_rate, .ref r_cost, .ref r_isShut, .ref r_slowed, .ref r_row, .ref r_size, .ref r_came, .ref r_left, .ref r_mostQueue, .ref r_sumQueue, .ref r_turned, .int 0, .ref r_flowFrom, .ref r_flowTo, .ref r_kind, .ref r_start, .ref r_period, .ref r_count, .int 0, .ref r_flow, .ref r_began, .ref r_state, .ref r_link, .ref r_end, .ref r_gone, .ref r_trip, .ref r_delay, .ref r_way])), (o0, .inl (cy 1, 1, .inr (.inl ((fun _ => 0)))))]) (hS : va_S A s.heap H locs) (hl : lv_has ls 9 [(0, .ref b), (1, .ref a0), (2, .ref m0), (3, .ref o0), (4, .int 0)]) : W p l e room_1 s m #[Value.ref b] below meth c H locs 1535 31585 (lw_Z below #[Value.ref b] s0) (F0 m 2410 ls []) := by
  have C2 := C1
  obtain ⟨hx, hb, hr, hml, hown, hts, hbl, hlocks, hK, hE, hZ, hA, hbA, hA2⟩ := C2
  refine lv_aload_n hx hb dL_law_2410 rfl (lv_at hl 1 rfl) ?_
  refine lv_aload_n hx hb dL_law_2411 rfl (lv_at hl 0 rfl) ?_
  refine lv_iload hx hb dL_law_2412 (lv_at hl 4 rfl) ?_
  refine lv_iconst (v := 1) hx hb dL_law_2414 (by decide) ?_
  refine lv_iadd hx hb dL_law_2415 ?_
  refine va_sld hx hb hX hbl hbA hS (by unfold vp_in; decide) dL_law_2416 ?_
  refine lv_aload_n hx hb dL_law_2417 rfl (lv_at hl 0 rfl) ?_
  refine lv_iload hx hb dL_law_2418 (lv_at hl 4 rfl) ?_
  refine lv_iconst (v := 2) hx hb dL_law_2420 (by decide) ?_
  refine lv_iadd hx hb dL_law_2421 ?_
  refine va_sld hx hb hX hbl hbA hS (by unfold vp_in; decide) dL_law_2422 ?_
  refine lv_aload_n hx hb dL_law_2423 rfl (lv_at hl 0 rfl) ?_
  refine lv_iload hx hb dL_law_2424 (lv_at hl 4 rfl) ?_
  refine lv_iconst (v := 3) hx hb dL_law_2426 (by decide) ?_
  refine lv_iadd hx hb dL_law_2427 ?_
  refine va_sld hx hb hX hbl hbA hS (by unfold vp_in; decide) dL_law_2428 ?_
  refine lv_aload_n hx hb dL_law_2429 rfl (lv_at hl 3 rfl) ?_
  have hFc := va_free (wc := [(a0, .inr (8, [.ref a1, .ref aT])), (a1, .inr (5, [.ref a2, .ref b1, .ref b2, .ref b3, .ref b4, .ref b5, .int 0, .int 1, .int 0, .int 0, .int 0, .int 0])), (a2, .inr (2, [.ref b6, .int 0, .ref b7, .int 0])), (o0, .inl (cy 1, 1, .inr (.inl ((fun _ => 0)))))]) hD hS hA [0, 1, 2, 5] rfl
  refine vx_calli (vx_runSX (As := [.ref a0, .int (xs (0 + 1 : Int32).toNatClampNeg), .int (xs (0 + 2 : Int32).toNatClampNeg), .int (xs (0 + 3 : Int32).toNatClampNeg), .ref o0]) (rest := []) ⟨hx, hb, hml, hown, hts⟩ (tm_L_distanceWithout l hst dC dI cy a0 a1 a2 aT b1 b2 b3 b4 b5 b6 b7 o0 (xs (0 + 1 : Int32).toNatClampNeg) (xs (0 + 2 : Int32).toNatClampNeg) (xs (0 + 3 : Int32).toNatClampNeg) H.size) (tp_cwSW 5 hts tw_1112 tw_1113 tw_37 tw_1114 rfl rfl (by decide +kernel) ⟨Nat.le_of_ble_eq_true rfl, Nat.le_of_ble_eq_true rfl⟩) ⟨tp_blind, fun U hU hW => ⟨rfl, tp_pay hK hP hD hE hZ hS [0, 1, 2, 5] (by decide) rfl hFc U hU hW⟩⟩ rfl rfl hl.1 rfl (lv_room (Nat.le_of_ble_eq_true rfl)) dL_law_2430 ⟨(Nat.le_of_ble_eq_true rfl), (Nat.le_of_ble_eq_true rfl)⟩) hS (fun q _ h => hFc q h) hFc (fun q _ h => hFc q h) (fun E9 ce q9 u t H1 locs ht hvm hw hB hz1 hk1 hS hce hcv hcl => ?_) (fun r_1 u t H1 locs ht hvm hw hB hz1 hk1 hS => ?_)
  · obtain ⟨hE9, hB⟩ := hB
    exact hE9.elim
  · obtain rfl := hw
    obtain ⟨f_2, hP1, hD1⟩ := hB
    subst f_2
    rw [ht] at hP1
    obtain ⟨hP, hD⟩ := va_join (wr := [(m0, .inr (10, [.ref w0, .int 0])), (w0, .inr (9, [.int 0, .int 1, .int 0, .ref r_phases, .ref r_phase, .ref r_phaseTicks, .ref r_set, .ref r_least, .ref r_greatest, .int 0, .ref r_from, .ref r_to, .ref r_time, .ref r_room, .ref r_first, .ref r_rate, .ref r_cost, .ref r_isShut, .ref r_slowed, .ref r_row, .ref r_size, .ref r_came, .ref r_left, .ref r_mostQueue, .ref r_sumQueue, .ref r_turned, .int 0, .ref r_flowFrom, .ref r_flowTo, .ref r_kind, .ref r_start, .ref r_period, .ref r_count, .int 0, .ref r_flow, .ref r_began, .ref r_state, .ref r_link, .ref r_end, .ref r_gone, .ref r_trip, .ref r_delay, .ref r_way]))]) (w1 := [(o0, .inl (cy 1, 1, .inr (.inl ((fun _ => 0)))))]) hP hD [0, 1, 2, 5] [3, 4] rfl rfl (by decide) (by decide) hk1 hFc hP1 hD1
    generalize H1 = H at hP hS ⊢
    have hP : va_P (dC, dI) vwCl [(m0, .inr (10, [.ref w0, .int 0])), (w0, .inr (9, [.int 0, .int 1, .int 0, .ref r_phases, .ref r_phase, .ref r_phaseTicks, .ref r_set, .ref r_least, .ref r_greatest, .int 0, .ref r_from, .ref r_to, .ref r_time, .ref r_room, .ref r_first, .ref r_rate, .ref r_cost, .ref r_isShut, .ref r_slowed, .ref r_row, .ref r_size, .ref r_came, .ref r_left, .ref r_mostQueue, .ref r_sumQueue, .ref r_turned, .int 0, .ref r_flowFrom, .ref r_flowTo, .ref r_kind, .ref r_start, .ref r_period, .ref r_count, .int 0, .ref r_flow, .ref r_began, .ref r_state, .ref r_link, .ref r_end, .ref r_gone, .ref r_trip, .ref r_delay, .ref r_way])), (o0, .inl (cy 1, 1, .inr (.inl ((fun _ => 0)))))] _ := hP
    have hD : va_D A [(m0, .inr (10, [.ref w0, .int 0])), (w0, .inr (9, [.int 0, .int 1, .int 0, .ref r_phases, .ref r_phase, .ref r_phaseTicks, .ref r_set, .ref r_least, .ref r_greatest, .int 0, .ref r_from, .ref r_to, .ref r_time, .ref r_room, .ref r_first, .ref r_rate, .ref r_cost, .ref r_isShut, .ref r_slowed, .ref r_row, .ref r_size, .ref r_came, .ref r_left, .ref r_mostQueue, .ref r_sumQueue, .ref r_turned, .int 0, .ref r_flowFrom, .ref r_flowTo, .ref r_kind, .ref r_start, .ref r_period, .ref r_count, .int 0, .ref r_flow, .ref r_began, .ref r_state, .ref r_link, .ref r_end, .ref r_gone, .ref r_trip, .ref r_delay, .ref r_way])), (o0, .inl (cy 1, 1, .inr (.inl ((fun _ => 0)))))] := hD
    refine lv_istore (lv' := [(5, .int 1), (0, .ref b), (1, .ref a0), (2, .ref m0), (3, .ref o0), (4, .int 0)]) hx hb dL_law_2433 hl (by decide) rfl (fun ls hl => ?_)
    refine lv_aload_n hx hb dL_law_2435 rfl (lv_at hl 3 rfl) ?_
    refine lv_aload_n hx hb dL_law_2436 rfl (lv_at hl 1 rfl) ?_
    refine lv_iload hx hb dL_law_2437 (lv_at hl 5 rfl) ?_
    refine lv_iconst (v := 1) hx hb dL_law_2439 (by decide) ?_
    refine lv_iadd hx hb dL_law_2440 ?_
    refine va_sld hx hb hX hbl hbA hS (by unfold vp_in; decide) dL_law_2441 ?_
    refine lv_aload_n hx hb dL_law_2442 rfl (lv_at hl 1 rfl) ?_
    refine lv_iload hx hb dL_law_2443 (lv_at hl 5 rfl) ?_
    refine lv_iconst (v := 2) hx hb dL_law_2445 (by decide) ?_
    refine lv_iadd hx hb dL_law_2446 ?_
    refine va_sld hx hb hX hbl hbA hS (by unfold vp_in; decide) dL_law_2447 ?_
    refine lv_aload_n hx hb dL_law_2448 rfl (lv_at hl 1 rfl) ?_
    refine lv_iload hx hb dL_law_2449 (lv_at hl 5 rfl) ?_
    refine lv_iconst (v := 3) hx hb dL_law_2451 (by decide) ?_
    refine lv_iadd hx hb dL_law_2452 ?_
    refine va_sld hx hb hX hbl hbA hS (by unfold vp_in; decide) dL_law_2453 ?_
    have hFc := va_free (wc := [(m0, .inr (10, [.ref w0, .int 0])), (w0, .inr (9, [.int 0, .int 1, .int 0, .ref r_phases, .ref r_phase, .ref r_phaseTicks, .ref r_set, .ref r_least, .ref r_greatest, .int 0, .ref r_from, .ref r_to, .ref r_time, .ref r_room, .ref r_first, .ref r_rate, .ref r_cost, .ref r_isShut, .ref r_slowed, .ref r_row, .ref r_size, .ref r_came, .ref r_left, .ref r_mostQueue, .ref r_sumQueue, .ref r_turned, .int 0, .ref r_flowFrom, .ref r_flowTo, .ref r_kind, .ref r_start, .ref r_period, .ref r_count, .int 0, .ref r_flow, .ref r_began, .ref r_state, .ref r_link, .ref r_end, .ref r_gone, .ref r_trip, .ref r_delay, .ref r_way]))]) hD hS hA [0, 1] rfl
    refine va_calli (va_runV (As := [.int (xs (0 + 1 : Int32).toNatClampNeg), .int (xs (0 + 2 : Int32).toNatClampNeg), .int (xs (0 + 3 : Int32).toNatClampNeg)]) (rest := []) ⟨hx, hb, hml, hown, hts⟩ (tm_m_distanceWithout l hst dC dI cy m0 w0 0 r_phases r_phase r_phaseTicks r_set r_least r_greatest r_from r_to r_time r_room r_first r_rate r_cost r_isShut r_slowed r_row r_size r_came r_left r_mostQueue r_sumQueue r_turned r_flowFrom r_flowTo r_kind r_start r_period r_count r_flow r_began r_state r_link r_end r_gone r_trip r_delay r_way (xs (0 + 1 : Int32).toNatClampNeg) (xs (0 + 2 : Int32).toNatClampNeg) (xs (0 + 3 : Int32).toNatClampNeg) H.size) (tp_cwV 3 hts tw_1599 tw_1600 tw_1601 tw_48 tw_1602 rfl rfl (by decide +kernel) ⟨Nat.le_of_ble_eq_true rfl, Nat.le_of_ble_eq_true rfl⟩) ⟨tp_blind, va_recv hK hP (ci := 10) (q0 := 0) rfl rfl, fun U hU hW => ⟨rfl, tp_pay hK hP hD hE hZ hS [0, 1] (by decide) rfl hFc U hU hW⟩⟩ rfl rfl hl.1 rfl (lv_room (Nat.le_of_ble_eq_true rfl)) dL_law_2454 ⟨(Nat.le_of_ble_eq_true rfl), (Nat.le_of_ble_eq_true rfl)⟩) hS (fun q _ h => hFc q h) hFc (fun r_3 u t H1 locs ht hvm hw hB hz1 hk1 hS => ?_)
    obtain rfl := hw
    obtain ⟨f_4, hP1, hD1⟩ := hB
    subst f_4
    rw [ht] at hP1
    obtain ⟨hP, hD⟩ := va_join (wr := [(o0, .inl (cy 1, 1, .inr (.inl ((fun _ => 0)))))]) (w1 := [(m0, .inr (10, [.ref w0, .int 1]))]) hP hD [0, 1] [2] rfl rfl (by decide) (by decide) hk1 hFc hP1 hD1
    generalize H1 = H at hP hS ⊢
    have hP : va_P (dC, dI) vwCl [(o0, .inl (cy 1, 1, .inr (.inl ((fun _ => 0))))), (m0, .inr (10, [.ref w0, .int 1]))] _ := hP
    have hD : va_D A [(o0, .inl (cy 1, 1, .inr (.inl ((fun _ => 0))))), (m0, .inr (10, [.ref w0, .int 1]))] := hD
    refine lv_istore (lv' := [(6, .int 0), (5, .int 1), (0, .ref b), (1, .ref a0), (2, .ref m0), (3, .ref o0), (4, .int 0)]) hx hb dL_law_2457 hl (by decide) rfl (fun ls hl => ?_)
    refine lv_aload_n hx hb dL_law_2459 rfl (lv_at hl 4 rfl) ?_
    have hFc := va_free (wc := [(m0, .inr (10, [.ref w0, .int 1]))]) hD hS hA [1] rfl
    refine va_calli (va_runV (As := []) (rest := []) ⟨hx, hb, hml, hown, hts⟩ (tm_m_thrown l hst dC dI cy m0 w0 1 H.size) (tp_cwV 0 hts tw_1317 tw_1318 tw_1319 tw_48 tw_1320 rfl rfl (by decide +kernel) ⟨Nat.le_of_ble_eq_true rfl, Nat.le_of_ble_eq_true rfl⟩) ⟨tp_blind, va_recv hK hP (ci := 10) (q0 := 1) rfl rfl, fun U hU hW => ⟨rfl, tp_pay hK hP hD hE hZ hS [1] (by decide) rfl hFc U hU hW⟩⟩ rfl rfl hl.1 rfl (lv_room (Nat.le_of_ble_eq_true rfl)) dL_law_2460 ⟨(Nat.le_of_ble_eq_true rfl), (Nat.le_of_ble_eq_true rfl)⟩) hS (fun q _ h => hFc q h) hFc (fun r_5 u t H1 locs ht hvm hw hB hz1 hk1 hS => ?_)
    obtain rfl := hw
    obtain ⟨f_6, hP1, hD1⟩ := hB
    subst f_6
    rw [ht] at hP1
    obtain ⟨hP, hD⟩ := va_join (wr := [(o0, .inl (cy 1, 1, .inr (.inl ((fun _ => 0)))))]) (w1 := [(m0, .inr (10, [.ref w0, .int 1]))]) hP hD [1] [0] rfl rfl (by decide) (by decide) hk1 hFc hP1 hD1
    generalize H1 = H at hP hS ⊢
    have hP : va_P (dC, dI) vwCl [(o0, .inl (cy 1, 1, .inr (.inl ((fun _ => 0))))), (m0, .inr (10, [.ref w0, .int 1]))] _ := hP
    have hD : va_D A [(o0, .inl (cy 1, 1, .inr (.inl ((fun _ => 0))))), (m0, .inr (10, [.ref w0, .int 1]))] := hD
    refine lv_iload hx hb dL_law_2463 (lv_at hl 1 rfl) ?_
    refine lv_icmp_eq (tgt := 2470) hx hb dL_law_2465 (by decide) (fun _ => ?_) (fun c_7 => absurd rfl c_7)
    refine lv_iload hx hb dL_law_2470 (lv_at hl 1 rfl) ?_
    refine lv_if_ne (tgt := 2487) hx hb dL_law_2472 (by decide) (fun _ => ?_) (fun c_8 => absurd c_8 (by decide))
    refine lv_goto (tgt := 2504) hx hb dL_law_2487 (by decide) ?_
    exact tc_end hd0 hs C1 hX (Nat.le_of_ble_eq_true rfl) (Nat.le_of_ble_eq_true rfl) H _ ls hS (lv_sub hl [2, 6] rfl)
theorem tw_440 : Cond.code yX8_digest cX8_digest 3 (some .long) ∈ tp_all := tp_mem 440 (by decide +kernel) rfl
theorem tw_437 : Cond.methodLink RL 264 yX8_digest ∈ tp_all := tp_mem 437 (by decide +kernel) rfl
theorem tw_438 : Cond.instanceMethod yX8_digest ∈ tp_all := tp_mem 438 (by decide +kernel) rfl
theorem tw_439 : Cond.selects RX8 yX8_digest yX8_digest ∈ tp_all := tp_mem 439 (by decide +kernel) rfl
theorem tw_1606 : Cond.code yX10_digest cX10_digest 5 (some .long) ∈ tp_all := tp_mem 1606 (by decide +kernel) rfl
theorem tw_1603 : Cond.methodLink RL 268 yX10_digest ∈ tp_all := tp_mem 1603 (by decide +kernel) rfl
theorem tw_1604 : Cond.instanceMethod yX10_digest ∈ tp_all := tp_mem 1604 (by decide +kernel) rfl
theorem tw_1605 : Cond.selects RX10 yX10_digest yX10_digest ∈ tp_all := tp_mem 1605 (by decide +kernel) rfl
theorem dL_law_2490 : decode cL_law 2490 = .ok (.aload_n 1, 1) := by decide +kernel
theorem dL_law_2491 : decode cL_law 2491 = .ok (.invokevirtual 264, 3) := by decide +kernel
theorem dL_law_2494 : decode cL_law 2494 = .ok (.aload_n 2, 1) := by decide +kernel
theorem dL_law_2495 : decode cL_law 2495 = .ok (.invokevirtual 268, 3) := by decide +kernel
theorem dL_law_2498 : decode cL_law 2498 = .ok (.lcmp, 1) := by decide +kernel
theorem dL_law_2499 : decode cL_law 2499 = .ok (.ifCond .eq 5, 3) := by decide +kernel
set_option maxRecDepth 100000 in
set_option maxHeartbeats 4000000 in
/-- the case 39 -/
theorem tc_39 {p : Program} {l : Launch} {e : Env} {s0 s : State} {m : MethodId} {below : List Frame} {meth : Method} {c : Code} {A : Nat → Prop} (hst : l.stackTraces = false) {dC : Nat → ClassId} {dI : Nat → Nat → Nat} {cy : Nat → ClassId} {b : Nat} {xs : Nat → Int32} {d0 : Drawn} (hd0 : s0.drawn.sameBut d0 lw_cs) (hs : s = s0.setDrawn d0) (C1 : tc_At p s m meth c b #[Value.ref b] A dC dI cy) (hX : va_X b 7 xs s s.heap) {a0 : Nat} {a1 : Nat} {a2 : Nat} {aT : Nat} {b1 : Nat} {b2 : Nat} {b3 : Nat} {b4 : Nat} {b5 : Nat} {b6 : Nat} {b7 : Nat} {m0 : Nat} {w0 : Nat} {o0 : Nat} {r_phases : Nat} {r_phase : Nat} {r_phaseTicks : Nat} {r_set : Nat} {r_least : Nat} {r_greatest : Nat} {r_from : Nat} {r_to : Nat} {r_time : Nat} {r_room : Nat} {r_first : Nat} {r_rate : Nat} {r_cost : Nat} {r_isShut : Nat} {r_slowed : Nat} {r_row : Nat} {r_size : Nat} {r_came : Nat} {r_left : Nat} {r_mostQueue : Nat} {r_sumQueue : Nat} {r_turned : Nat} {r_flowFrom : Nat} {r_flowTo : Nat} {r_kind : Nat} {r_start : Nat} {r_period : Nat} {r_count : Nat} {r_flow : Nat} {r_began : Nat} {r_state : Nat} {r_link : Nat} {r_end : Nat} {r_gone : Nat} {r_trip : Nat} {r_delay : Nat} {r_way : Nat} (H : Heap) (locs : List Loc) (ls : Array Slot) (hP : va_P (dC, dI) vwCl [(a0, .inr (8, [.ref a1, .ref aT])), (a1, .inr (5, [.ref a2, .ref b1, .ref b2, .ref b3, .ref b4, .ref b5, .int 0, .int 1, .int 0, .int 0, .int 0, .int 0])), (a2, .inr (2, [.ref b6, .int 0, .ref b7, .int 0])), (m0, .inr (10, [.ref w0, .int 0])), (w0, .inr (9, [.int 0, .int 1, .int 0, .ref r_phases, .ref r_phase, .ref r_phaseTicks, .ref r_set, .ref r_least, .ref r_greatest, .int 0, .ref r_from, .ref r_to, .ref r_time, .ref r_room, .ref r_first, .ref r_rate, .ref r_cost, .ref r_isShut, .ref r_slowed, .ref r_row, .ref r_size, .ref r_came, .ref r_left, .ref r_mostQueue, .ref r_sumQueue, .ref r_turned, .int 0, .ref r_flowFrom, .ref r_flowTo, .ref r_kind, .ref r_start, .ref r_period, .ref r_count, .int 0, .ref r_flow, .ref r_began, .ref r_state, .ref r_link, .ref r_end, .ref r_gone, .ref r_trip, .ref r_delay, .ref r_way])), (o0, .inl (cy 1, 1, .inr (.inl ((fun _ => 0)))))] H) (hD : va_D A [(a0, .inr (8, [.ref a1, .ref aT])), (a1, .inr (5, [.ref a2, .ref b1, .ref b2, .ref b3, .ref b4, .ref b5, .int 0, .int 1, .int 0, .int 0, .int 0, .int 0])), (a2, .inr (2, [.ref b6, .int 0, .ref b7, .int 0])), (m0, .inr (10, [.ref w0, .int 0])), (w0, .inr (9, [.int 0, .int 1, .int 0, .ref r_phases, .ref r_phase, .ref r_phaseTicks, .ref r_set, .ref r_least, .ref r_greatest, .int 0, .ref r_from, .ref r_to, .ref r_time, .ref r_room, .ref r_first, .ref r_rate, .ref r_cost, .ref r_isShut, .ref r_slowed, .ref r_row, .ref r_size, .ref r_came, .ref r_left, .ref r_mostQueue, .ref r_sumQueue, .ref r_turned, .int 0, .ref r_flowFrom, .ref r_flowTo, .ref r_kind, .ref r_start, .ref r_period, .ref r_count, .int 0, .ref r_flow, .ref r_began, .ref r_state, .ref r_link, .ref r_end, .ref r_gone, .ref r_trip, .ref r_delay, .ref r_way])), (o0, .inl (cy 1, 1, .inr (.inl ((fun _ => 0)))))]) (hS : va_S A s.heap H locs) (hl : lv_has ls 9 [(0, .ref b), (1, .ref a0), (2, .ref m0), (3, .ref o0), (4, .int 0)]) : W p l e room_1 s m #[Value.ref b] below meth c H locs 1535 31585 (lw_Z below #[Value.ref b] s0) (F0 m 2490 ls []) := by
  have C2 := C1
  obtain ⟨hx, hb, hr, hml, hown, hts, hbl, hlocks, hK, hE, hZ, hA, hbA, hA2⟩ := C2
  refine lv_aload_n hx hb dL_law_2490 rfl (lv_at hl 1 rfl) ?_
  have hFc := va_free (wc := [(a0, .inr (8, [.ref a1, .ref aT])), (a1, .inr (5, [.ref a2, .ref b1, .ref b2, .ref b3, .ref b4, .ref b5, .int 0, .int 1, .int 0, .int 0, .int 0, .int 0])), (a2, .inr (2, [.ref b6, .int 0, .ref b7, .int 0]))]) hD hS hA [0, 1, 2] rfl
  refine va_calll (va_runV (As := []) (rest := []) ⟨hx, hb, hml, hown, hts⟩ (tm_digest l hst dC dI cy a0 a1 a2 aT b1 b2 b3 b4 b5 b6 b7 H.size) (tp_cwV 0 hts tw_437 tw_438 tw_439 tw_38 tw_440 rfl rfl (by decide +kernel) ⟨Nat.le_of_ble_eq_true rfl, Nat.le_of_ble_eq_true rfl⟩) ⟨tp_blind, va_recv hK hP (ci := 8) (q0 := 0) rfl rfl, fun U hU hW => ⟨rfl, tp_pay hK hP hD hE hZ hS [0, 1, 2] (by decide) rfl hFc U hU hW⟩⟩ rfl rfl hl.1 rfl (lv_room (Nat.le_of_ble_eq_true rfl)) dL_law_2491 ⟨(Nat.le_of_ble_eq_true rfl), (Nat.le_of_ble_eq_true rfl)⟩) hS (fun q _ h => hFc q h) hFc (fun r_1 u t H1 locs ht hvm hw hB hz1 hk1 hS => ?_)
  obtain rfl := hw
  obtain ⟨f_2, hP1, hD1⟩ := hB
  subst f_2
  rw [ht] at hP1
  obtain ⟨hP, hD⟩ := va_join (wr := [(m0, .inr (10, [.ref w0, .int 0])), (w0, .inr (9, [.int 0, .int 1, .int 0, .ref r_phases, .ref r_phase, .ref r_phaseTicks, .ref r_set, .ref r_least, .ref r_greatest, .int 0, .ref r_from, .ref r_to, .ref r_time, .ref r_room, .ref r_first, .ref r_rate, .ref r_cost, .ref r_isShut, .ref r_slowed, .ref r_row, .ref r_size, .ref r_came, .ref r_left, .ref r_mostQueue, .ref r_sumQueue, .ref r_turned, .int 0, .ref r_flowFrom, .ref r_flowTo, .ref r_kind, .ref r_start, .ref r_period, .ref r_count, .int 0, .ref r_flow, .ref r_began, .ref r_state, .ref r_link, .ref r_end, .ref r_gone, .ref r_trip, .ref r_delay, .ref r_way])), (o0, .inl (cy 1, 1, .inr (.inl ((fun _ => 0)))))]) (w1 := []) hP hD [0, 1, 2] [3, 4, 5] rfl rfl (by decide) (by decide) hk1 hFc hP1 hD1
  generalize H1 = H at hP hS ⊢
  have hP : va_P (dC, dI) vwCl [(m0, .inr (10, [.ref w0, .int 0])), (w0, .inr (9, [.int 0, .int 1, .int 0, .ref r_phases, .ref r_phase, .ref r_phaseTicks, .ref r_set, .ref r_least, .ref r_greatest, .int 0, .ref r_from, .ref r_to, .ref r_time, .ref r_room, .ref r_first, .ref r_rate, .ref r_cost, .ref r_isShut, .ref r_slowed, .ref r_row, .ref r_size, .ref r_came, .ref r_left, .ref r_mostQueue, .ref r_sumQueue, .ref r_turned, .int 0, .ref r_flowFrom, .ref r_flowTo, .ref r_kind, .ref r_start, .ref r_period, .ref r_count, .int 0, .ref r_flow, .ref r_began, .ref r_state, .ref r_link, .ref r_end, .ref r_gone, .ref r_trip, .ref r_delay, .ref r_way])), (o0, .inl (cy 1, 1, .inr (.inl ((fun _ => 0)))))] _ := hP
  have hD : va_D A [(m0, .inr (10, [.ref w0, .int 0])), (w0, .inr (9, [.int 0, .int 1, .int 0, .ref r_phases, .ref r_phase, .ref r_phaseTicks, .ref r_set, .ref r_least, .ref r_greatest, .int 0, .ref r_from, .ref r_to, .ref r_time, .ref r_room, .ref r_first, .ref r_rate, .ref r_cost, .ref r_isShut, .ref r_slowed, .ref r_row, .ref r_size, .ref r_came, .ref r_left, .ref r_mostQueue, .ref r_sumQueue, .ref r_turned, .int 0, .ref r_flowFrom, .ref r_flowTo, .ref r_kind, .ref r_start, .ref r_period, .ref r_count, .int 0, .ref r_flow, .ref r_began, .ref r_state, .ref r_link, .ref r_end, .ref r_gone, .ref r_trip, .ref r_delay, .ref r_way])), (o0, .inl (cy 1, 1, .inr (.inl ((fun _ => 0)))))] := hD
  refine lv_aload_n hx hb dL_law_2494 rfl (lv_at hl 2 rfl) ?_
  have hFc := va_free (wc := [(m0, .inr (10, [.ref w0, .int 0])), (w0, .inr (9, [.int 0, .int 1, .int 0, .ref r_phases, .ref r_phase, .ref r_phaseTicks, .ref r_set, .ref r_least, .ref r_greatest, .int 0, .ref r_from, .ref r_to, .ref r_time, .ref r_room, .ref r_first, .ref r_rate, .ref r_cost, .ref r_isShut, .ref r_slowed, .ref r_row, .ref r_size, .ref r_came, .ref r_left, .ref r_mostQueue, .ref r_sumQueue, .ref r_turned, .int 0, .ref r_flowFrom, .ref r_flowTo, .ref r_kind, .ref r_start, .ref r_period, .ref r_count, .int 0, .ref r_flow, .ref r_began, .ref r_state, .ref r_link, .ref r_end, .ref r_gone, .ref r_trip, .ref r_delay, .ref r_way]))]) hD hS hA [0, 1] rfl
  refine va_calll (va_runV (As := []) (rest := [.long 1661578665738]) ⟨hx, hb, hml, hown, hts⟩ (tm_m_digest l hst dC dI cy m0 w0 0 r_phases r_phase r_phaseTicks r_set r_least r_greatest r_from r_to r_time r_room r_first r_rate r_cost r_isShut r_slowed r_row r_size r_came r_left r_mostQueue r_sumQueue r_turned r_flowFrom r_flowTo r_kind r_start r_period r_count r_flow r_began r_state r_link r_end r_gone r_trip r_delay r_way H.size) (tp_cwV 0 hts tw_1603 tw_1604 tw_1605 tw_48 tw_1606 rfl rfl (by decide +kernel) ⟨Nat.le_of_ble_eq_true rfl, Nat.le_of_ble_eq_true rfl⟩) ⟨tp_blind, va_recv hK hP (ci := 10) (q0 := 0) rfl rfl, fun U hU hW => ⟨rfl, tp_pay hK hP hD hE hZ hS [0, 1] (by decide) rfl hFc U hU hW⟩⟩ rfl rfl hl.1 rfl (lv_room (Nat.le_of_ble_eq_true rfl)) dL_law_2495 ⟨(Nat.le_of_ble_eq_true rfl), (Nat.le_of_ble_eq_true rfl)⟩) hS (fun q _ h => hFc q h) hFc (fun r_3 u t H1 locs ht hvm hw hB hz1 hk1 hS => ?_)
  obtain rfl := hw
  obtain ⟨f_4, hP1, hD1⟩ := hB
  subst f_4
  rw [ht] at hP1
  obtain ⟨hP, hD⟩ := va_join (wr := [(o0, .inl (cy 1, 1, .inr (.inl ((fun _ => 0)))))]) (w1 := [(m0, .inr (10, [.ref w0, .int 0]))]) hP hD [0, 1] [2] rfl rfl (by decide) (by decide) hk1 hFc hP1 hD1
  generalize H1 = H at hP hS ⊢
  have hP : va_P (dC, dI) vwCl [(o0, .inl (cy 1, 1, .inr (.inl ((fun _ => 0))))), (m0, .inr (10, [.ref w0, .int 0]))] _ := hP
  have hD : va_D A [(o0, .inl (cy 1, 1, .inr (.inl ((fun _ => 0))))), (m0, .inr (10, [.ref w0, .int 0]))] := hD
  refine W.lcmp hx hb dL_law_2498 ?_
  refine lv_if_eq (tgt := 2504) hx hb dL_law_2499 (by decide) (fun _ => ?_) (fun c_5 => absurd (tp_cmp _) c_5)
  exact tc_end hd0 hs C1 hX (Nat.le_of_ble_eq_true rfl) (Nat.le_of_ble_eq_true rfl) H _ ls hS (lv_sub hl [0, 4] rfl)

theorem tw_675 : Cond.codeWith yL_addNode cL_addNode 3 (some .int) [(0, 8, 11, 13)] ∈ tp_all := tp_mem 675 (by decide +kernel) rfl
theorem tw_673 : Cond.methodLink RL 127 yL_addNode ∈ tp_all := tp_mem 673 (by decide +kernel) rfl
theorem tw_674 : Cond.static yL_addNode ∈ tp_all := tp_mem 674 (by decide +kernel) rfl
theorem tw_37 : Cond.initialized RL ∈ tp_all := tp_mem 37 (by decide +kernel) rfl
theorem tw_1324 : Cond.code yX10_addNode cX10_addNode 1 (some .int) ∈ tp_all := tp_mem 1324 (by decide +kernel) rfl
theorem tw_1321 : Cond.methodLink RL 132 yX10_addNode ∈ tp_all := tp_mem 1321 (by decide +kernel) rfl
theorem tw_1322 : Cond.instanceMethod yX10_addNode ∈ tp_all := tp_mem 1322 (by decide +kernel) rfl
theorem tw_1323 : Cond.selects RX10 yX10_addNode yX10_addNode ∈ tp_all := tp_mem 1323 (by decide +kernel) rfl
theorem tw_1320 : Cond.code yX10_thrown cX10_thrown 1 (some .int) ∈ tp_all := tp_mem 1320 (by decide +kernel) rfl
theorem tw_1317 : Cond.methodLink RL 133 yX10_thrown ∈ tp_all := tp_mem 1317 (by decide +kernel) rfl
theorem tw_1318 : Cond.instanceMethod yX10_thrown ∈ tp_all := tp_mem 1318 (by decide +kernel) rfl
theorem tw_1319 : Cond.selects RX10 yX10_thrown yX10_thrown ∈ tp_all := tp_mem 1319 (by decide +kernel) rfl
theorem dL_law_216 : decode cL_law 216 = .ok (.aload_n 1, 1) := by decide +kernel
theorem dL_law_217 : decode cL_law 217 = .ok (.aload_n 3, 1) := by decide +kernel
theorem dL_law_218 : decode cL_law 218 = .ok (.invokestatic 127, 3) := by decide +kernel
theorem dL_law_221 : decode cL_law 221 = .ok (.istore 5, 2) := by decide +kernel
theorem dL_law_223 : decode cL_law 223 = .ok (.aload_n 2, 1) := by decide +kernel
theorem dL_law_224 : decode cL_law 224 = .ok (.invokevirtual 132, 3) := by decide +kernel
theorem dL_law_227 : decode cL_law 227 = .ok (.istore 6, 2) := by decide +kernel
theorem dL_law_229 : decode cL_law 229 = .ok (.aload_n 2, 1) := by decide +kernel
theorem dL_law_230 : decode cL_law 230 = .ok (.invokevirtual 133, 3) := by decide +kernel
theorem dL_law_233 : decode cL_law 233 = .ok (.iload 5, 2) := by decide +kernel
theorem dL_law_235 : decode cL_law 235 = .ok (.if_icmp .eq 5, 3) := by decide +kernel
theorem dL_law_240 : decode cL_law 240 = .ok (.iload 5, 2) := by decide +kernel
theorem dL_law_242 : decode cL_law 242 = .ok (.ifCond .ne 15, 3) := by decide +kernel
theorem dL_law_245 : decode cL_law 245 = .ok (.aload_n 3, 1) := by decide +kernel
theorem dL_law_246 : decode cL_law 246 = .ok (.iconst 0, 1) := by decide +kernel
theorem dL_law_247 : decode cL_law 247 = .ok (.laload, 1) := by decide +kernel
theorem dL_law_248 : decode cL_law 248 = .ok (.iload 6, 2) := by decide +kernel
theorem dL_law_250 : decode cL_law 250 = .ok (.i2l, 1) := by decide +kernel
theorem dL_law_251 : decode cL_law 251 = .ok (.lcmp, 1) := by decide +kernel
theorem dL_law_252 : decode cL_law 252 = .ok (.ifCond .eq 5, 3) := by decide +kernel
theorem dL_law_257 : decode cL_law 257 = .ok (.goto 2247, 3) := by decide +kernel
set_option maxRecDepth 100000 in
set_option maxHeartbeats 4000000 in
/-- the case 0 -/
theorem tc_0 {p : Program} {l : Launch} {e : Env} {s0 s : State} {m : MethodId} {below : List Frame} {meth : Method} {c : Code} {A : Nat → Prop} (hst : l.stackTraces = false) {dC : Nat → ClassId} {dI : Nat → Nat → Nat} {cy : Nat → ClassId} {b : Nat} {xs : Nat → Int32} {d0 : Drawn} (hd0 : s0.drawn.sameBut d0 lw_cs) (hs : s = s0.setDrawn d0) (C1 : tc_At p s m meth c b #[Value.ref b] A dC dI cy) (hX : va_X b 7 xs s s.heap) {a0 : Nat} {a1 : Nat} {a2 : Nat} {aT : Nat} {b1 : Nat} {b2 : Nat} {b3 : Nat} {b4 : Nat} {b5 : Nat} {b6 : Nat} {b7 : Nat} {m0 : Nat} {w0 : Nat} {o0 : Nat} {r_phases : Nat} {r_phase : Nat} {r_phaseTicks : Nat} {r_set : Nat} {r_least : Nat} {r_greatest : Nat} {r_from : Nat} {r_to : Nat} {r_time : Nat} {r_room : Nat} {r_first : Nat} {r_rate : Nat} {r_cost : Nat} {r_isShut : Nat} {r_slowed : Nat} {r_row : Nat} {r_size : Nat} {r_came : Nat} {r_left : Nat} {r_mostQueue : Nat} {r_sumQueue : Nat} {r_turned : Nat} {r_flowFrom : Nat} {r_flowTo : Nat} {r_kind : Nat} {r_start : Nat} {r_period : Nat} {r_count : Nat} {r_flow : Nat} {r_began : Nat} {r_state : Nat} {r_link : Nat} {r_end : Nat} {r_gone : Nat} {r_trip : Nat} {r_delay : Nat} {r_way : Nat} (H : Heap) (locs : List Loc) (ls : Array Slot) (hP : va_P (dC, dI) vwCl [(a0, .inr (8, [.ref a1, .ref aT])), (a1, .inr (5, [.ref a2, .ref b1, .ref b2, .ref b3, .ref b4, .ref b5, .int 0, .int 1, .int 0, .int 0, .int 0, .int 0])), (a2, .inr (2, [.ref b6, .int 0, .ref b7, .int 0])), (m0, .inr (10, [.ref w0, .int 0])), (w0, .inr (9, [.int 0, .int 1, .int 0, .ref r_phases, .ref r_phase, .ref r_phaseTicks, .ref r_set, .ref r_least, .ref r_greatest, .int 0, .ref r_from, .ref r_to, .ref r_time, .ref r_room, .ref r_first, .ref r_rate, .ref r_cost, .ref r_isShut, .ref r_slowed, .ref r_row, .ref r_size, .ref r_came, .ref r_left, .ref r_mostQueue, .ref r_sumQueue, .ref r_turned, .int 0, .ref r_flowFrom, .ref r_flowTo, .ref r_kind, .ref r_start, .ref r_period, .ref r_count, .int 0, .ref r_flow, .ref r_began, .ref r_state, .ref r_link, .ref r_end, .ref r_gone, .ref r_trip, .ref r_delay, .ref r_way])), (o0, .inl (cy 1, 1, .inr (.inl ((fun _ => 0)))))] H) (hD : va_D A [(a0, .inr (8, [.ref a1, .ref aT])), (a1, .inr (5, [.ref a2, .ref b1, .ref b2, .ref b3, .ref b4, .ref b5, .int 0, .int 1, .int 0, .int 0, .int 0, .int 0])), (a2, .inr (2, [.ref b6, .int 0, .ref b7, .int 0])), (m0, .inr (10, [.ref w0, .int 0])), (w0, .inr (9, [.int 0, .int 1, .int 0, .ref r_phases, .ref r_phase, .ref r_phaseTicks, .ref r_set, .ref r_least, .ref r_greatest, .int 0, .ref r_from, .ref r_to, .ref r_time, .ref r_room, .ref r_first, .ref r_rate, .ref r_cost, .ref r_isShut, .ref r_slowed, .ref r_row, .ref r_size, .ref r_came, .ref r_left, .ref r_mostQueue, .ref r_sumQueue, .ref r_turned, .int 0, .ref r_flowFrom, .ref r_flowTo, .ref r_kind, .ref r_start, .ref r_period, .ref r_count, .int 0, .ref r_flow, .ref r_began, .ref r_state, .ref r_link, .ref r_end, .ref r_gone, .ref r_trip, .ref r_delay, .ref r_way])), (o0, .inl (cy 1, 1, .inr (.inl ((fun _ => 0)))))]) (hS : va_S A s.heap H locs) (hl : lv_has ls 9 [(0, .ref b), (1, .ref a0), (2, .ref m0), (3, .ref o0), (4, .int 0)]) : W p l e room_1 s m #[Value.ref b] below meth c H locs 1535 31585 (lw_Z below #[Value.ref b] s0) (F0 m 216 ls []) := by
  have C2 := C1
  obtain ⟨hx, hb, hr, hml, hown, hts, hbl, hlocks, hK, hE, hZ, hA, hbA, hA2⟩ := C2
  refine lv_aload_n hx hb dL_law_216 rfl (lv_at hl 1 rfl) ?_
  refine lv_aload_n hx hb dL_law_217 rfl (lv_at hl 3 rfl) ?_
  have hFc := va_free (wc := [(a0, .inr (8, [.ref a1, .ref aT])), (a1, .inr (5, [.ref a2, .ref b1, .ref b2, .ref b3, .ref b4, .ref b5, .int 0, .int 1, .int 0, .int 0, .int 0, .int 0])), (a2, .inr (2, [.ref b6, .int 0, .ref b7, .int 0])), (o0, .inl (cy 1, 1, .inr (.inl ((fun _ => 0)))))]) hD hS hA [0, 1, 2, 5] rfl
  refine vx_calli (vx_runSX (As := [.ref a0, .ref o0]) (rest := []) ⟨hx, hb, hml, hown, hts⟩ (tm_L_addNode l hst dC dI cy a0 a1 a2 aT b1 b2 b3 b4 b5 b6 b7 o0 H.size) (tp_cwSW 2 hts tw_673 tw_674 tw_37 tw_675 rfl rfl (by decide +kernel) ⟨Nat.le_of_ble_eq_true rfl, Nat.le_of_ble_eq_true rfl⟩) ⟨tp_blind, fun U hU hW => ⟨rfl, tp_pay hK hP hD hE hZ hS [0, 1, 2, 5] (by decide) rfl hFc U hU hW⟩⟩ rfl rfl hl.1 rfl (lv_room (Nat.le_of_ble_eq_true rfl)) dL_law_218 ⟨(Nat.le_of_ble_eq_true rfl), (Nat.le_of_ble_eq_true rfl)⟩) hS (fun q _ h => hFc q h) hFc (fun q _ h => hFc q h) (fun E9 ce q9 u t H1 locs ht hvm hw hB hz1 hk1 hS hce hcv hcl => ?_) (fun r_1 u t H1 locs ht hvm hw hB hz1 hk1 hS => ?_)
  · obtain ⟨hE9, hB⟩ := hB
    exact hE9.elim
  · obtain rfl := hw
    obtain ⟨z_2, f_3, f_4, hP1, hD1⟩ := hB
    subst f_3
    rw [ht] at hP1
    obtain ⟨hP, hD⟩ := va_join (wr := [(m0, .inr (10, [.ref w0, .int 0])), (w0, .inr (9, [.int 0, .int 1, .int 0, .ref r_phases, .ref r_phase, .ref r_phaseTicks, .ref r_set, .ref r_least, .ref r_greatest, .int 0, .ref r_from, .ref r_to, .ref r_time, .ref r_room, .ref r_first, .ref r_rate, .ref r_cost, .ref r_isShut, .ref r_slowed, .ref r_row, .ref r_size, .ref r_came, .ref r_left, .ref r_mostQueue, .ref r_sumQueue, .ref r_turned, .int 0, .ref r_flowFrom, .ref r_flowTo, .ref r_kind, .ref r_start, .ref r_period, .ref r_count, .int 0, .ref r_flow, .ref r_began, .ref r_state, .ref r_link, .ref r_end, .ref r_gone, .ref r_trip, .ref r_delay, .ref r_way]))]) (w1 := [(o0, .inl (cy 1, 1, .inr (.inl z_2)))]) hP hD [0, 1, 2, 5] [3, 4] rfl rfl (by decide) (by decide) hk1 hFc hP1 hD1
    generalize H1 = H at hP hS ⊢
    have hP : va_P (dC, dI) vwCl [(m0, .inr (10, [.ref w0, .int 0])), (w0, .inr (9, [.int 0, .int 1, .int 0, .ref r_phases, .ref r_phase, .ref r_phaseTicks, .ref r_set, .ref r_least, .ref r_greatest, .int 0, .ref r_from, .ref r_to, .ref r_time, .ref r_room, .ref r_first, .ref r_rate, .ref r_cost, .ref r_isShut, .ref r_slowed, .ref r_row, .ref r_size, .ref r_came, .ref r_left, .ref r_mostQueue, .ref r_sumQueue, .ref r_turned, .int 0, .ref r_flowFrom, .ref r_flowTo, .ref r_kind, .ref r_start, .ref r_period, .ref r_count, .int 0, .ref r_flow, .ref r_began, .ref r_state, .ref r_link, .ref r_end, .ref r_gone, .ref r_trip, .ref r_delay, .ref r_way])), (o0, .inl (cy 1, 1, .inr (.inl z_2)))] _ := hP
    have hD : va_D A [(m0, .inr (10, [.ref w0, .int 0])), (w0, .inr (9, [.int 0, .int 1, .int 0, .ref r_phases, .ref r_phase, .ref r_phaseTicks, .ref r_set, .ref r_least, .ref r_greatest, .int 0, .ref r_from, .ref r_to, .ref r_time, .ref r_room, .ref r_first, .ref r_rate, .ref r_cost, .ref r_isShut, .ref r_slowed, .ref r_row, .ref r_size, .ref r_came, .ref r_left, .ref r_mostQueue, .ref r_sumQueue, .ref r_turned, .int 0, .ref r_flowFrom, .ref r_flowTo, .ref r_kind, .ref r_start, .ref r_period, .ref r_count, .int 0, .ref r_flow, .ref r_began, .ref r_state, .ref r_link, .ref r_end, .ref r_gone, .ref r_trip, .ref r_delay, .ref r_way])), (o0, .inl (cy 1, 1, .inr (.inl z_2)))] := hD
    refine lv_istore (lv' := [(5, .int 0), (0, .ref b), (1, .ref a0), (2, .ref m0), (3, .ref o0), (4, .int 0)]) hx hb dL_law_221 hl (by decide) rfl (fun ls hl => ?_)
    refine lv_aload_n hx hb dL_law_223 rfl (lv_at hl 3 rfl) ?_
    have hFc := va_free (wc := [(m0, .inr (10, [.ref w0, .int 0])), (w0, .inr (9, [.int 0, .int 1, .int 0, .ref r_phases, .ref r_phase, .ref r_phaseTicks, .ref r_set, .ref r_least, .ref r_greatest, .int 0, .ref r_from, .ref r_to, .ref r_time, .ref r_room, .ref r_first, .ref r_rate, .ref r_cost, .ref r_isShut, .ref r_slowed, .ref r_row, .ref r_size, .ref r_came, .ref r_left, .ref r_mostQueue, .ref r_sumQueue, .ref r_turned, .int 0, .ref r_flowFrom, .ref r_flowTo, .ref r_kind, .ref r_start, .ref r_period, .ref r_count, .int 0, .ref r_flow, .ref r_began, .ref r_state, .ref r_link, .ref r_end, .ref r_gone, .ref r_trip, .ref r_delay, .ref r_way]))]) hD hS hA [0, 1] rfl
    refine va_calli (va_runV (As := []) (rest := []) ⟨hx, hb, hml, hown, hts⟩ (tm_m_addNode l hst dC dI cy m0 w0 0 r_phases r_phase r_phaseTicks r_set r_least r_greatest r_from r_to r_time r_room r_first r_rate r_cost r_isShut r_slowed r_row r_size r_came r_left r_mostQueue r_sumQueue r_turned r_flowFrom r_flowTo r_kind r_start r_period r_count r_flow r_began r_state r_link r_end r_gone r_trip r_delay r_way H.size) (tp_cwV 0 hts tw_1321 tw_1322 tw_1323 tw_48 tw_1324 rfl rfl (by decide +kernel) ⟨Nat.le_of_ble_eq_true rfl, Nat.le_of_ble_eq_true rfl⟩) ⟨tp_blind, va_recv hK hP (ci := 10) (q0 := 0) rfl rfl, fun U hU hW => ⟨rfl, tp_pay hK hP hD hE hZ hS [0, 1] (by decide) rfl hFc U hU hW⟩⟩ rfl rfl hl.1 rfl (lv_room (Nat.le_of_ble_eq_true rfl)) dL_law_224 ⟨(Nat.le_of_ble_eq_true rfl), (Nat.le_of_ble_eq_true rfl)⟩) hS (fun q _ h => hFc q h) hFc (fun r_5 u t H1 locs ht hvm hw hB hz1 hk1 hS => ?_)
    obtain rfl := hw
    obtain ⟨f_6, hP1, hD1⟩ := hB
    subst f_6
    rw [ht] at hP1
    obtain ⟨hP, hD⟩ := va_join (wr := [(o0, .inl (cy 1, 1, .inr (.inl z_2)))]) (w1 := [(m0, .inr (10, [.ref w0, .int 0]))]) hP hD [0, 1] [2] rfl rfl (by decide) (by decide) hk1 hFc hP1 hD1
    generalize H1 = H at hP hS ⊢
    have hP : va_P (dC, dI) vwCl [(o0, .inl (cy 1, 1, .inr (.inl z_2))), (m0, .inr (10, [.ref w0, .int 0]))] _ := hP
    have hD : va_D A [(o0, .inl (cy 1, 1, .inr (.inl z_2))), (m0, .inr (10, [.ref w0, .int 0]))] := hD
    refine lv_istore (lv' := [(6, .int 0), (5, .int 0), (0, .ref b), (1, .ref a0), (2, .ref m0), (3, .ref o0), (4, .int 0)]) hx hb dL_law_227 hl (by decide) rfl (fun ls hl => ?_)
    refine lv_aload_n hx hb dL_law_229 rfl (lv_at hl 4 rfl) ?_
    have hFc := va_free (wc := [(m0, .inr (10, [.ref w0, .int 0]))]) hD hS hA [1] rfl
    refine va_calli (va_runV (As := []) (rest := []) ⟨hx, hb, hml, hown, hts⟩ (tm_m_thrown l hst dC dI cy m0 w0 0 H.size) (tp_cwV 0 hts tw_1317 tw_1318 tw_1319 tw_48 tw_1320 rfl rfl (by decide +kernel) ⟨Nat.le_of_ble_eq_true rfl, Nat.le_of_ble_eq_true rfl⟩) ⟨tp_blind, va_recv hK hP (ci := 10) (q0 := 1) rfl rfl, fun U hU hW => ⟨rfl, tp_pay hK hP hD hE hZ hS [1] (by decide) rfl hFc U hU hW⟩⟩ rfl rfl hl.1 rfl (lv_room (Nat.le_of_ble_eq_true rfl)) dL_law_230 ⟨(Nat.le_of_ble_eq_true rfl), (Nat.le_of_ble_eq_true rfl)⟩) hS (fun q _ h => hFc q h) hFc (fun r_7 u t H1 locs ht hvm hw hB hz1 hk1 hS => ?_)
    obtain rfl := hw
    obtain ⟨f_8, hP1, hD1⟩ := hB
    subst f_8
    rw [ht] at hP1
    obtain ⟨hP, hD⟩ := va_join (wr := [(o0, .inl (cy 1, 1, .inr (.inl z_2)))]) (w1 := [(m0, .inr (10, [.ref w0, .int 0]))]) hP hD [1] [0] rfl rfl (by decide) (by decide) hk1 hFc hP1 hD1
    generalize H1 = H at hP hS ⊢
    have hP : va_P (dC, dI) vwCl [(o0, .inl (cy 1, 1, .inr (.inl z_2))), (m0, .inr (10, [.ref w0, .int 0]))] _ := hP
    have hD : va_D A [(o0, .inl (cy 1, 1, .inr (.inl z_2))), (m0, .inr (10, [.ref w0, .int 0]))] := hD
    refine lv_iload hx hb dL_law_233 (lv_at hl 1 rfl) ?_
    refine lv_icmp_eq (tgt := 240) hx hb dL_law_235 (by decide) (fun _ => ?_) (fun c_9 => absurd rfl c_9)
    refine lv_iload hx hb dL_law_240 (lv_at hl 1 rfl) ?_
    refine lv_if_ne (tgt := 257) hx hb dL_law_242 (by decide) (fun c_10 => absurd (by decide) c_10) (fun _ => ?_)
    refine lv_aload_n hx hb dL_law_245 rfl (lv_at hl 5 rfl) ?_
    refine lv_iconst (v := 0) hx hb dL_law_246 (by decide) ?_
    refine va_lald hx hb hK hP 0 1 rfl rfl (by unfold vp_in; decide) dL_law_247 ?_
    rw [f_4]
    refine lv_iload hx hb dL_law_248 (lv_at hl 0 rfl) ?_
    refine lv_i2l (v := 0) hx hb dL_law_250 (by decide) ?_
    refine W.lcmp hx hb dL_law_251 ?_
    refine lv_if_eq (tgt := 257) hx hb dL_law_252 (by decide) (fun _ => ?_) (fun c_11 => absurd (tp_cmp _) c_11)
    refine lv_goto (tgt := 2504) hx hb dL_law_257 (by decide) ?_
    exact tc_end hd0 hs C1 hX (Nat.le_of_ble_eq_true rfl) (Nat.le_of_ble_eq_true rfl) H _ ls hS (lv_sub hl [2, 6] rfl)
theorem tw_699 : Cond.codeWith yL_addLink cL_addLink 8 (some .int) [(0, 16, 19, 19), (0, 16, 23, 21), (0, 16, 27, 13)] ∈ tp_all := tp_mem 699 (by decide +kernel) rfl
theorem tw_697 : Cond.methodLink RL 136 yL_addLink ∈ tp_all := tp_mem 697 (by decide +kernel) rfl
theorem tw_698 : Cond.static yL_addLink ∈ tp_all := tp_mem 698 (by decide +kernel) rfl
theorem tw_1332 : Cond.code yX10_addLink cX10_addLink 7 (some .int) ∈ tp_all := tp_mem 1332 (by decide +kernel) rfl
theorem tw_1329 : Cond.methodLink RL 139 yX10_addLink ∈ tp_all := tp_mem 1329 (by decide +kernel) rfl
theorem tw_1330 : Cond.instanceMethod yX10_addLink ∈ tp_all := tp_mem 1330 (by decide +kernel) rfl
theorem tw_1331 : Cond.selects RX10 yX10_addLink yX10_addLink ∈ tp_all := tp_mem 1331 (by decide +kernel) rfl
theorem dL_law_260 : decode cL_law 260 = .ok (.aload_n 1, 1) := by decide +kernel
theorem dL_law_261 : decode cL_law 261 = .ok (.aload_n 0, 1) := by decide +kernel
theorem dL_law_262 : decode cL_law 262 = .ok (.iload 4, 2) := by decide +kernel
theorem dL_law_264 : decode cL_law 264 = .ok (.iconst 1, 1) := by decide +kernel
theorem dL_law_265 : decode cL_law 265 = .ok (.iadd, 1) := by decide +kernel
theorem dL_law_266 : decode cL_law 266 = .ok (.iaload, 1) := by decide +kernel
theorem dL_law_267 : decode cL_law 267 = .ok (.aload_n 0, 1) := by decide +kernel
theorem dL_law_268 : decode cL_law 268 = .ok (.iload 4, 2) := by decide +kernel
theorem dL_law_270 : decode cL_law 270 = .ok (.iconst 2, 1) := by decide +kernel
theorem dL_law_271 : decode cL_law 271 = .ok (.iadd, 1) := by decide +kernel
theorem dL_law_272 : decode cL_law 272 = .ok (.iaload, 1) := by decide +kernel
theorem dL_law_273 : decode cL_law 273 = .ok (.aload_n 0, 1) := by decide +kernel
theorem dL_law_274 : decode cL_law 274 = .ok (.iload 4, 2) := by decide +kernel
theorem dL_law_276 : decode cL_law 276 = .ok (.iconst 3, 1) := by decide +kernel
theorem dL_law_277 : decode cL_law 277 = .ok (.iadd, 1) := by decide +kernel
theorem dL_law_278 : decode cL_law 278 = .ok (.iaload, 1) := by decide +kernel
theorem dL_law_279 : decode cL_law 279 = .ok (.aload_n 0, 1) := by decide +kernel
theorem dL_law_280 : decode cL_law 280 = .ok (.iload 4, 2) := by decide +kernel
theorem dL_law_282 : decode cL_law 282 = .ok (.iconst 4, 1) := by decide +kernel
theorem dL_law_283 : decode cL_law 283 = .ok (.iadd, 1) := by decide +kernel
theorem dL_law_284 : decode cL_law 284 = .ok (.iaload, 1) := by decide +kernel
theorem dL_law_285 : decode cL_law 285 = .ok (.aload_n 0, 1) := by decide +kernel
theorem dL_law_286 : decode cL_law 286 = .ok (.iload 4, 2) := by decide +kernel
theorem dL_law_288 : decode cL_law 288 = .ok (.iconst 5, 1) := by decide +kernel
theorem dL_law_289 : decode cL_law 289 = .ok (.iadd, 1) := by decide +kernel
theorem dL_law_290 : decode cL_law 290 = .ok (.iaload, 1) := by decide +kernel
theorem dL_law_291 : decode cL_law 291 = .ok (.aload_n 3, 1) := by decide +kernel
theorem dL_law_292 : decode cL_law 292 = .ok (.invokestatic 136, 3) := by decide +kernel
theorem dL_law_295 : decode cL_law 295 = .ok (.istore 5, 2) := by decide +kernel
theorem dL_law_297 : decode cL_law 297 = .ok (.aload_n 2, 1) := by decide +kernel
theorem dL_law_298 : decode cL_law 298 = .ok (.aload_n 0, 1) := by decide +kernel
theorem dL_law_299 : decode cL_law 299 = .ok (.iload 4, 2) := by decide +kernel
theorem dL_law_301 : decode cL_law 301 = .ok (.iconst 1, 1) := by decide +kernel
theorem dL_law_302 : decode cL_law 302 = .ok (.iadd, 1) := by decide +kernel
theorem dL_law_303 : decode cL_law 303 = .ok (.iaload, 1) := by decide +kernel
theorem dL_law_304 : decode cL_law 304 = .ok (.aload_n 0, 1) := by decide +kernel
theorem dL_law_305 : decode cL_law 305 = .ok (.iload 4, 2) := by decide +kernel
theorem dL_law_307 : decode cL_law 307 = .ok (.iconst 2, 1) := by decide +kernel
theorem dL_law_308 : decode cL_law 308 = .ok (.iadd, 1) := by decide +kernel
theorem dL_law_309 : decode cL_law 309 = .ok (.iaload, 1) := by decide +kernel
theorem dL_law_310 : decode cL_law 310 = .ok (.aload_n 0, 1) := by decide +kernel
theorem dL_law_311 : decode cL_law 311 = .ok (.iload 4, 2) := by decide +kernel
theorem dL_law_313 : decode cL_law 313 = .ok (.iconst 3, 1) := by decide +kernel
theorem dL_law_314 : decode cL_law 314 = .ok (.iadd, 1) := by decide +kernel
theorem dL_law_315 : decode cL_law 315 = .ok (.iaload, 1) := by decide +kernel
theorem dL_law_316 : decode cL_law 316 = .ok (.aload_n 0, 1) := by decide +kernel
theorem dL_law_317 : decode cL_law 317 = .ok (.iload 4, 2) := by decide +kernel
theorem dL_law_319 : decode cL_law 319 = .ok (.iconst 4, 1) := by decide +kernel
theorem dL_law_320 : decode cL_law 320 = .ok (.iadd, 1) := by decide +kernel
theorem dL_law_321 : decode cL_law 321 = .ok (.iaload, 1) := by decide +kernel
theorem dL_law_322 : decode cL_law 322 = .ok (.aload_n 0, 1) := by decide +kernel
theorem dL_law_323 : decode cL_law 323 = .ok (.iload 4, 2) := by decide +kernel
theorem dL_law_325 : decode cL_law 325 = .ok (.iconst 5, 1) := by decide +kernel
theorem dL_law_326 : decode cL_law 326 = .ok (.iadd, 1) := by decide +kernel
theorem dL_law_327 : decode cL_law 327 = .ok (.iaload, 1) := by decide +kernel
theorem dL_law_328 : decode cL_law 328 = .ok (.invokevirtual 139, 3) := by decide +kernel
theorem dL_law_331 : decode cL_law 331 = .ok (.istore 6, 2) := by decide +kernel
theorem dL_law_333 : decode cL_law 333 = .ok (.aload_n 2, 1) := by decide +kernel
theorem dL_law_334 : decode cL_law 334 = .ok (.invokevirtual 133, 3) := by decide +kernel
theorem dL_law_337 : decode cL_law 337 = .ok (.iload 5, 2) := by decide +kernel
theorem dL_law_339 : decode cL_law 339 = .ok (.if_icmp .eq 5, 3) := by decide +kernel
theorem dL_law_344 : decode cL_law 344 = .ok (.iload 5, 2) := by decide +kernel
theorem dL_law_346 : decode cL_law 346 = .ok (.ifCond .ne 15, 3) := by decide +kernel
theorem dL_law_361 : decode cL_law 361 = .ok (.goto 2143, 3) := by decide +kernel
set_option maxRecDepth 100000 in
set_option maxHeartbeats 4000000 in
/-- the case 1 -/
theorem tc_1 {p : Program} {l : Launch} {e : Env} {s0 s : State} {m : MethodId} {below : List Frame} {meth : Method} {c : Code} {A : Nat → Prop} (hst : l.stackTraces = false) {dC : Nat → ClassId} {dI : Nat → Nat → Nat} {cy : Nat → ClassId} {b : Nat} {xs : Nat → Int32} {d0 : Drawn} (hd0 : s0.drawn.sameBut d0 lw_cs) (hs : s = s0.setDrawn d0) (C1 : tc_At p s m meth c b #[Value.ref b] A dC dI cy) (hX : va_X b 7 xs s s.heap) {a0 : Nat} {a1 : Nat} {a2 : Nat} {aT : Nat} {b1 : Nat} {b2 : Nat} {b3 : Nat} {b4 : Nat} {b5 : Nat} {b6 : Nat} {b7 : Nat} {m0 : Nat} {w0 : Nat} {o0 : Nat} {r_phases : Nat} {r_phase : Nat} {r_phaseTicks : Nat} {r_set : Nat} {r_least : Nat} {r_greatest : Nat} {r_from : Nat} {r_to : Nat} {r_time : Nat} {r_room : Nat} {r_first : Nat} {r_rate : Nat} {r_cost : Nat} {r_isShut : Nat} {r_slowed : Nat} {r_row : Nat} {r_size : Nat} {r_came : Nat} {r_left : Nat} {r_mostQueue : Nat} {r_sumQueue : Nat} {r_turned : Nat} {r_flowFrom : Nat} {r_flowTo : Nat} {r_kind : Nat} {r_start : Nat} {r_period : Nat} {r_count : Nat} {r_flow : Nat} {r_began : Nat} {r_state : Nat} {r_link : Nat} {r_end : Nat} {r_gone : Nat} {r_trip : Nat} {r_delay : Nat} {r_way : Nat} (H : Heap) (locs : List Loc) (ls : Array Slot) (hP : va_P (dC, dI) vwCl [(a0, .inr (8, [.ref a1, .ref aT])), (a1, .inr (5, [.ref a2, .ref b1, .ref b2, .ref b3, .ref b4, .ref b5, .int 0, .int 1, .int 0, .int 0, .int 0, .int 0])), (a2, .inr (2, [.ref b6, .int 0, .ref b7, .int 0])), (m0, .inr (10, [.ref w0, .int 0])), (w0, .inr (9, [.int 0, .int 1, .int 0, .ref r_phases, .ref r_phase, .ref r_phaseTicks, .ref r_set, .ref r_least, .ref r_greatest, .int 0, .ref r_from, .ref r_to, .ref r_time, .ref r_room, .ref r_first, .ref r_rate, .ref r_cost, .ref r_isShut, .ref r_slowed, .ref r_row, .ref r_size, .ref r_came, .ref r_left, .ref r_mostQueue, .ref r_sumQueue, .ref r_turned, .int 0, .ref r_flowFrom, .ref r_flowTo, .ref r_kind, .ref r_start, .ref r_period, .ref r_count, .int 0, .ref r_flow, .ref r_began, .ref r_state, .ref r_link, .ref r_end, .ref r_gone, .ref r_trip, .ref r_delay, .ref r_way])), (o0, .inl (cy 1, 1, .inr (.inl ((fun _ => 0)))))] H) (hD : va_D A [(a0, .inr (8, [.ref a1, .ref aT])), (a1, .inr (5, [.ref a2, .ref b1, .ref b2, .ref b3, .ref b4, .ref b5, .int 0, .int 1, .int 0, .int 0, .int 0, .int 0])), (a2, .inr (2, [.ref b6, .int 0, .ref b7, .int 0])), (m0, .inr (10, [.ref w0, .int 0])), (w0, .inr (9, [.int 0, .int 1, .int 0, .ref r_phases, .ref r_phase, .ref r_phaseTicks, .ref r_set, .ref r_least, .ref r_greatest, .int 0, .ref r_from, .ref r_to, .ref r_time, .ref r_room, .ref r_first, .ref r_rate, .ref r_cost, .ref r_isShut, .ref r_slowed, .ref r_row, .ref r_size, .ref r_came, .ref r_left, .ref r_mostQueue, .ref r_sumQueue, .ref r_turned, .int 0, .ref r_flowFrom, .ref r_flowTo, .ref r_kind, .ref r_start, .ref r_period, .ref r_count, .int 0, .ref r_flow, .ref r_began, .ref r_state, .ref r_link, .ref r_end, .ref r_gone, .ref r_trip, .ref r_delay, .ref r_way])), (o0, .inl (cy 1, 1, .inr (.inl ((fun _ => 0)))))]) (hS : va_S A s.heap H locs) (hl : lv_has ls 9 [(0, .ref b), (1, .ref a0), (2, .ref m0), (3, .ref o0), (4, .int 0)]) : W p l e room_1 s m #[Value.ref b] below meth c H locs 1535 31585 (lw_Z below #[Value.ref b] s0) (F0 m 260 ls []) := by
  have C2 := C1
  obtain ⟨hx, hb, hr, hml, hown, hts, hbl, hlocks, hK, hE, hZ, hA, hbA, hA2⟩ := C2
  refine lv_aload_n hx hb dL_law_260 rfl (lv_at hl 1 rfl) ?_
  refine lv_aload_n hx hb dL_law_261 rfl (lv_at hl 0 rfl) ?_
  refine lv_iload hx hb dL_law_262 (lv_at hl 4 rfl) ?_
  refine lv_iconst (v := 1) hx hb dL_law_264 (by decide) ?_
  refine lv_iadd hx hb dL_law_265 ?_
  refine va_sld hx hb hX hbl hbA hS (by unfold vp_in; decide) dL_law_266 ?_
  refine lv_aload_n hx hb dL_law_267 rfl (lv_at hl 0 rfl) ?_
  refine lv_iload hx hb dL_law_268 (lv_at hl 4 rfl) ?_
  refine lv_iconst (v := 2) hx hb dL_law_270 (by decide) ?_
  refine lv_iadd hx hb dL_law_271 ?_
  refine va_sld hx hb hX hbl hbA hS (by unfold vp_in; decide) dL_law_272 ?_
  refine lv_aload_n hx hb dL_law_273 rfl (lv_at hl 0 rfl) ?_
  refine lv_iload hx hb dL_law_274 (lv_at hl 4 rfl) ?_
  refine lv_iconst (v := 3) hx hb dL_law_276 (by decide) ?_
  refine lv_iadd hx hb dL_law_277 ?_
  refine va_sld hx hb hX hbl hbA hS (by unfold vp_in; decide) dL_law_278 ?_
  refine lv_aload_n hx hb dL_law_279 rfl (lv_at hl 0 rfl) ?_
  refine lv_iload hx hb dL_law_280 (lv_at hl 4 rfl) ?_
  refine lv_iconst (v := 4) hx hb dL_law_282 (by decide) ?_
  refine lv_iadd hx hb dL_law_283 ?_
  refine va_sld hx hb hX hbl hbA hS (by unfold vp_in; decide) dL_law_284 ?_
  refine lv_aload_n hx hb dL_law_285 rfl (lv_at hl 0 rfl) ?_
  refine lv_iload hx hb dL_law_286 (lv_at hl 4 rfl) ?_
  refine lv_iconst (v := 5) hx hb dL_law_288 (by decide) ?_
  refine lv_iadd hx hb dL_law_289 ?_
  refine va_sld hx hb hX hbl hbA hS (by unfold vp_in; decide) dL_law_290 ?_
  refine lv_aload_n hx hb dL_law_291 rfl (lv_at hl 3 rfl) ?_
  have hFc := va_free (wc := [(a0, .inr (8, [.ref a1, .ref aT])), (a1, .inr (5, [.ref a2, .ref b1, .ref b2, .ref b3, .ref b4, .ref b5, .int 0, .int 1, .int 0, .int 0, .int 0, .int 0])), (a2, .inr (2, [.ref b6, .int 0, .ref b7, .int 0])), (o0, .inl (cy 1, 1, .inr (.inl ((fun _ => 0)))))]) hD hS hA [0, 1, 2, 5] rfl
  refine vx_calli (vx_runSX (As := [.ref a0, .int (xs (0 + 1 : Int32).toNatClampNeg), .int (xs (0 + 2 : Int32).toNatClampNeg), .int (xs (0 + 3 : Int32).toNatClampNeg), .int (xs (0 + 4 : Int32).toNatClampNeg), .int (xs (0 + 5 : Int32).toNatClampNeg), .ref o0]) (rest := []) ⟨hx, hb, hml, hown, hts⟩ (tm_L_addLink l hst dC dI cy a0 a1 a2 aT b1 b2 b3 b4 b5 b6 b7 o0 (xs (0 + 1 : Int32).toNatClampNeg) (xs (0 + 2 : Int32).toNatClampNeg) (xs (0 + 3 : Int32).toNatClampNeg) (xs (0 + 4 : Int32).toNatClampNeg) (xs (0 + 5 : Int32).toNatClampNeg) H.size) (tp_cwSW 7 hts tw_697 tw_698 tw_37 tw_699 rfl rfl (by decide +kernel) ⟨Nat.le_of_ble_eq_true rfl, Nat.le_of_ble_eq_true rfl⟩) ⟨tp_blind, fun U hU hW => ⟨rfl, tp_pay hK hP hD hE hZ hS [0, 1, 2, 5] (by decide) rfl hFc U hU hW⟩⟩ rfl rfl hl.1 rfl (lv_room (Nat.le_of_ble_eq_true rfl)) dL_law_292 ⟨(Nat.le_of_ble_eq_true rfl), (Nat.le_of_ble_eq_true rfl)⟩) hS (fun q _ h => hFc q h) hFc (fun q _ h => hFc q h) (fun E9 ce q9 u t H1 locs ht hvm hw hB hz1 hk1 hS hce hcv hcl => ?_) (fun r_1 u t H1 locs ht hvm hw hB hz1 hk1 hS => ?_)
  · obtain ⟨hE9, hB⟩ := hB
    exact hE9.elim
  · obtain rfl := hw
    obtain ⟨f_2, hP1, hD1⟩ := hB
    subst f_2
    rw [ht] at hP1
    obtain ⟨hP, hD⟩ := va_join (wr := [(m0, .inr (10, [.ref w0, .int 0])), (w0, .inr (9, [.int 0, .int 1, .int 0, .ref r_phases, .ref r_phase, .ref r_phaseTicks, .ref r_set, .ref r_least, .ref r_greatest, .int 0, .ref r_from, .ref r_to, .ref r_time, .ref r_room, .ref r_first, .ref r_rate, .ref r_cost, .ref r_isShut, .ref r_slowed, .ref r_row, .ref r_size, .ref r_came, .ref r_left, .ref r_mostQueue, .ref r_sumQueue, .ref r_turned, .int 0, .ref r_flowFrom, .ref r_flowTo, .ref r_kind, .ref r_start, .ref r_period, .ref r_count, .int 0, .ref r_flow, .ref r_began, .ref r_state, .ref r_link, .ref r_end, .ref r_gone, .ref r_trip, .ref r_delay, .ref r_way]))]) (w1 := [(o0, .inl (cy 1, 1, .inr (.inl ((fun _ => 0)))))]) hP hD [0, 1, 2, 5] [3, 4] rfl rfl (by decide) (by decide) hk1 hFc hP1 hD1
    generalize H1 = H at hP hS ⊢
    have hP : va_P (dC, dI) vwCl [(m0, .inr (10, [.ref w0, .int 0])), (w0, .inr (9, [.int 0, .int 1, .int 0, .ref r_phases, .ref r_phase, .ref r_phaseTicks, .ref r_set, .ref r_least, .ref r_greatest, .int 0, .ref r_from, .ref r_to, .ref r_time, .ref r_room, .ref r_first, .ref r_rate, .ref r_cost, .ref r_isShut, .ref r_slowed, .ref r_row, .ref r_size, .ref r_came, .ref r_left, .ref r_mostQueue, .ref r_sumQueue, .ref r_turned, .int 0, .ref r_flowFrom, .ref r_flowTo, .ref r_kind, .ref r_start, .ref r_period, .ref r_count, .int 0, .ref r_flow, .ref r_began, .ref r_state, .ref r_link, .ref r_end, .ref r_gone, .ref r_trip, .ref r_delay, .ref r_way])), (o0, .inl (cy 1, 1, .inr (.inl ((fun _ => 0)))))] _ := hP
    have hD : va_D A [(m0, .inr (10, [.ref w0, .int 0])), (w0, .inr (9, [.int 0, .int 1, .int 0, .ref r_phases, .ref r_phase, .ref r_phaseTicks, .ref r_set, .ref r_least, .ref r_greatest, .int 0, .ref r_from, .ref r_to, .ref r_time, .ref r_room, .ref r_first, .ref r_rate, .ref r_cost, .ref r_isShut, .ref r_slowed, .ref r_row, .ref r_size, .ref r_came, .ref r_left, .ref r_mostQueue, .ref r_sumQueue, .ref r_turned, .int 0, .ref r_flowFrom, .ref r_flowTo, .ref r_kind, .ref r_start, .ref r_period, .ref r_count, .int 0, .ref r_flow, .ref r_began, .ref r_state, .ref r_link, .ref r_end, .ref r_gone, .ref r_trip, .ref r_delay, .ref r_way])), (o0, .inl (cy 1, 1, .inr (.inl ((fun _ => 0)))))] := hD
    refine lv_istore (lv' := [(5, .int 1), (0, .ref b), (1, .ref a0), (2, .ref m0), (3, .ref o0), (4, .int 0)]) hx hb dL_law_295 hl (by decide) rfl (fun ls hl => ?_)
    refine lv_aload_n hx hb dL_law_297 rfl (lv_at hl 3 rfl) ?_
    refine lv_aload_n hx hb dL_law_298 rfl (lv_at hl 1 rfl) ?_
    refine lv_iload hx hb dL_law_299 (lv_at hl 5 rfl) ?_
    refine lv_iconst (v := 1) hx hb dL_law_301 (by decide) ?_
    refine lv_iadd hx hb dL_law_302 ?_
    refine va_sld hx hb hX hbl hbA hS (by unfold vp_in; decide) dL_law_303 ?_
    refine lv_aload_n hx hb dL_law_304 rfl (lv_at hl 1 rfl) ?_
    refine lv_iload hx hb dL_law_305 (lv_at hl 5 rfl) ?_
    refine lv_iconst (v := 2) hx hb dL_law_307 (by decide) ?_
    refine lv_iadd hx hb dL_law_308 ?_
    refine va_sld hx hb hX hbl hbA hS (by unfold vp_in; decide) dL_law_309 ?_
    refine lv_aload_n hx hb dL_law_310 rfl (lv_at hl 1 rfl) ?_
    refine lv_iload hx hb dL_law_311 (lv_at hl 5 rfl) ?_
    refine lv_iconst (v := 3) hx hb dL_law_313 (by decide) ?_
    refine lv_iadd hx hb dL_law_314 ?_
    refine va_sld hx hb hX hbl hbA hS (by unfold vp_in; decide) dL_law_315 ?_
    refine lv_aload_n hx hb dL_law_316 rfl (lv_at hl 1 rfl) ?_
    refine lv_iload hx hb dL_law_317 (lv_at hl 5 rfl) ?_
    refine lv_iconst (v := 4) hx hb dL_law_319 (by decide) ?_
    refine lv_iadd hx hb dL_law_320 ?_
    refine va_sld hx hb hX hbl hbA hS (by unfold vp_in; decide) dL_law_321 ?_
    refine lv_aload_n hx hb dL_law_322 rfl (lv_at hl 1 rfl) ?_
    refine lv_iload hx hb dL_law_323 (lv_at hl 5 rfl) ?_
    refine lv_iconst (v := 5) hx hb dL_law_325 (by decide) ?_
    refine lv_iadd hx hb dL_law_326 ?_
    refine va_sld hx hb hX hbl hbA hS (by unfold vp_in; decide) dL_law_327 ?_
    have hFc := va_free (wc := [(m0, .inr (10, [.ref w0, .int 0])), (w0, .inr (9, [.int 0, .int 1, .int 0, .ref r_phases, .ref r_phase, .ref r_phaseTicks, .ref r_set, .ref r_least, .ref r_greatest, .int 0, .ref r_from, .ref r_to, .ref r_time, .ref r_room, .ref r_first, .ref r_rate, .ref r_cost, .ref r_isShut, .ref r_slowed, .ref r_row, .ref r_size, .ref r_came, .ref r_left, .ref r_mostQueue, .ref r_sumQueue, .ref r_turned, .int 0, .ref r_flowFrom, .ref r_flowTo, .ref r_kind, .ref r_start, .ref r_period, .ref r_count, .int 0, .ref r_flow, .ref r_began, .ref r_state, .ref r_link, .ref r_end, .ref r_gone, .ref r_trip, .ref r_delay, .ref r_way]))]) hD hS hA [0, 1] rfl
    refine va_calli (va_runV (As := [.int (xs (0 + 1 : Int32).toNatClampNeg), .int (xs (0 + 2 : Int32).toNatClampNeg), .int (xs (0 + 3 : Int32).toNatClampNeg), .int (xs (0 + 4 : Int32).toNatClampNeg), .int (xs (0 + 5 : Int32).toNatClampNeg)]) (rest := []) ⟨hx, hb, hml, hown, hts⟩ (tm_m_addLink l hst dC dI cy m0 w0 0 r_phases r_phase r_phaseTicks r_set r_least r_greatest r_from r_to r_time r_room r_first r_rate r_cost r_isShut r_slowed r_row r_size r_came r_left r_mostQueue r_sumQueue r_turned r_flowFrom r_flowTo r_kind r_start r_period r_count r_flow r_began r_state r_link r_end r_gone r_trip r_delay r_way (xs (0 + 1 : Int32).toNatClampNeg) (xs (0 + 2 : Int32).toNatClampNeg) (xs (0 + 3 : Int32).toNatClampNeg) (xs (0 + 4 : Int32).toNatClampNeg) (xs (0 + 5 : Int32).toNatClampNeg) H.size) (tp_cwV 5 hts tw_1329 tw_1330 tw_1331 tw_48 tw_1332 rfl rfl (by decide +kernel) ⟨Nat.le_of_ble_eq_true rfl, Nat.le_of_ble_eq_true rfl⟩) ⟨tp_blind, va_recv hK hP (ci := 10) (q0 := 0) rfl rfl, fun U hU hW => ⟨rfl, tp_pay hK hP hD hE hZ hS [0, 1] (by decide) rfl hFc U hU hW⟩⟩ rfl rfl hl.1 rfl (lv_room (Nat.le_of_ble_eq_true rfl)) dL_law_328 ⟨(Nat.le_of_ble_eq_true rfl), (Nat.le_of_ble_eq_true rfl)⟩) hS (fun q _ h => hFc q h) hFc (fun r_3 u t H1 locs ht hvm hw hB hz1 hk1 hS => ?_)
    obtain rfl := hw
    obtain ⟨f_4, hP1, hD1⟩ := hB
    subst f_4
    rw [ht] at hP1
    obtain ⟨hP, hD⟩ := va_join (wr := [(o0, .inl (cy 1, 1, .inr (.inl ((fun _ => 0)))))]) (w1 := [(m0, .inr (10, [.ref w0, .int 1]))]) hP hD [0, 1] [2] rfl rfl (by decide) (by decide) hk1 hFc hP1 hD1
    generalize H1 = H at hP hS ⊢
    have hP : va_P (dC, dI) vwCl [(o0, .inl (cy 1, 1, .inr (.inl ((fun _ => 0))))), (m0, .inr (10, [.ref w0, .int 1]))] _ := hP
    have hD : va_D A [(o0, .inl (cy 1, 1, .inr (.inl ((fun _ => 0))))), (m0, .inr (10, [.ref w0, .int 1]))] := hD
    refine lv_istore (lv' := [(6, .int 0), (5, .int 1), (0, .ref b), (1, .ref a0), (2, .ref m0), (3, .ref o0), (4, .int 0)]) hx hb dL_law_331 hl (by decide) rfl (fun ls hl => ?_)
    refine lv_aload_n hx hb dL_law_333 rfl (lv_at hl 4 rfl) ?_
    have hFc := va_free (wc := [(m0, .inr (10, [.ref w0, .int 1]))]) hD hS hA [1] rfl
    refine va_calli (va_runV (As := []) (rest := []) ⟨hx, hb, hml, hown, hts⟩ (tm_m_thrown l hst dC dI cy m0 w0 1 H.size) (tp_cwV 0 hts tw_1317 tw_1318 tw_1319 tw_48 tw_1320 rfl rfl (by decide +kernel) ⟨Nat.le_of_ble_eq_true rfl, Nat.le_of_ble_eq_true rfl⟩) ⟨tp_blind, va_recv hK hP (ci := 10) (q0 := 1) rfl rfl, fun U hU hW => ⟨rfl, tp_pay hK hP hD hE hZ hS [1] (by decide) rfl hFc U hU hW⟩⟩ rfl rfl hl.1 rfl (lv_room (Nat.le_of_ble_eq_true rfl)) dL_law_334 ⟨(Nat.le_of_ble_eq_true rfl), (Nat.le_of_ble_eq_true rfl)⟩) hS (fun q _ h => hFc q h) hFc (fun r_5 u t H1 locs ht hvm hw hB hz1 hk1 hS => ?_)
    obtain rfl := hw
    obtain ⟨f_6, hP1, hD1⟩ := hB
    subst f_6
    rw [ht] at hP1
    obtain ⟨hP, hD⟩ := va_join (wr := [(o0, .inl (cy 1, 1, .inr (.inl ((fun _ => 0)))))]) (w1 := [(m0, .inr (10, [.ref w0, .int 1]))]) hP hD [1] [0] rfl rfl (by decide) (by decide) hk1 hFc hP1 hD1
    generalize H1 = H at hP hS ⊢
    have hP : va_P (dC, dI) vwCl [(o0, .inl (cy 1, 1, .inr (.inl ((fun _ => 0))))), (m0, .inr (10, [.ref w0, .int 1]))] _ := hP
    have hD : va_D A [(o0, .inl (cy 1, 1, .inr (.inl ((fun _ => 0))))), (m0, .inr (10, [.ref w0, .int 1]))] := hD
    refine lv_iload hx hb dL_law_337 (lv_at hl 1 rfl) ?_
    refine lv_icmp_eq (tgt := 344) hx hb dL_law_339 (by decide) (fun _ => ?_) (fun c_7 => absurd rfl c_7)
    refine lv_iload hx hb dL_law_344 (lv_at hl 1 rfl) ?_
    refine lv_if_ne (tgt := 361) hx hb dL_law_346 (by decide) (fun _ => ?_) (fun c_8 => absurd c_8 (by decide))
    refine lv_goto (tgt := 2504) hx hb dL_law_361 (by decide) ?_
    exact tc_end hd0 hs C1 hX (Nat.le_of_ble_eq_true rfl) (Nat.le_of_ble_eq_true rfl) H _ ls hS (lv_sub hl [2, 6] rfl)
theorem tw_724 : Cond.codeWith yL_addPhase cL_addPhase 7 (some .int) [(0, 14, 17, 19), (0, 14, 21, 21), (0, 14, 25, 13)] ∈ tp_all := tp_mem 724 (by decide +kernel) rfl
theorem tw_722 : Cond.methodLink RL 140 yL_addPhase ∈ tp_all := tp_mem 722 (by decide +kernel) rfl
theorem tw_723 : Cond.static yL_addPhase ∈ tp_all := tp_mem 723 (by decide +kernel) rfl
theorem tw_1343 : Cond.code yX10_addPhase cX10_addPhase 7 (some .int) ∈ tp_all := tp_mem 1343 (by decide +kernel) rfl
theorem tw_1340 : Cond.methodLink RL 143 yX10_addPhase ∈ tp_all := tp_mem 1340 (by decide +kernel) rfl
theorem tw_1341 : Cond.instanceMethod yX10_addPhase ∈ tp_all := tp_mem 1341 (by decide +kernel) rfl
theorem tw_1342 : Cond.selects RX10 yX10_addPhase yX10_addPhase ∈ tp_all := tp_mem 1342 (by decide +kernel) rfl
theorem dL_law_364 : decode cL_law 364 = .ok (.aload_n 1, 1) := by decide +kernel
theorem dL_law_365 : decode cL_law 365 = .ok (.aload_n 0, 1) := by decide +kernel
theorem dL_law_366 : decode cL_law 366 = .ok (.iload 4, 2) := by decide +kernel
theorem dL_law_368 : decode cL_law 368 = .ok (.iconst 1, 1) := by decide +kernel
theorem dL_law_369 : decode cL_law 369 = .ok (.iadd, 1) := by decide +kernel
theorem dL_law_370 : decode cL_law 370 = .ok (.iaload, 1) := by decide +kernel
theorem dL_law_371 : decode cL_law 371 = .ok (.aload_n 0, 1) := by decide +kernel
theorem dL_law_372 : decode cL_law 372 = .ok (.iload 4, 2) := by decide +kernel
theorem dL_law_374 : decode cL_law 374 = .ok (.iconst 2, 1) := by decide +kernel
theorem dL_law_375 : decode cL_law 375 = .ok (.iadd, 1) := by decide +kernel
theorem dL_law_376 : decode cL_law 376 = .ok (.iaload, 1) := by decide +kernel
theorem dL_law_377 : decode cL_law 377 = .ok (.aload_n 0, 1) := by decide +kernel
theorem dL_law_378 : decode cL_law 378 = .ok (.iload 4, 2) := by decide +kernel
theorem dL_law_380 : decode cL_law 380 = .ok (.iconst 3, 1) := by decide +kernel
theorem dL_law_381 : decode cL_law 381 = .ok (.iadd, 1) := by decide +kernel
theorem dL_law_382 : decode cL_law 382 = .ok (.iaload, 1) := by decide +kernel
theorem dL_law_383 : decode cL_law 383 = .ok (.aload_n 0, 1) := by decide +kernel
theorem dL_law_384 : decode cL_law 384 = .ok (.iload 4, 2) := by decide +kernel
theorem dL_law_386 : decode cL_law 386 = .ok (.iconst 4, 1) := by decide +kernel
theorem dL_law_387 : decode cL_law 387 = .ok (.iadd, 1) := by decide +kernel
theorem dL_law_388 : decode cL_law 388 = .ok (.iaload, 1) := by decide +kernel
theorem dL_law_389 : decode cL_law 389 = .ok (.aload_n 3, 1) := by decide +kernel
theorem dL_law_390 : decode cL_law 390 = .ok (.invokestatic 140, 3) := by decide +kernel
theorem dL_law_393 : decode cL_law 393 = .ok (.istore 5, 2) := by decide +kernel
theorem dL_law_395 : decode cL_law 395 = .ok (.aload_n 2, 1) := by decide +kernel
theorem dL_law_396 : decode cL_law 396 = .ok (.aload_n 0, 1) := by decide +kernel
theorem dL_law_397 : decode cL_law 397 = .ok (.iload 4, 2) := by decide +kernel
theorem dL_law_399 : decode cL_law 399 = .ok (.iconst 1, 1) := by decide +kernel
theorem dL_law_400 : decode cL_law 400 = .ok (.iadd, 1) := by decide +kernel
theorem dL_law_401 : decode cL_law 401 = .ok (.iaload, 1) := by decide +kernel
theorem dL_law_402 : decode cL_law 402 = .ok (.aload_n 0, 1) := by decide +kernel
theorem dL_law_403 : decode cL_law 403 = .ok (.iload 4, 2) := by decide +kernel
theorem dL_law_405 : decode cL_law 405 = .ok (.iconst 2, 1) := by decide +kernel
theorem dL_law_406 : decode cL_law 406 = .ok (.iadd, 1) := by decide +kernel
theorem dL_law_407 : decode cL_law 407 = .ok (.iaload, 1) := by decide +kernel
theorem dL_law_408 : decode cL_law 408 = .ok (.aload_n 0, 1) := by decide +kernel
theorem dL_law_409 : decode cL_law 409 = .ok (.iload 4, 2) := by decide +kernel
theorem dL_law_411 : decode cL_law 411 = .ok (.iconst 3, 1) := by decide +kernel
theorem dL_law_412 : decode cL_law 412 = .ok (.iadd, 1) := by decide +kernel
theorem dL_law_413 : decode cL_law 413 = .ok (.iaload, 1) := by decide +kernel
theorem dL_law_414 : decode cL_law 414 = .ok (.aload_n 0, 1) := by decide +kernel
theorem dL_law_415 : decode cL_law 415 = .ok (.iload 4, 2) := by decide +kernel
theorem dL_law_417 : decode cL_law 417 = .ok (.iconst 4, 1) := by decide +kernel
theorem dL_law_418 : decode cL_law 418 = .ok (.iadd, 1) := by decide +kernel
theorem dL_law_419 : decode cL_law 419 = .ok (.iaload, 1) := by decide +kernel
theorem dL_law_420 : decode cL_law 420 = .ok (.invokevirtual 143, 3) := by decide +kernel
theorem dL_law_423 : decode cL_law 423 = .ok (.istore 6, 2) := by decide +kernel
theorem dL_law_425 : decode cL_law 425 = .ok (.aload_n 2, 1) := by decide +kernel
theorem dL_law_426 : decode cL_law 426 = .ok (.invokevirtual 133, 3) := by decide +kernel
theorem dL_law_429 : decode cL_law 429 = .ok (.iload 5, 2) := by decide +kernel
theorem dL_law_431 : decode cL_law 431 = .ok (.if_icmp .eq 5, 3) := by decide +kernel
theorem dL_law_436 : decode cL_law 436 = .ok (.iload 5, 2) := by decide +kernel
theorem dL_law_438 : decode cL_law 438 = .ok (.ifCond .ne 15, 3) := by decide +kernel
theorem dL_law_453 : decode cL_law 453 = .ok (.goto 2051, 3) := by decide +kernel
set_option maxRecDepth 100000 in
set_option maxHeartbeats 4000000 in
/-- the case 2 -/
theorem tc_2 {p : Program} {l : Launch} {e : Env} {s0 s : State} {m : MethodId} {below : List Frame} {meth : Method} {c : Code} {A : Nat → Prop} (hst : l.stackTraces = false) {dC : Nat → ClassId} {dI : Nat → Nat → Nat} {cy : Nat → ClassId} {b : Nat} {xs : Nat → Int32} {d0 : Drawn} (hd0 : s0.drawn.sameBut d0 lw_cs) (hs : s = s0.setDrawn d0) (C1 : tc_At p s m meth c b #[Value.ref b] A dC dI cy) (hX : va_X b 7 xs s s.heap) {a0 : Nat} {a1 : Nat} {a2 : Nat} {aT : Nat} {b1 : Nat} {b2 : Nat} {b3 : Nat} {b4 : Nat} {b5 : Nat} {b6 : Nat} {b7 : Nat} {m0 : Nat} {w0 : Nat} {o0 : Nat} {r_phases : Nat} {r_phase : Nat} {r_phaseTicks : Nat} {r_set : Nat} {r_least : Nat} {r_greatest : Nat} {r_from : Nat} {r_to : Nat} {r_time : Nat} {r_room : Nat} {r_first : Nat} {r_rate : Nat} {r_cost : Nat} {r_isShut : Nat} {r_slowed : Nat} {r_row : Nat} {r_size : Nat} {r_came : Nat} {r_left : Nat} {r_mostQueue : Nat} {r_sumQueue : Nat} {r_turned : Nat} {r_flowFrom : Nat} {r_flowTo : Nat} {r_kind : Nat} {r_start : Nat} {r_period : Nat} {r_count : Nat} {r_flow : Nat} {r_began : Nat} {r_state : Nat} {r_link : Nat} {r_end : Nat} {r_gone : Nat} {r_trip : Nat} {r_delay : Nat} {r_way : Nat} (H : Heap) (locs : List Loc) (ls : Array Slot) (hP : va_P (dC, dI) vwCl [(a0, .inr (8, [.ref a1, .ref aT])), (a1, .inr (5, [.ref a2, .ref b1, .ref b2, .ref b3, .ref b4, .ref b5, .int 0, .int 1, .int 0, .int 0, .int 0, .int 0])), (a2, .inr (2, [.ref b6, .int 0, .ref b7, .int 0])), (m0, .inr (10, [.ref w0, .int 0])), (w0, .inr (9, [.int 0, .int 1, .int 0, .ref r_phases, .ref r_phase, .ref r_phaseTicks, .ref r_set, .ref r_least, .ref r_greatest, .int 0, .ref r_from, .ref r_to, .ref r_time, .ref r_room, .ref r_first, .ref r_rate, .ref r_cost, .ref r_isShut, .ref r_slowed, .ref r_row, .ref r_size, .ref r_came, .ref r_left, .ref r_mostQueue, .ref r_sumQueue, .ref r_turned, .int 0, .ref r_flowFrom, .ref r_flowTo, .ref r_kind, .ref r_start, .ref r_period, .ref r_count, .int 0, .ref r_flow, .ref r_began, .ref r_state, .ref r_link, .ref r_end, .ref r_gone, .ref r_trip, .ref r_delay, .ref r_way])), (o0, .inl (cy 1, 1, .inr (.inl ((fun _ => 0)))))] H) (hD : va_D A [(a0, .inr (8, [.ref a1, .ref aT])), (a1, .inr (5, [.ref a2, .ref b1, .ref b2, .ref b3, .ref b4, .ref b5, .int 0, .int 1, .int 0, .int 0, .int 0, .int 0])), (a2, .inr (2, [.ref b6, .int 0, .ref b7, .int 0])), (m0, .inr (10, [.ref w0, .int 0])), (w0, .inr (9, [.int 0, .int 1, .int 0, .ref r_phases, .ref r_phase, .ref r_phaseTicks, .ref r_set, .ref r_least, .ref r_greatest, .int 0, .ref r_from, .ref r_to, .ref r_time, .ref r_room, .ref r_first, .ref r_rate, .ref r_cost, .ref r_isShut, .ref r_slowed, .ref r_row, .ref r_size, .ref r_came, .ref r_left, .ref r_mostQueue, .ref r_sumQueue, .ref r_turned, .int 0, .ref r_flowFrom, .ref r_flowTo, .ref r_kind, .ref r_start, .ref r_period, .ref r_count, .int 0, .ref r_flow, .ref r_began, .ref r_state, .ref r_link, .ref r_end, .ref r_gone, .ref r_trip, .ref r_delay, .ref r_way])), (o0, .inl (cy 1, 1, .inr (.inl ((fun _ => 0)))))]) (hS : va_S A s.heap H locs) (hl : lv_has ls 9 [(0, .ref b), (1, .ref a0), (2, .ref m0), (3, .ref o0), (4, .int 0)]) : W p l e room_1 s m #[Value.ref b] below meth c H locs 1535 31585 (lw_Z below #[Value.ref b] s0) (F0 m 364 ls []) := by
  have C2 := C1
  obtain ⟨hx, hb, hr, hml, hown, hts, hbl, hlocks, hK, hE, hZ, hA, hbA, hA2⟩ := C2
  refine lv_aload_n hx hb dL_law_364 rfl (lv_at hl 1 rfl) ?_
  refine lv_aload_n hx hb dL_law_365 rfl (lv_at hl 0 rfl) ?_
  refine lv_iload hx hb dL_law_366 (lv_at hl 4 rfl) ?_
  refine lv_iconst (v := 1) hx hb dL_law_368 (by decide) ?_
  refine lv_iadd hx hb dL_law_369 ?_
  refine va_sld hx hb hX hbl hbA hS (by unfold vp_in; decide) dL_law_370 ?_
  refine lv_aload_n hx hb dL_law_371 rfl (lv_at hl 0 rfl) ?_
  refine lv_iload hx hb dL_law_372 (lv_at hl 4 rfl) ?_
  refine lv_iconst (v := 2) hx hb dL_law_374 (by decide) ?_
  refine lv_iadd hx hb dL_law_375 ?_
  refine va_sld hx hb hX hbl hbA hS (by unfold vp_in; decide) dL_law_376 ?_
  refine lv_aload_n hx hb dL_law_377 rfl (lv_at hl 0 rfl) ?_
  refine lv_iload hx hb dL_law_378 (lv_at hl 4 rfl) ?_
  refine lv_iconst (v := 3) hx hb dL_law_380 (by decide) ?_
  refine lv_iadd hx hb dL_law_381 ?_
  refine va_sld hx hb hX hbl hbA hS (by unfold vp_in; decide) dL_law_382 ?_
  refine lv_aload_n hx hb dL_law_383 rfl (lv_at hl 0 rfl) ?_
  refine lv_iload hx hb dL_law_384 (lv_at hl 4 rfl) ?_
  refine lv_iconst (v := 4) hx hb dL_law_386 (by decide) ?_
  refine lv_iadd hx hb dL_law_387 ?_
  refine va_sld hx hb hX hbl hbA hS (by unfold vp_in; decide) dL_law_388 ?_
  refine lv_aload_n hx hb dL_law_389 rfl (lv_at hl 3 rfl) ?_
  have hFc := va_free (wc := [(a0, .inr (8, [.ref a1, .ref aT])), (a1, .inr (5, [.ref a2, .ref b1, .ref b2, .ref b3, .ref b4, .ref b5, .int 0, .int 1, .int 0, .int 0, .int 0, .int 0])), (a2, .inr (2, [.ref b6, .int 0, .ref b7, .int 0])), (o0, .inl (cy 1, 1, .inr (.inl ((fun _ => 0)))))]) hD hS hA [0, 1, 2, 5] rfl
  refine vx_calli (vx_runSX (As := [.ref a0, .int (xs (0 + 1 : Int32).toNatClampNeg), .int (xs (0 + 2 : Int32).toNatClampNeg), .int (xs (0 + 3 : Int32).toNatClampNeg), .int (xs (0 + 4 : Int32).toNatClampNeg), .ref o0]) (rest := []) ⟨hx, hb, hml, hown, hts⟩ (tm_L_addPhase l hst dC dI cy a0 a1 a2 aT b1 b2 b3 b4 b5 b6 b7 o0 (xs (0 + 1 : Int32).toNatClampNeg) (xs (0 + 2 : Int32).toNatClampNeg) (xs (0 + 3 : Int32).toNatClampNeg) (xs (0 + 4 : Int32).toNatClampNeg) H.size) (tp_cwSW 6 hts tw_722 tw_723 tw_37 tw_724 rfl rfl (by decide +kernel) ⟨Nat.le_of_ble_eq_true rfl, Nat.le_of_ble_eq_true rfl⟩) ⟨tp_blind, fun U hU hW => ⟨rfl, tp_pay hK hP hD hE hZ hS [0, 1, 2, 5] (by decide) rfl hFc U hU hW⟩⟩ rfl rfl hl.1 rfl (lv_room (Nat.le_of_ble_eq_true rfl)) dL_law_390 ⟨(Nat.le_of_ble_eq_true rfl), (Nat.le_of_ble_eq_true rfl)⟩) hS (fun q _ h => hFc q h) hFc (fun q _ h => hFc q h) (fun E9 ce q9 u t H1 locs ht hvm hw hB hz1 hk1 hS hce hcv hcl => ?_) (fun r_1 u t H1 locs ht hvm hw hB hz1 hk1 hS => ?_)
  · obtain ⟨hE9, hB⟩ := hB
    exact hE9.elim
  · obtain rfl := hw
    obtain ⟨f_2, hP1, hD1⟩ := hB
    subst f_2
    rw [ht] at hP1
    obtain ⟨hP, hD⟩ := va_join (wr := [(m0, .inr (10, [.ref w0, .int 0])), (w0, .inr (9, [.int 0, .int 1, .int 0, .ref r_phases, .ref r_phase, .ref r_phaseTicks, .ref r_set, .ref r_least, .ref r_greatest, .int 0, .ref r_from, .ref r_to, .ref r_time, .ref r_room, .ref r_first, .ref r_rate, .ref r_cost, .ref r_isShut, .ref r_slowed, .ref r_row, .ref r_size, .ref r_came, .ref r_left, .ref r_mostQueue, .ref r_sumQueue, .ref r_turned, .int 0, .ref r_flowFrom, .ref r_flowTo, .ref r_kind, .ref r_start, .ref r_period, .ref r_count, .int 0, .ref r_flow, .ref r_began, .ref r_state, .ref r_link, .ref r_end, .ref r_gone, .ref r_trip, .ref r_delay, .ref r_way]))]) (w1 := [(o0, .inl (cy 1, 1, .inr (.inl ((fun _ => 0)))))]) hP hD [0, 1, 2, 5] [3, 4] rfl rfl (by decide) (by decide) hk1 hFc hP1 hD1
    generalize H1 = H at hP hS ⊢
    have hP : va_P (dC, dI) vwCl [(m0, .inr (10, [.ref w0, .int 0])), (w0, .inr (9, [.int 0, .int 1, .int 0, .ref r_phases, .ref r_phase, .ref r_phaseTicks, .ref r_set, .ref r_least, .ref r_greatest, .int 0, .ref r_from, .ref r_to, .ref r_time, .ref r_room, .ref r_first, .ref r_rate, .ref r_cost, .ref r_isShut, .ref r_slowed, .ref r_row, .ref r_size, .ref r_came, .ref r_left, .ref r_mostQueue, .ref r_sumQueue, .ref r_turned, .int 0, .ref r_flowFrom, .ref r_flowTo, .ref r_kind, .ref r_start, .ref r_period, .ref r_count, .int 0, .ref r_flow, .ref r_began, .ref r_state, .ref r_link, .ref r_end, .ref r_gone, .ref r_trip, .ref r_delay, .ref r_way])), (o0, .inl (cy 1, 1, .inr (.inl ((fun _ => 0)))))] _ := hP
    have hD : va_D A [(m0, .inr (10, [.ref w0, .int 0])), (w0, .inr (9, [.int 0, .int 1, .int 0, .ref r_phases, .ref r_phase, .ref r_phaseTicks, .ref r_set, .ref r_least, .ref r_greatest, .int 0, .ref r_from, .ref r_to, .ref r_time, .ref r_room, .ref r_first, .ref r_rate, .ref r_cost, .ref r_isShut, .ref r_slowed, .ref r_row, .ref r_size, .ref r_came, .ref r_left, .ref r_mostQueue, .ref r_sumQueue, .ref r_turned, .int 0, .ref r_flowFrom, .ref r_flowTo, .ref r_kind, .ref r_start, .ref r_period, .ref r_count, .int 0, .ref r_flow, .ref r_began, .ref r_state, .ref r_link, .ref r_end, .ref r_gone, .ref r_trip, .ref r_delay, .ref r_way])), (o0, .inl (cy 1, 1, .inr (.inl ((fun _ => 0)))))] := hD
    refine lv_istore (lv' := [(5, .int 1), (0, .ref b), (1, .ref a0), (2, .ref m0), (3, .ref o0), (4, .int 0)]) hx hb dL_law_393 hl (by decide) rfl (fun ls hl => ?_)
    refine lv_aload_n hx hb dL_law_395 rfl (lv_at hl 3 rfl) ?_
    refine lv_aload_n hx hb dL_law_396 rfl (lv_at hl 1 rfl) ?_
    refine lv_iload hx hb dL_law_397 (lv_at hl 5 rfl) ?_
    refine lv_iconst (v := 1) hx hb dL_law_399 (by decide) ?_
    refine lv_iadd hx hb dL_law_400 ?_
    refine va_sld hx hb hX hbl hbA hS (by unfold vp_in; decide) dL_law_401 ?_
    refine lv_aload_n hx hb dL_law_402 rfl (lv_at hl 1 rfl) ?_
    refine lv_iload hx hb dL_law_403 (lv_at hl 5 rfl) ?_
    refine lv_iconst (v := 2) hx hb dL_law_405 (by decide) ?_
    refine lv_iadd hx hb dL_law_406 ?_
    refine va_sld hx hb hX hbl hbA hS (by unfold vp_in; decide) dL_law_407 ?_
    refine lv_aload_n hx hb dL_law_408 rfl (lv_at hl 1 rfl) ?_
    refine lv_iload hx hb dL_law_409 (lv_at hl 5 rfl) ?_
    refine lv_iconst (v := 3) hx hb dL_law_411 (by decide) ?_
    refine lv_iadd hx hb dL_law_412 ?_
    refine va_sld hx hb hX hbl hbA hS (by unfold vp_in; decide) dL_law_413 ?_
    refine lv_aload_n hx hb dL_law_414 rfl (lv_at hl 1 rfl) ?_
    refine lv_iload hx hb dL_law_415 (lv_at hl 5 rfl) ?_
    refine lv_iconst (v := 4) hx hb dL_law_417 (by decide) ?_
    refine lv_iadd hx hb dL_law_418 ?_
    refine va_sld hx hb hX hbl hbA hS (by unfold vp_in; decide) dL_law_419 ?_
    have hFc := va_free (wc := [(m0, .inr (10, [.ref w0, .int 0])), (w0, .inr (9, [.int 0, .int 1, .int 0, .ref r_phases, .ref r_phase, .ref r_phaseTicks, .ref r_set, .ref r_least, .ref r_greatest, .int 0, .ref r_from, .ref r_to, .ref r_time, .ref r_room, .ref r_first, .ref r_rate, .ref r_cost, .ref r_isShut, .ref r_slowed, .ref r_row, .ref r_size, .ref r_came, .ref r_left, .ref r_mostQueue, .ref r_sumQueue, .ref r_turned, .int 0, .ref r_flowFrom, .ref r_flowTo, .ref r_kind, .ref r_start, .ref r_period, .ref r_count, .int 0, .ref r_flow, .ref r_began, .ref r_state, .ref r_link, .ref r_end, .ref r_gone, .ref r_trip, .ref r_delay, .ref r_way]))]) hD hS hA [0, 1] rfl
    refine va_calli (va_runV (As := [.int (xs (0 + 1 : Int32).toNatClampNeg), .int (xs (0 + 2 : Int32).toNatClampNeg), .int (xs (0 + 3 : Int32).toNatClampNeg), .int (xs (0 + 4 : Int32).toNatClampNeg)]) (rest := []) ⟨hx, hb, hml, hown, hts⟩ (tm_m_addPhase l hst dC dI cy m0 w0 0 r_phases r_phase r_phaseTicks r_set r_least r_greatest r_from r_to r_time r_room r_first r_rate r_cost r_isShut r_slowed r_row r_size r_came r_left r_mostQueue r_sumQueue r_turned r_flowFrom r_flowTo r_kind r_start r_period r_count r_flow r_began r_state r_link r_end r_gone r_trip r_delay r_way (xs (0 + 1 : Int32).toNatClampNeg) (xs (0 + 2 : Int32).toNatClampNeg) (xs (0 + 3 : Int32).toNatClampNeg) (xs (0 + 4 : Int32).toNatClampNeg) H.size) (tp_cwV 4 hts tw_1340 tw_1341 tw_1342 tw_48 tw_1343 rfl rfl (by decide +kernel) ⟨Nat.le_of_ble_eq_true rfl, Nat.le_of_ble_eq_true rfl⟩) ⟨tp_blind, va_recv hK hP (ci := 10) (q0 := 0) rfl rfl, fun U hU hW => ⟨rfl, tp_pay hK hP hD hE hZ hS [0, 1] (by decide) rfl hFc U hU hW⟩⟩ rfl rfl hl.1 rfl (lv_room (Nat.le_of_ble_eq_true rfl)) dL_law_420 ⟨(Nat.le_of_ble_eq_true rfl), (Nat.le_of_ble_eq_true rfl)⟩) hS (fun q _ h => hFc q h) hFc (fun r_3 u t H1 locs ht hvm hw hB hz1 hk1 hS => ?_)
    obtain rfl := hw
    obtain ⟨f_4, hP1, hD1⟩ := hB
    subst f_4
    rw [ht] at hP1
    obtain ⟨hP, hD⟩ := va_join (wr := [(o0, .inl (cy 1, 1, .inr (.inl ((fun _ => 0)))))]) (w1 := [(m0, .inr (10, [.ref w0, .int 1]))]) hP hD [0, 1] [2] rfl rfl (by decide) (by decide) hk1 hFc hP1 hD1
    generalize H1 = H at hP hS ⊢
    have hP : va_P (dC, dI) vwCl [(o0, .inl (cy 1, 1, .inr (.inl ((fun _ => 0))))), (m0, .inr (10, [.ref w0, .int 1]))] _ := hP
    have hD : va_D A [(o0, .inl (cy 1, 1, .inr (.inl ((fun _ => 0))))), (m0, .inr (10, [.ref w0, .int 1]))] := hD
    refine lv_istore (lv' := [(6, .int 0), (5, .int 1), (0, .ref b), (1, .ref a0), (2, .ref m0), (3, .ref o0), (4, .int 0)]) hx hb dL_law_423 hl (by decide) rfl (fun ls hl => ?_)
    refine lv_aload_n hx hb dL_law_425 rfl (lv_at hl 4 rfl) ?_
    have hFc := va_free (wc := [(m0, .inr (10, [.ref w0, .int 1]))]) hD hS hA [1] rfl
    refine va_calli (va_runV (As := []) (rest := []) ⟨hx, hb, hml, hown, hts⟩ (tm_m_thrown l hst dC dI cy m0 w0 1 H.size) (tp_cwV 0 hts tw_1317 tw_1318 tw_1319 tw_48 tw_1320 rfl rfl (by decide +kernel) ⟨Nat.le_of_ble_eq_true rfl, Nat.le_of_ble_eq_true rfl⟩) ⟨tp_blind, va_recv hK hP (ci := 10) (q0 := 1) rfl rfl, fun U hU hW => ⟨rfl, tp_pay hK hP hD hE hZ hS [1] (by decide) rfl hFc U hU hW⟩⟩ rfl rfl hl.1 rfl (lv_room (Nat.le_of_ble_eq_true rfl)) dL_law_426 ⟨(Nat.le_of_ble_eq_true rfl), (Nat.le_of_ble_eq_true rfl)⟩) hS (fun q _ h => hFc q h) hFc (fun r_5 u t H1 locs ht hvm hw hB hz1 hk1 hS => ?_)
    obtain rfl := hw
    obtain ⟨f_6, hP1, hD1⟩ := hB
    subst f_6
    rw [ht] at hP1
    obtain ⟨hP, hD⟩ := va_join (wr := [(o0, .inl (cy 1, 1, .inr (.inl ((fun _ => 0)))))]) (w1 := [(m0, .inr (10, [.ref w0, .int 1]))]) hP hD [1] [0] rfl rfl (by decide) (by decide) hk1 hFc hP1 hD1
    generalize H1 = H at hP hS ⊢
    have hP : va_P (dC, dI) vwCl [(o0, .inl (cy 1, 1, .inr (.inl ((fun _ => 0))))), (m0, .inr (10, [.ref w0, .int 1]))] _ := hP
    have hD : va_D A [(o0, .inl (cy 1, 1, .inr (.inl ((fun _ => 0))))), (m0, .inr (10, [.ref w0, .int 1]))] := hD
    refine lv_iload hx hb dL_law_429 (lv_at hl 1 rfl) ?_
    refine lv_icmp_eq (tgt := 436) hx hb dL_law_431 (by decide) (fun _ => ?_) (fun c_7 => absurd rfl c_7)
    refine lv_iload hx hb dL_law_436 (lv_at hl 1 rfl) ?_
    refine lv_if_ne (tgt := 453) hx hb dL_law_438 (by decide) (fun _ => ?_) (fun c_8 => absurd c_8 (by decide))
    refine lv_goto (tgt := 2504) hx hb dL_law_453 (by decide) ?_
    exact tc_end hd0 hs C1 hX (Nat.le_of_ble_eq_true rfl) (Nat.le_of_ble_eq_true rfl) H _ ls hS (lv_sub hl [2, 6] rfl)
theorem tw_740 : Cond.codeWith yL_dropSignal cL_dropSignal 4 (some .int) [(0, 9, 12, 19)] ∈ tp_all := tp_mem 740 (by decide +kernel) rfl
theorem tw_738 : Cond.methodLink RL 144 yL_dropSignal ∈ tp_all := tp_mem 738 (by decide +kernel) rfl
theorem tw_739 : Cond.static yL_dropSignal ∈ tp_all := tp_mem 739 (by decide +kernel) rfl
theorem tw_1351 : Cond.code yX10_dropSignal cX10_dropSignal 3 (some .int) ∈ tp_all := tp_mem 1351 (by decide +kernel) rfl
theorem tw_1348 : Cond.methodLink RL 147 yX10_dropSignal ∈ tp_all := tp_mem 1348 (by decide +kernel) rfl
theorem tw_1349 : Cond.instanceMethod yX10_dropSignal ∈ tp_all := tp_mem 1349 (by decide +kernel) rfl
theorem tw_1350 : Cond.selects RX10 yX10_dropSignal yX10_dropSignal ∈ tp_all := tp_mem 1350 (by decide +kernel) rfl
theorem dL_law_456 : decode cL_law 456 = .ok (.aload_n 1, 1) := by decide +kernel
theorem dL_law_457 : decode cL_law 457 = .ok (.aload_n 0, 1) := by decide +kernel
theorem dL_law_458 : decode cL_law 458 = .ok (.iload 4, 2) := by decide +kernel
theorem dL_law_460 : decode cL_law 460 = .ok (.iconst 1, 1) := by decide +kernel
theorem dL_law_461 : decode cL_law 461 = .ok (.iadd, 1) := by decide +kernel
theorem dL_law_462 : decode cL_law 462 = .ok (.iaload, 1) := by decide +kernel
theorem dL_law_463 : decode cL_law 463 = .ok (.aload_n 3, 1) := by decide +kernel
theorem dL_law_464 : decode cL_law 464 = .ok (.invokestatic 144, 3) := by decide +kernel
theorem dL_law_467 : decode cL_law 467 = .ok (.istore 5, 2) := by decide +kernel
theorem dL_law_469 : decode cL_law 469 = .ok (.aload_n 2, 1) := by decide +kernel
theorem dL_law_470 : decode cL_law 470 = .ok (.aload_n 0, 1) := by decide +kernel
theorem dL_law_471 : decode cL_law 471 = .ok (.iload 4, 2) := by decide +kernel
theorem dL_law_473 : decode cL_law 473 = .ok (.iconst 1, 1) := by decide +kernel
theorem dL_law_474 : decode cL_law 474 = .ok (.iadd, 1) := by decide +kernel
theorem dL_law_475 : decode cL_law 475 = .ok (.iaload, 1) := by decide +kernel
theorem dL_law_476 : decode cL_law 476 = .ok (.invokevirtual 147, 3) := by decide +kernel
theorem dL_law_479 : decode cL_law 479 = .ok (.istore 6, 2) := by decide +kernel
theorem dL_law_481 : decode cL_law 481 = .ok (.aload_n 2, 1) := by decide +kernel
theorem dL_law_482 : decode cL_law 482 = .ok (.invokevirtual 133, 3) := by decide +kernel
theorem dL_law_485 : decode cL_law 485 = .ok (.iload 5, 2) := by decide +kernel
theorem dL_law_487 : decode cL_law 487 = .ok (.if_icmp .eq 5, 3) := by decide +kernel
theorem dL_law_492 : decode cL_law 492 = .ok (.iload 5, 2) := by decide +kernel
theorem dL_law_494 : decode cL_law 494 = .ok (.ifCond .ne 15, 3) := by decide +kernel
theorem dL_law_509 : decode cL_law 509 = .ok (.goto 1995, 3) := by decide +kernel
set_option maxRecDepth 100000 in
set_option maxHeartbeats 4000000 in
/-- the case 3 -/
theorem tc_3 {p : Program} {l : Launch} {e : Env} {s0 s : State} {m : MethodId} {below : List Frame} {meth : Method} {c : Code} {A : Nat → Prop} (hst : l.stackTraces = false) {dC : Nat → ClassId} {dI : Nat → Nat → Nat} {cy : Nat → ClassId} {b : Nat} {xs : Nat → Int32} {d0 : Drawn} (hd0 : s0.drawn.sameBut d0 lw_cs) (hs : s = s0.setDrawn d0) (C1 : tc_At p s m meth c b #[Value.ref b] A dC dI cy) (hX : va_X b 7 xs s s.heap) {a0 : Nat} {a1 : Nat} {a2 : Nat} {aT : Nat} {b1 : Nat} {b2 : Nat} {b3 : Nat} {b4 : Nat} {b5 : Nat} {b6 : Nat} {b7 : Nat} {m0 : Nat} {w0 : Nat} {o0 : Nat} {r_phases : Nat} {r_phase : Nat} {r_phaseTicks : Nat} {r_set : Nat} {r_least : Nat} {r_greatest : Nat} {r_from : Nat} {r_to : Nat} {r_time : Nat} {r_room : Nat} {r_first : Nat} {r_rate : Nat} {r_cost : Nat} {r_isShut : Nat} {r_slowed : Nat} {r_row : Nat} {r_size : Nat} {r_came : Nat} {r_left : Nat} {r_mostQueue : Nat} {r_sumQueue : Nat} {r_turned : Nat} {r_flowFrom : Nat} {r_flowTo : Nat} {r_kind : Nat} {r_start : Nat} {r_period : Nat} {r_count : Nat} {r_flow : Nat} {r_began : Nat} {r_state : Nat} {r_link : Nat} {r_end : Nat} {r_gone : Nat} {r_trip : Nat} {r_delay : Nat} {r_way : Nat} (H : Heap) (locs : List Loc) (ls : Array Slot) (hP : va_P (dC, dI) vwCl [(a0, .inr (8, [.ref a1, .ref aT])), (a1, .inr (5, [.ref a2, .ref b1, .ref b2, .ref b3, .ref b4, .ref b5, .int 0, .int 1, .int 0, .int 0, .int 0, .int 0])), (a2, .inr (2, [.ref b6, .int 0, .ref b7, .int 0])), (m0, .inr (10, [.ref w0, .int 0])), (w0, .inr (9, [.int 0, .int 1, .int 0, .ref r_phases, .ref r_phase, .ref r_phaseTicks, .ref r_set, .ref r_least, .ref r_greatest, .int 0, .ref r_from, .ref r_to, .ref r_time, .ref r_room, .ref r_first, .ref r_rate, .ref r_cost, .ref r_isShut, .ref r_slowed, .ref r_row, .ref r_size, .ref r_came, .ref r_left, .ref r_mostQueue, .ref r_sumQueue, .ref r_turned, .int 0, .ref r_flowFrom, .ref r_flowTo, .ref r_kind, .ref r_start, .ref r_period, .ref r_count, .int 0, .ref r_flow, .ref r_began, .ref r_state, .ref r_link, .ref r_end, .ref r_gone, .ref r_trip, .ref r_delay, .ref r_way])), (o0, .inl (cy 1, 1, .inr (.inl ((fun _ => 0)))))] H) (hD : va_D A [(a0, .inr (8, [.ref a1, .ref aT])), (a1, .inr (5, [.ref a2, .ref b1, .ref b2, .ref b3, .ref b4, .ref b5, .int 0, .int 1, .int 0, .int 0, .int 0, .int 0])), (a2, .inr (2, [.ref b6, .int 0, .ref b7, .int 0])), (m0, .inr (10, [.ref w0, .int 0])), (w0, .inr (9, [.int 0, .int 1, .int 0, .ref r_phases, .ref r_phase, .ref r_phaseTicks, .ref r_set, .ref r_least, .ref r_greatest, .int 0, .ref r_from, .ref r_to, .ref r_time, .ref r_room, .ref r_first, .ref r_rate, .ref r_cost, .ref r_isShut, .ref r_slowed, .ref r_row, .ref r_size, .ref r_came, .ref r_left, .ref r_mostQueue, .ref r_sumQueue, .ref r_turned, .int 0, .ref r_flowFrom, .ref r_flowTo, .ref r_kind, .ref r_start, .ref r_period, .ref r_count, .int 0, .ref r_flow, .ref r_began, .ref r_state, .ref r_link, .ref r_end, .ref r_gone, .ref r_trip, .ref r_delay, .ref r_way])), (o0, .inl (cy 1, 1, .inr (.inl ((fun _ => 0)))))]) (hS : va_S A s.heap H locs) (hl : lv_has ls 9 [(0, .ref b), (1, .ref a0), (2, .ref m0), (3, .ref o0), (4, .int 0)]) : W p l e room_1 s m #[Value.ref b] below meth c H locs 1535 31585 (lw_Z below #[Value.ref b] s0) (F0 m 456 ls []) := by
  have C2 := C1
  obtain ⟨hx, hb, hr, hml, hown, hts, hbl, hlocks, hK, hE, hZ, hA, hbA, hA2⟩ := C2
  refine lv_aload_n hx hb dL_law_456 rfl (lv_at hl 1 rfl) ?_
  refine lv_aload_n hx hb dL_law_457 rfl (lv_at hl 0 rfl) ?_
  refine lv_iload hx hb dL_law_458 (lv_at hl 4 rfl) ?_
  refine lv_iconst (v := 1) hx hb dL_law_460 (by decide) ?_
  refine lv_iadd hx hb dL_law_461 ?_
  refine va_sld hx hb hX hbl hbA hS (by unfold vp_in; decide) dL_law_462 ?_
  refine lv_aload_n hx hb dL_law_463 rfl (lv_at hl 3 rfl) ?_
  have hFc := va_free (wc := [(a0, .inr (8, [.ref a1, .ref aT])), (a1, .inr (5, [.ref a2, .ref b1, .ref b2, .ref b3, .ref b4, .ref b5, .int 0, .int 1, .int 0, .int 0, .int 0, .int 0])), (a2, .inr (2, [.ref b6, .int 0, .ref b7, .int 0])), (o0, .inl (cy 1, 1, .inr (.inl ((fun _ => 0)))))]) hD hS hA [0, 1, 2, 5] rfl
  refine vx_calli (vx_runSX (As := [.ref a0, .int (xs (0 + 1 : Int32).toNatClampNeg), .ref o0]) (rest := []) ⟨hx, hb, hml, hown, hts⟩ (tm_L_dropSignal l hst dC dI cy a0 a1 a2 aT b1 b2 b3 b4 b5 b6 b7 o0 (xs (0 + 1 : Int32).toNatClampNeg) H.size) (tp_cwSW 3 hts tw_738 tw_739 tw_37 tw_740 rfl rfl (by decide +kernel) ⟨Nat.le_of_ble_eq_true rfl, Nat.le_of_ble_eq_true rfl⟩) ⟨tp_blind, fun U hU hW => ⟨rfl, tp_pay hK hP hD hE hZ hS [0, 1, 2, 5] (by decide) rfl hFc U hU hW⟩⟩ rfl rfl hl.1 rfl (lv_room (Nat.le_of_ble_eq_true rfl)) dL_law_464 ⟨(Nat.le_of_ble_eq_true rfl), (Nat.le_of_ble_eq_true rfl)⟩) hS (fun q _ h => hFc q h) hFc (fun q _ h => hFc q h) (fun E9 ce q9 u t H1 locs ht hvm hw hB hz1 hk1 hS hce hcv hcl => ?_) (fun r_1 u t H1 locs ht hvm hw hB hz1 hk1 hS => ?_)
  · obtain ⟨hE9, hB⟩ := hB
    exact hE9.elim
  · obtain rfl := hw
    obtain ⟨f_2, hP1, hD1⟩ := hB
    subst f_2
    rw [ht] at hP1
    obtain ⟨hP, hD⟩ := va_join (wr := [(m0, .inr (10, [.ref w0, .int 0])), (w0, .inr (9, [.int 0, .int 1, .int 0, .ref r_phases, .ref r_phase, .ref r_phaseTicks, .ref r_set, .ref r_least, .ref r_greatest, .int 0, .ref r_from, .ref r_to, .ref r_time, .ref r_room, .ref r_first, .ref r_rate, .ref r_cost, .ref r_isShut, .ref r_slowed, .ref r_row, .ref r_size, .ref r_came, .ref r_left, .ref r_mostQueue, .ref r_sumQueue, .ref r_turned, .int 0, .ref r_flowFrom, .ref r_flowTo, .ref r_kind, .ref r_start, .ref r_period, .ref r_count, .int 0, .ref r_flow, .ref r_began, .ref r_state, .ref r_link, .ref r_end, .ref r_gone, .ref r_trip, .ref r_delay, .ref r_way]))]) (w1 := [(o0, .inl (cy 1, 1, .inr (.inl ((fun _ => 0)))))]) hP hD [0, 1, 2, 5] [3, 4] rfl rfl (by decide) (by decide) hk1 hFc hP1 hD1
    generalize H1 = H at hP hS ⊢
    have hP : va_P (dC, dI) vwCl [(m0, .inr (10, [.ref w0, .int 0])), (w0, .inr (9, [.int 0, .int 1, .int 0, .ref r_phases, .ref r_phase, .ref r_phaseTicks, .ref r_set, .ref r_least, .ref r_greatest, .int 0, .ref r_from, .ref r_to, .ref r_time, .ref r_room, .ref r_first, .ref r_rate, .ref r_cost, .ref r_isShut, .ref r_slowed, .ref r_row, .ref r_size, .ref r_came, .ref r_left, .ref r_mostQueue, .ref r_sumQueue, .ref r_turned, .int 0, .ref r_flowFrom, .ref r_flowTo, .ref r_kind, .ref r_start, .ref r_period, .ref r_count, .int 0, .ref r_flow, .ref r_began, .ref r_state, .ref r_link, .ref r_end, .ref r_gone, .ref r_trip, .ref r_delay, .ref r_way])), (o0, .inl (cy 1, 1, .inr (.inl ((fun _ => 0)))))] _ := hP
    have hD : va_D A [(m0, .inr (10, [.ref w0, .int 0])), (w0, .inr (9, [.int 0, .int 1, .int 0, .ref r_phases, .ref r_phase, .ref r_phaseTicks, .ref r_set, .ref r_least, .ref r_greatest, .int 0, .ref r_from, .ref r_to, .ref r_time, .ref r_room, .ref r_first, .ref r_rate, .ref r_cost, .ref r_isShut, .ref r_slowed, .ref r_row, .ref r_size, .ref r_came, .ref r_left, .ref r_mostQueue, .ref r_sumQueue, .ref r_turned, .int 0, .ref r_flowFrom, .ref r_flowTo, .ref r_kind, .ref r_start, .ref r_period, .ref r_count, .int 0, .ref r_flow, .ref r_began, .ref r_state, .ref r_link, .ref r_end, .ref r_gone, .ref r_trip, .ref r_delay, .ref r_way])), (o0, .inl (cy 1, 1, .inr (.inl ((fun _ => 0)))))] := hD
    refine lv_istore (lv' := [(5, .int 1), (0, .ref b), (1, .ref a0), (2, .ref m0), (3, .ref o0), (4, .int 0)]) hx hb dL_law_467 hl (by decide) rfl (fun ls hl => ?_)
    refine lv_aload_n hx hb dL_law_469 rfl (lv_at hl 3 rfl) ?_
    refine lv_aload_n hx hb dL_law_470 rfl (lv_at hl 1 rfl) ?_
    refine lv_iload hx hb dL_law_471 (lv_at hl 5 rfl) ?_
    refine lv_iconst (v := 1) hx hb dL_law_473 (by decide) ?_
    refine lv_iadd hx hb dL_law_474 ?_
    refine va_sld hx hb hX hbl hbA hS (by unfold vp_in; decide) dL_law_475 ?_
    have hFc := va_free (wc := [(m0, .inr (10, [.ref w0, .int 0])), (w0, .inr (9, [.int 0, .int 1, .int 0, .ref r_phases, .ref r_phase, .ref r_phaseTicks, .ref r_set, .ref r_least, .ref r_greatest, .int 0, .ref r_from, .ref r_to, .ref r_time, .ref r_room, .ref r_first, .ref r_rate, .ref r_cost, .ref r_isShut, .ref r_slowed, .ref r_row, .ref r_size, .ref r_came, .ref r_left, .ref r_mostQueue, .ref r_sumQueue, .ref r_turned, .int 0, .ref r_flowFrom, .ref r_flowTo, .ref r_kind, .ref r_start, .ref r_period, .ref r_count, .int 0, .ref r_flow, .ref r_began, .ref r_state, .ref r_link, .ref r_end, .ref r_gone, .ref r_trip, .ref r_delay, .ref r_way]))]) hD hS hA [0, 1] rfl
    refine va_calli (va_runV (As := [.int (xs (0 + 1 : Int32).toNatClampNeg)]) (rest := []) ⟨hx, hb, hml, hown, hts⟩ (tm_m_dropSignal l hst dC dI cy m0 w0 0 r_phases r_phase r_phaseTicks r_set r_least r_greatest r_from r_to r_time r_room r_first r_rate r_cost r_isShut r_slowed r_row r_size r_came r_left r_mostQueue r_sumQueue r_turned r_flowFrom r_flowTo r_kind r_start r_period r_count r_flow r_began r_state r_link r_end r_gone r_trip r_delay r_way (xs (0 + 1 : Int32).toNatClampNeg) H.size) (tp_cwV 1 hts tw_1348 tw_1349 tw_1350 tw_48 tw_1351 rfl rfl (by decide +kernel) ⟨Nat.le_of_ble_eq_true rfl, Nat.le_of_ble_eq_true rfl⟩) ⟨tp_blind, va_recv hK hP (ci := 10) (q0 := 0) rfl rfl, fun U hU hW => ⟨rfl, tp_pay hK hP hD hE hZ hS [0, 1] (by decide) rfl hFc U hU hW⟩⟩ rfl rfl hl.1 rfl (lv_room (Nat.le_of_ble_eq_true rfl)) dL_law_476 ⟨(Nat.le_of_ble_eq_true rfl), (Nat.le_of_ble_eq_true rfl)⟩) hS (fun q _ h => hFc q h) hFc (fun r_3 u t H1 locs ht hvm hw hB hz1 hk1 hS => ?_)
    obtain rfl := hw
    obtain ⟨f_4, hP1, hD1⟩ := hB
    subst f_4
    rw [ht] at hP1
    obtain ⟨hP, hD⟩ := va_join (wr := [(o0, .inl (cy 1, 1, .inr (.inl ((fun _ => 0)))))]) (w1 := [(m0, .inr (10, [.ref w0, .int 1]))]) hP hD [0, 1] [2] rfl rfl (by decide) (by decide) hk1 hFc hP1 hD1
    generalize H1 = H at hP hS ⊢
    have hP : va_P (dC, dI) vwCl [(o0, .inl (cy 1, 1, .inr (.inl ((fun _ => 0))))), (m0, .inr (10, [.ref w0, .int 1]))] _ := hP
    have hD : va_D A [(o0, .inl (cy 1, 1, .inr (.inl ((fun _ => 0))))), (m0, .inr (10, [.ref w0, .int 1]))] := hD
    refine lv_istore (lv' := [(6, .int 0), (5, .int 1), (0, .ref b), (1, .ref a0), (2, .ref m0), (3, .ref o0), (4, .int 0)]) hx hb dL_law_479 hl (by decide) rfl (fun ls hl => ?_)
    refine lv_aload_n hx hb dL_law_481 rfl (lv_at hl 4 rfl) ?_
    have hFc := va_free (wc := [(m0, .inr (10, [.ref w0, .int 1]))]) hD hS hA [1] rfl
    refine va_calli (va_runV (As := []) (rest := []) ⟨hx, hb, hml, hown, hts⟩ (tm_m_thrown l hst dC dI cy m0 w0 1 H.size) (tp_cwV 0 hts tw_1317 tw_1318 tw_1319 tw_48 tw_1320 rfl rfl (by decide +kernel) ⟨Nat.le_of_ble_eq_true rfl, Nat.le_of_ble_eq_true rfl⟩) ⟨tp_blind, va_recv hK hP (ci := 10) (q0 := 1) rfl rfl, fun U hU hW => ⟨rfl, tp_pay hK hP hD hE hZ hS [1] (by decide) rfl hFc U hU hW⟩⟩ rfl rfl hl.1 rfl (lv_room (Nat.le_of_ble_eq_true rfl)) dL_law_482 ⟨(Nat.le_of_ble_eq_true rfl), (Nat.le_of_ble_eq_true rfl)⟩) hS (fun q _ h => hFc q h) hFc (fun r_5 u t H1 locs ht hvm hw hB hz1 hk1 hS => ?_)
    obtain rfl := hw
    obtain ⟨f_6, hP1, hD1⟩ := hB
    subst f_6
    rw [ht] at hP1
    obtain ⟨hP, hD⟩ := va_join (wr := [(o0, .inl (cy 1, 1, .inr (.inl ((fun _ => 0)))))]) (w1 := [(m0, .inr (10, [.ref w0, .int 1]))]) hP hD [1] [0] rfl rfl (by decide) (by decide) hk1 hFc hP1 hD1
    generalize H1 = H at hP hS ⊢
    have hP : va_P (dC, dI) vwCl [(o0, .inl (cy 1, 1, .inr (.inl ((fun _ => 0))))), (m0, .inr (10, [.ref w0, .int 1]))] _ := hP
    have hD : va_D A [(o0, .inl (cy 1, 1, .inr (.inl ((fun _ => 0))))), (m0, .inr (10, [.ref w0, .int 1]))] := hD
    refine lv_iload hx hb dL_law_485 (lv_at hl 1 rfl) ?_
    refine lv_icmp_eq (tgt := 492) hx hb dL_law_487 (by decide) (fun _ => ?_) (fun c_7 => absurd rfl c_7)
    refine lv_iload hx hb dL_law_492 (lv_at hl 1 rfl) ?_
    refine lv_if_ne (tgt := 509) hx hb dL_law_494 (by decide) (fun _ => ?_) (fun c_8 => absurd c_8 (by decide))
    refine lv_goto (tgt := 2504) hx hb dL_law_509 (by decide) ?_
    exact tc_end hd0 hs C1 hX (Nat.le_of_ble_eq_true rfl) (Nat.le_of_ble_eq_true rfl) H _ ls hS (lv_sub hl [2, 6] rfl)
theorem tw_751 : Cond.codeWith yL_setRefresh cL_setRefresh 4 (some .int) [(0, 9, 12, 21)] ∈ tp_all := tp_mem 751 (by decide +kernel) rfl
theorem tw_749 : Cond.methodLink RL 148 yL_setRefresh ∈ tp_all := tp_mem 749 (by decide +kernel) rfl
theorem tw_750 : Cond.static yL_setRefresh ∈ tp_all := tp_mem 750 (by decide +kernel) rfl
theorem tw_1355 : Cond.code yX10_setRefresh cX10_setRefresh 3 (some .int) ∈ tp_all := tp_mem 1355 (by decide +kernel) rfl
theorem tw_1352 : Cond.methodLink RL 150 yX10_setRefresh ∈ tp_all := tp_mem 1352 (by decide +kernel) rfl
theorem tw_1353 : Cond.instanceMethod yX10_setRefresh ∈ tp_all := tp_mem 1353 (by decide +kernel) rfl
theorem tw_1354 : Cond.selects RX10 yX10_setRefresh yX10_setRefresh ∈ tp_all := tp_mem 1354 (by decide +kernel) rfl
theorem dL_law_512 : decode cL_law 512 = .ok (.aload_n 1, 1) := by decide +kernel
theorem dL_law_513 : decode cL_law 513 = .ok (.aload_n 0, 1) := by decide +kernel
theorem dL_law_514 : decode cL_law 514 = .ok (.iload 4, 2) := by decide +kernel
theorem dL_law_516 : decode cL_law 516 = .ok (.iconst 1, 1) := by decide +kernel
theorem dL_law_517 : decode cL_law 517 = .ok (.iadd, 1) := by decide +kernel
theorem dL_law_518 : decode cL_law 518 = .ok (.iaload, 1) := by decide +kernel
theorem dL_law_519 : decode cL_law 519 = .ok (.aload_n 3, 1) := by decide +kernel
theorem dL_law_520 : decode cL_law 520 = .ok (.invokestatic 148, 3) := by decide +kernel
theorem dL_law_523 : decode cL_law 523 = .ok (.istore 5, 2) := by decide +kernel
theorem dL_law_525 : decode cL_law 525 = .ok (.aload_n 2, 1) := by decide +kernel
theorem dL_law_526 : decode cL_law 526 = .ok (.aload_n 0, 1) := by decide +kernel
theorem dL_law_527 : decode cL_law 527 = .ok (.iload 4, 2) := by decide +kernel
theorem dL_law_529 : decode cL_law 529 = .ok (.iconst 1, 1) := by decide +kernel
theorem dL_law_530 : decode cL_law 530 = .ok (.iadd, 1) := by decide +kernel
theorem dL_law_531 : decode cL_law 531 = .ok (.iaload, 1) := by decide +kernel
theorem dL_law_532 : decode cL_law 532 = .ok (.invokevirtual 150, 3) := by decide +kernel
theorem dL_law_535 : decode cL_law 535 = .ok (.istore 6, 2) := by decide +kernel
theorem dL_law_537 : decode cL_law 537 = .ok (.aload_n 2, 1) := by decide +kernel
theorem dL_law_538 : decode cL_law 538 = .ok (.invokevirtual 133, 3) := by decide +kernel
theorem dL_law_541 : decode cL_law 541 = .ok (.iload 5, 2) := by decide +kernel
theorem dL_law_543 : decode cL_law 543 = .ok (.if_icmp .eq 5, 3) := by decide +kernel
theorem dL_law_548 : decode cL_law 548 = .ok (.iload 5, 2) := by decide +kernel
theorem dL_law_550 : decode cL_law 550 = .ok (.ifCond .ne 15, 3) := by decide +kernel
theorem dL_law_553 : decode cL_law 553 = .ok (.aload_n 3, 1) := by decide +kernel
theorem dL_law_554 : decode cL_law 554 = .ok (.iconst 0, 1) := by decide +kernel
theorem dL_law_555 : decode cL_law 555 = .ok (.laload, 1) := by decide +kernel
theorem dL_law_556 : decode cL_law 556 = .ok (.iload 6, 2) := by decide +kernel
theorem dL_law_558 : decode cL_law 558 = .ok (.i2l, 1) := by decide +kernel
theorem dL_law_559 : decode cL_law 559 = .ok (.lcmp, 1) := by decide +kernel
theorem dL_law_560 : decode cL_law 560 = .ok (.ifCond .eq 5, 3) := by decide +kernel
theorem dL_law_565 : decode cL_law 565 = .ok (.goto 1939, 3) := by decide +kernel
set_option maxRecDepth 100000 in
set_option maxHeartbeats 4000000 in
/-- the case 4 in -/
theorem tc_4_in {p : Program} {l : Launch} {e : Env} {s0 s : State} {m : MethodId} {below : List Frame} {meth : Method} {c : Code} {A : Nat → Prop} (hst : l.stackTraces = false) {dC : Nat → ClassId} {dI : Nat → Nat → Nat} {cy : Nat → ClassId} {b : Nat} {xs : Nat → Int32} {d0 : Drawn} (hd0 : s0.drawn.sameBut d0 lw_cs) (hs : s = s0.setDrawn d0) (C1 : tc_At p s m meth c b #[Value.ref b] A dC dI cy) (hX : va_X b 7 xs s s.heap) {a0 : Nat} {a1 : Nat} {a2 : Nat} {aT : Nat} {b1 : Nat} {b2 : Nat} {b3 : Nat} {b4 : Nat} {b5 : Nat} {b6 : Nat} {b7 : Nat} {m0 : Nat} {w0 : Nat} {o0 : Nat} {r_phases : Nat} {r_phase : Nat} {r_phaseTicks : Nat} {r_set : Nat} {r_least : Nat} {r_greatest : Nat} {r_from : Nat} {r_to : Nat} {r_time : Nat} {r_room : Nat} {r_first : Nat} {r_rate : Nat} {r_cost : Nat} {r_isShut : Nat} {r_slowed : Nat} {r_row : Nat} {r_size : Nat} {r_came : Nat} {r_left : Nat} {r_mostQueue : Nat} {r_sumQueue : Nat} {r_turned : Nat} {r_flowFrom : Nat} {r_flowTo : Nat} {r_kind : Nat} {r_start : Nat} {r_period : Nat} {r_count : Nat} {r_flow : Nat} {r_began : Nat} {r_state : Nat} {r_link : Nat} {r_end : Nat} {r_gone : Nat} {r_trip : Nat} {r_delay : Nat} {r_way : Nat} (hc : (1 : Int32) ≤ xs (0 + 1 : Int32).toNatClampNeg ∧ xs (0 + 1 : Int32).toNatClampNeg ≤ 30) (H : Heap) (locs : List Loc) (ls : Array Slot) (hP : va_P (dC, dI) vwCl [(a0, .inr (8, [.ref a1, .ref aT])), (a1, .inr (5, [.ref a2, .ref b1, .ref b2, .ref b3, .ref b4, .ref b5, .int 0, .int 1, .int 0, .int 0, .int 0, .int 0])), (a2, .inr (2, [.ref b6, .int 0, .ref b7, .int 0])), (m0, .inr (10, [.ref w0, .int 0])), (w0, .inr (9, [.int 0, .int 1, .int 0, .ref r_phases, .ref r_phase, .ref r_phaseTicks, .ref r_set, .ref r_least, .ref r_greatest, .int 0, .ref r_from, .ref r_to, .ref r_time, .ref r_room, .ref r_first, .ref r_rate, .ref r_cost, .ref r_isShut, .ref r_slowed, .ref r_row, .ref r_size, .ref r_came, .ref r_left, .ref r_mostQueue, .ref r_sumQueue, .ref r_turned, .int 0, .ref r_flowFrom, .ref r_flowTo, .ref r_kind, .ref r_start, .ref r_period, .ref r_count, .int 0, .ref r_flow, .ref r_began, .ref r_state, .ref r_link, .ref r_end, .ref r_gone, .ref r_trip, .ref r_delay, .ref r_way])), (o0, .inl (cy 1, 1, .inr (.inl ((fun _ => 0)))))] H) (hD : va_D A [(a0, .inr (8, [.ref a1, .ref aT])), (a1, .inr (5, [.ref a2, .ref b1, .ref b2, .ref b3, .ref b4, .ref b5, .int 0, .int 1, .int 0, .int 0, .int 0, .int 0])), (a2, .inr (2, [.ref b6, .int 0, .ref b7, .int 0])), (m0, .inr (10, [.ref w0, .int 0])), (w0, .inr (9, [.int 0, .int 1, .int 0, .ref r_phases, .ref r_phase, .ref r_phaseTicks, .ref r_set, .ref r_least, .ref r_greatest, .int 0, .ref r_from, .ref r_to, .ref r_time, .ref r_room, .ref r_first, .ref r_rate, .ref r_cost, .ref r_isShut, .ref r_slowed, .ref r_row, .ref r_size, .ref r_came, .ref r_left, .ref r_mostQueue, .ref r_sumQueue, .ref r_turned, .int 0, .ref r_flowFrom, .ref r_flowTo, .ref r_kind, .ref r_start, .ref r_period, .ref r_count, .int 0, .ref r_flow, .ref r_began, .ref r_state, .ref r_link, .ref r_end, .ref r_gone, .ref r_trip, .ref r_delay, .ref r_way])), (o0, .inl (cy 1, 1, .inr (.inl ((fun _ => 0)))))]) (hS : va_S A s.heap H locs) (hl : lv_has ls 9 [(0, .ref b), (1, .ref a0), (2, .ref m0), (3, .ref o0), (4, .int 0)]) : W p l e room_1 s m #[Value.ref b] below meth c H locs 1535 31585 (lw_Z below #[Value.ref b] s0) (F0 m 512 ls []) := by
  have C2 := C1
  obtain ⟨hx, hb, hr, hml, hown, hts, hbl, hlocks, hK, hE, hZ, hA, hbA, hA2⟩ := C2
  refine lv_aload_n hx hb dL_law_512 rfl (lv_at hl 1 rfl) ?_
  refine lv_aload_n hx hb dL_law_513 rfl (lv_at hl 0 rfl) ?_
  refine lv_iload hx hb dL_law_514 (lv_at hl 4 rfl) ?_
  refine lv_iconst (v := 1) hx hb dL_law_516 (by decide) ?_
  refine lv_iadd hx hb dL_law_517 ?_
  refine va_sld hx hb hX hbl hbA hS (by unfold vp_in; decide) dL_law_518 ?_
  refine lv_aload_n hx hb dL_law_519 rfl (lv_at hl 3 rfl) ?_
  have hFc := va_free (wc := [(a0, .inr (8, [.ref a1, .ref aT])), (a1, .inr (5, [.ref a2, .ref b1, .ref b2, .ref b3, .ref b4, .ref b5, .int 0, .int 1, .int 0, .int 0, .int 0, .int 0])), (a2, .inr (2, [.ref b6, .int 0, .ref b7, .int 0])), (o0, .inl (cy 1, 1, .inr (.inl ((fun _ => 0)))))]) hD hS hA [0, 1, 2, 5] rfl
  refine vx_calli (vx_runSX (As := [.ref a0, .int (xs (0 + 1 : Int32).toNatClampNeg), .ref o0]) (rest := []) ⟨hx, hb, hml, hown, hts⟩ (tm_L_setRefresh_in l hst dC dI cy a0 a1 a2 aT b1 b2 b3 b4 b5 b6 b7 o0 (xs (0 + 1 : Int32).toNatClampNeg) H.size (by first | assumption | exact tp_none _ | decide | omega)) (tp_cwSW 3 hts tw_749 tw_750 tw_37 tw_751 rfl rfl (by decide +kernel) ⟨Nat.le_of_ble_eq_true rfl, Nat.le_of_ble_eq_true rfl⟩) ⟨tp_blind, fun U hU hW => ⟨rfl, tp_pay hK hP hD hE hZ hS [0, 1, 2, 5] (by decide) rfl hFc U hU hW⟩⟩ rfl rfl hl.1 rfl (lv_room (Nat.le_of_ble_eq_true rfl)) dL_law_520 ⟨(Nat.le_of_ble_eq_true rfl), (Nat.le_of_ble_eq_true rfl)⟩) hS (fun q _ h => hFc q h) hFc (fun q _ h => hFc q h) (fun E9 ce q9 u t H1 locs ht hvm hw hB hz1 hk1 hS hce hcv hcl => ?_) (fun r_1 u t H1 locs ht hvm hw hB hz1 hk1 hS => ?_)
  · obtain ⟨hE9, hB⟩ := hB
    exact hE9.elim
  · obtain rfl := hw
    obtain ⟨z_2, f_3, f_4, hP1, hD1⟩ := hB
    subst f_3
    rw [ht] at hP1
    obtain ⟨hP, hD⟩ := va_join (wr := [(m0, .inr (10, [.ref w0, .int 0])), (w0, .inr (9, [.int 0, .int 1, .int 0, .ref r_phases, .ref r_phase, .ref r_phaseTicks, .ref r_set, .ref r_least, .ref r_greatest, .int 0, .ref r_from, .ref r_to, .ref r_time, .ref r_room, .ref r_first, .ref r_rate, .ref r_cost, .ref r_isShut, .ref r_slowed, .ref r_row, .ref r_size, .ref r_came, .ref r_left, .ref r_mostQueue, .ref r_sumQueue, .ref r_turned, .int 0, .ref r_flowFrom, .ref r_flowTo, .ref r_kind, .ref r_start, .ref r_period, .ref r_count, .int 0, .ref r_flow, .ref r_began, .ref r_state, .ref r_link, .ref r_end, .ref r_gone, .ref r_trip, .ref r_delay, .ref r_way]))]) (w1 := [(o0, .inl (cy 1, 1, .inr (.inl z_2)))]) hP hD [0, 1, 2, 5] [3, 4] rfl rfl (by decide) (by decide) hk1 hFc hP1 hD1
    generalize H1 = H at hP hS ⊢
    have hP : va_P (dC, dI) vwCl [(m0, .inr (10, [.ref w0, .int 0])), (w0, .inr (9, [.int 0, .int 1, .int 0, .ref r_phases, .ref r_phase, .ref r_phaseTicks, .ref r_set, .ref r_least, .ref r_greatest, .int 0, .ref r_from, .ref r_to, .ref r_time, .ref r_room, .ref r_first, .ref r_rate, .ref r_cost, .ref r_isShut, .ref r_slowed, .ref r_row, .ref r_size, .ref r_came, .ref r_left, .ref r_mostQueue, .ref r_sumQueue, .ref r_turned, .int 0, .ref r_flowFrom, .ref r_flowTo, .ref r_kind, .ref r_start, .ref r_period, .ref r_count, .int 0, .ref r_flow, .ref r_began, .ref r_state, .ref r_link, .ref r_end, .ref r_gone, .ref r_trip, .ref r_delay, .ref r_way])), (o0, .inl (cy 1, 1, .inr (.inl z_2)))] _ := hP
    have hD : va_D A [(m0, .inr (10, [.ref w0, .int 0])), (w0, .inr (9, [.int 0, .int 1, .int 0, .ref r_phases, .ref r_phase, .ref r_phaseTicks, .ref r_set, .ref r_least, .ref r_greatest, .int 0, .ref r_from, .ref r_to, .ref r_time, .ref r_room, .ref r_first, .ref r_rate, .ref r_cost, .ref r_isShut, .ref r_slowed, .ref r_row, .ref r_size, .ref r_came, .ref r_left, .ref r_mostQueue, .ref r_sumQueue, .ref r_turned, .int 0, .ref r_flowFrom, .ref r_flowTo, .ref r_kind, .ref r_start, .ref r_period, .ref r_count, .int 0, .ref r_flow, .ref r_began, .ref r_state, .ref r_link, .ref r_end, .ref r_gone, .ref r_trip, .ref r_delay, .ref r_way])), (o0, .inl (cy 1, 1, .inr (.inl z_2)))] := hD
    refine lv_istore (lv' := [(5, .int 0), (0, .ref b), (1, .ref a0), (2, .ref m0), (3, .ref o0), (4, .int 0)]) hx hb dL_law_523 hl (by decide) rfl (fun ls hl => ?_)
    refine lv_aload_n hx hb dL_law_525 rfl (lv_at hl 3 rfl) ?_
    refine lv_aload_n hx hb dL_law_526 rfl (lv_at hl 1 rfl) ?_
    refine lv_iload hx hb dL_law_527 (lv_at hl 5 rfl) ?_
    refine lv_iconst (v := 1) hx hb dL_law_529 (by decide) ?_
    refine lv_iadd hx hb dL_law_530 ?_
    refine va_sld hx hb hX hbl hbA hS (by unfold vp_in; decide) dL_law_531 ?_
    have hFc := va_free (wc := [(m0, .inr (10, [.ref w0, .int 0])), (w0, .inr (9, [.int 0, .int 1, .int 0, .ref r_phases, .ref r_phase, .ref r_phaseTicks, .ref r_set, .ref r_least, .ref r_greatest, .int 0, .ref r_from, .ref r_to, .ref r_time, .ref r_room, .ref r_first, .ref r_rate, .ref r_cost, .ref r_isShut, .ref r_slowed, .ref r_row, .ref r_size, .ref r_came, .ref r_left, .ref r_mostQueue, .ref r_sumQueue, .ref r_turned, .int 0, .ref r_flowFrom, .ref r_flowTo, .ref r_kind, .ref r_start, .ref r_period, .ref r_count, .int 0, .ref r_flow, .ref r_began, .ref r_state, .ref r_link, .ref r_end, .ref r_gone, .ref r_trip, .ref r_delay, .ref r_way]))]) hD hS hA [0, 1] rfl
    refine va_calli (va_runV (As := [.int (xs (0 + 1 : Int32).toNatClampNeg)]) (rest := []) ⟨hx, hb, hml, hown, hts⟩ (tm_m_setRefresh_in l hst dC dI cy m0 w0 0 r_phases r_phase r_phaseTicks r_set r_least r_greatest r_from r_to r_time r_room r_first r_rate r_cost r_isShut r_slowed r_row r_size r_came r_left r_mostQueue r_sumQueue r_turned r_flowFrom r_flowTo r_kind r_start r_period r_count r_flow r_began r_state r_link r_end r_gone r_trip r_delay r_way (xs (0 + 1 : Int32).toNatClampNeg) H.size (by first | assumption | exact tp_none _ | decide | omega)) (tp_cwV 1 hts tw_1352 tw_1353 tw_1354 tw_48 tw_1355 rfl rfl (by decide +kernel) ⟨Nat.le_of_ble_eq_true rfl, Nat.le_of_ble_eq_true rfl⟩) ⟨tp_blind, va_recv hK hP (ci := 10) (q0 := 0) rfl rfl, fun U hU hW => ⟨rfl, tp_pay hK hP hD hE hZ hS [0, 1] (by decide) rfl hFc U hU hW⟩⟩ rfl rfl hl.1 rfl (lv_room (Nat.le_of_ble_eq_true rfl)) dL_law_532 ⟨(Nat.le_of_ble_eq_true rfl), (Nat.le_of_ble_eq_true rfl)⟩) hS (fun q _ h => hFc q h) hFc (fun r_5 u t H1 locs ht hvm hw hB hz1 hk1 hS => ?_)
    obtain rfl := hw
    obtain ⟨f_6, hP1, hD1⟩ := hB
    subst f_6
    rw [ht] at hP1
    obtain ⟨hP, hD⟩ := va_join (wr := [(o0, .inl (cy 1, 1, .inr (.inl z_2)))]) (w1 := [(m0, .inr (10, [.ref w0, .int 0]))]) hP hD [0, 1] [2] rfl rfl (by decide) (by decide) hk1 hFc hP1 hD1
    generalize H1 = H at hP hS ⊢
    have hP : va_P (dC, dI) vwCl [(o0, .inl (cy 1, 1, .inr (.inl z_2))), (m0, .inr (10, [.ref w0, .int 0]))] _ := hP
    have hD : va_D A [(o0, .inl (cy 1, 1, .inr (.inl z_2))), (m0, .inr (10, [.ref w0, .int 0]))] := hD
    refine lv_istore (lv' := [(6, .int 1), (5, .int 0), (0, .ref b), (1, .ref a0), (2, .ref m0), (3, .ref o0), (4, .int 0)]) hx hb dL_law_535 hl (by decide) rfl (fun ls hl => ?_)
    refine lv_aload_n hx hb dL_law_537 rfl (lv_at hl 4 rfl) ?_
    have hFc := va_free (wc := [(m0, .inr (10, [.ref w0, .int 0]))]) hD hS hA [1] rfl
    refine va_calli (va_runV (As := []) (rest := []) ⟨hx, hb, hml, hown, hts⟩ (tm_m_thrown l hst dC dI cy m0 w0 0 H.size) (tp_cwV 0 hts tw_1317 tw_1318 tw_1319 tw_48 tw_1320 rfl rfl (by decide +kernel) ⟨Nat.le_of_ble_eq_true rfl, Nat.le_of_ble_eq_true rfl⟩) ⟨tp_blind, va_recv hK hP (ci := 10) (q0 := 1) rfl rfl, fun U hU hW => ⟨rfl, tp_pay hK hP hD hE hZ hS [1] (by decide) rfl hFc U hU hW⟩⟩ rfl rfl hl.1 rfl (lv_room (Nat.le_of_ble_eq_true rfl)) dL_law_538 ⟨(Nat.le_of_ble_eq_true rfl), (Nat.le_of_ble_eq_true rfl)⟩) hS (fun q _ h => hFc q h) hFc (fun r_7 u t H1 locs ht hvm hw hB hz1 hk1 hS => ?_)
    obtain rfl := hw
    obtain ⟨f_8, hP1, hD1⟩ := hB
    subst f_8
    rw [ht] at hP1
    obtain ⟨hP, hD⟩ := va_join (wr := [(o0, .inl (cy 1, 1, .inr (.inl z_2)))]) (w1 := [(m0, .inr (10, [.ref w0, .int 0]))]) hP hD [1] [0] rfl rfl (by decide) (by decide) hk1 hFc hP1 hD1
    generalize H1 = H at hP hS ⊢
    have hP : va_P (dC, dI) vwCl [(o0, .inl (cy 1, 1, .inr (.inl z_2))), (m0, .inr (10, [.ref w0, .int 0]))] _ := hP
    have hD : va_D A [(o0, .inl (cy 1, 1, .inr (.inl z_2))), (m0, .inr (10, [.ref w0, .int 0]))] := hD
    refine lv_iload hx hb dL_law_541 (lv_at hl 1 rfl) ?_
    refine lv_icmp_eq (tgt := 548) hx hb dL_law_543 (by decide) (fun _ => ?_) (fun c_9 => absurd rfl c_9)
    refine lv_iload hx hb dL_law_548 (lv_at hl 1 rfl) ?_
    refine lv_if_ne (tgt := 565) hx hb dL_law_550 (by decide) (fun c_10 => absurd (by decide) c_10) (fun _ => ?_)
    refine lv_aload_n hx hb dL_law_553 rfl (lv_at hl 5 rfl) ?_
    refine lv_iconst (v := 0) hx hb dL_law_554 (by decide) ?_
    refine va_lald hx hb hK hP 0 1 rfl rfl (by unfold vp_in; decide) dL_law_555 ?_
    rw [f_4]
    refine lv_iload hx hb dL_law_556 (lv_at hl 0 rfl) ?_
    refine lv_i2l (v := 1) hx hb dL_law_558 (by decide) ?_
    refine W.lcmp hx hb dL_law_559 ?_
    refine lv_if_eq (tgt := 565) hx hb dL_law_560 (by decide) (fun _ => ?_) (fun c_11 => absurd (tp_cmp _) c_11)
    refine lv_goto (tgt := 2504) hx hb dL_law_565 (by decide) ?_
    exact tc_end hd0 hs C1 hX (Nat.le_of_ble_eq_true rfl) (Nat.le_of_ble_eq_true rfl) H _ ls hS (lv_sub hl [2, 6] rfl)
set_option maxRecDepth 100000 in
set_option maxHeartbeats 4000000 in
/-- the case 4 out -/
theorem tc_4_out {p : Program} {l : Launch} {e : Env} {s0 s : State} {m : MethodId} {below : List Frame} {meth : Method} {c : Code} {A : Nat → Prop} (hst : l.stackTraces = false) {dC : Nat → ClassId} {dI : Nat → Nat → Nat} {cy : Nat → ClassId} {b : Nat} {xs : Nat → Int32} {d0 : Drawn} (hd0 : s0.drawn.sameBut d0 lw_cs) (hs : s = s0.setDrawn d0) (C1 : tc_At p s m meth c b #[Value.ref b] A dC dI cy) (hX : va_X b 7 xs s s.heap) {a0 : Nat} {a1 : Nat} {a2 : Nat} {aT : Nat} {b1 : Nat} {b2 : Nat} {b3 : Nat} {b4 : Nat} {b5 : Nat} {b6 : Nat} {b7 : Nat} {m0 : Nat} {w0 : Nat} {o0 : Nat} {r_phases : Nat} {r_phase : Nat} {r_phaseTicks : Nat} {r_set : Nat} {r_least : Nat} {r_greatest : Nat} {r_from : Nat} {r_to : Nat} {r_time : Nat} {r_room : Nat} {r_first : Nat} {r_rate : Nat} {r_cost : Nat} {r_isShut : Nat} {r_slowed : Nat} {r_row : Nat} {r_size : Nat} {r_came : Nat} {r_left : Nat} {r_mostQueue : Nat} {r_sumQueue : Nat} {r_turned : Nat} {r_flowFrom : Nat} {r_flowTo : Nat} {r_kind : Nat} {r_start : Nat} {r_period : Nat} {r_count : Nat} {r_flow : Nat} {r_began : Nat} {r_state : Nat} {r_link : Nat} {r_end : Nat} {r_gone : Nat} {r_trip : Nat} {r_delay : Nat} {r_way : Nat} (hc : ¬ ((1 : Int32) ≤ xs (0 + 1 : Int32).toNatClampNeg ∧ xs (0 + 1 : Int32).toNatClampNeg ≤ 30)) (H : Heap) (locs : List Loc) (ls : Array Slot) (hP : va_P (dC, dI) vwCl [(a0, .inr (8, [.ref a1, .ref aT])), (a1, .inr (5, [.ref a2, .ref b1, .ref b2, .ref b3, .ref b4, .ref b5, .int 0, .int 1, .int 0, .int 0, .int 0, .int 0])), (a2, .inr (2, [.ref b6, .int 0, .ref b7, .int 0])), (m0, .inr (10, [.ref w0, .int 0])), (w0, .inr (9, [.int 0, .int 1, .int 0, .ref r_phases, .ref r_phase, .ref r_phaseTicks, .ref r_set, .ref r_least, .ref r_greatest, .int 0, .ref r_from, .ref r_to, .ref r_time, .ref r_room, .ref r_first, .ref r_rate, .ref r_cost, .ref r_isShut, .ref r_slowed, .ref r_row, .ref r_size, .ref r_came, .ref r_left, .ref r_mostQueue, .ref r_sumQueue, .ref r_turned, .int 0, .ref r_flowFrom, .ref r_flowTo, .ref r_kind, .ref r_start, .ref r_period, .ref r_count, .int 0, .ref r_flow, .ref r_began, .ref r_state, .ref r_link, .ref r_end, .ref r_gone, .ref r_trip, .ref r_delay, .ref r_way])), (o0, .inl (cy 1, 1, .inr (.inl ((fun _ => 0)))))] H) (hD : va_D A [(a0, .inr (8, [.ref a1, .ref aT])), (a1, .inr (5, [.ref a2, .ref b1, .ref b2, .ref b3, .ref b4, .ref b5, .int 0, .int 1, .int 0, .int 0, .int 0, .int 0])), (a2, .inr (2, [.ref b6, .int 0, .ref b7, .int 0])), (m0, .inr (10, [.ref w0, .int 0])), (w0, .inr (9, [.int 0, .int 1, .int 0, .ref r_phases, .ref r_phase, .ref r_phaseTicks, .ref r_set, .ref r_least, .ref r_greatest, .int 0, .ref r_from, .ref r_to, .ref r_time, .ref r_room, .ref r_first, .ref r_rate, .ref r_cost, .ref r_isShut, .ref r_slowed, .ref r_row, .ref r_size, .ref r_came, .ref r_left, .ref r_mostQueue, .ref r_sumQueue, .ref r_turned, .int 0, .ref r_flowFrom, .ref r_flowTo, .ref r_kind, .ref r_start, .ref r_period, .ref r_count, .int 0, .ref r_flow, .ref r_began, .ref r_state, .ref r_link, .ref r_end, .ref r_gone, .ref r_trip, .ref r_delay, .ref r_way])), (o0, .inl (cy 1, 1, .inr (.inl ((fun _ => 0)))))]) (hS : va_S A s.heap H locs) (hl : lv_has ls 9 [(0, .ref b), (1, .ref a0), (2, .ref m0), (3, .ref o0), (4, .int 0)]) : W p l e room_1 s m #[Value.ref b] below meth c H locs 1535 31585 (lw_Z below #[Value.ref b] s0) (F0 m 512 ls []) := by
  have C2 := C1
  obtain ⟨hx, hb, hr, hml, hown, hts, hbl, hlocks, hK, hE, hZ, hA, hbA, hA2⟩ := C2
  refine lv_aload_n hx hb dL_law_512 rfl (lv_at hl 1 rfl) ?_
  refine lv_aload_n hx hb dL_law_513 rfl (lv_at hl 0 rfl) ?_
  refine lv_iload hx hb dL_law_514 (lv_at hl 4 rfl) ?_
  refine lv_iconst (v := 1) hx hb dL_law_516 (by decide) ?_
  refine lv_iadd hx hb dL_law_517 ?_
  refine va_sld hx hb hX hbl hbA hS (by unfold vp_in; decide) dL_law_518 ?_
  refine lv_aload_n hx hb dL_law_519 rfl (lv_at hl 3 rfl) ?_
  have hFc := va_free (wc := [(a0, .inr (8, [.ref a1, .ref aT])), (a1, .inr (5, [.ref a2, .ref b1, .ref b2, .ref b3, .ref b4, .ref b5, .int 0, .int 1, .int 0, .int 0, .int 0, .int 0])), (a2, .inr (2, [.ref b6, .int 0, .ref b7, .int 0])), (o0, .inl (cy 1, 1, .inr (.inl ((fun _ => 0)))))]) hD hS hA [0, 1, 2, 5] rfl
  refine vx_calli (vx_runSX (As := [.ref a0, .int (xs (0 + 1 : Int32).toNatClampNeg), .ref o0]) (rest := []) ⟨hx, hb, hml, hown, hts⟩ (tm_L_setRefresh_out l hst dC dI cy a0 a1 a2 aT b1 b2 b3 b4 b5 b6 b7 o0 (xs (0 + 1 : Int32).toNatClampNeg) H.size (by first | assumption | exact tp_none _ | decide | omega)) (tp_cwSW 3 hts tw_749 tw_750 tw_37 tw_751 rfl rfl (by decide +kernel) ⟨Nat.le_of_ble_eq_true rfl, Nat.le_of_ble_eq_true rfl⟩) ⟨tp_blind, fun U hU hW => ⟨rfl, tp_pay hK hP hD hE hZ hS [0, 1, 2, 5] (by decide) rfl hFc U hU hW⟩⟩ rfl rfl hl.1 rfl (lv_room (Nat.le_of_ble_eq_true rfl)) dL_law_520 ⟨(Nat.le_of_ble_eq_true rfl), (Nat.le_of_ble_eq_true rfl)⟩) hS (fun q _ h => hFc q h) hFc (fun q _ h => hFc q h) (fun E9 ce q9 u t H1 locs ht hvm hw hB hz1 hk1 hS hce hcv hcl => ?_) (fun r_1 u t H1 locs ht hvm hw hB hz1 hk1 hS => ?_)
  · obtain ⟨hE9, hB⟩ := hB
    exact hE9.elim
  · obtain rfl := hw
    obtain ⟨f_2, hP1, hD1⟩ := hB
    subst f_2
    rw [ht] at hP1
    obtain ⟨hP, hD⟩ := va_join (wr := [(m0, .inr (10, [.ref w0, .int 0])), (w0, .inr (9, [.int 0, .int 1, .int 0, .ref r_phases, .ref r_phase, .ref r_phaseTicks, .ref r_set, .ref r_least, .ref r_greatest, .int 0, .ref r_from, .ref r_to, .ref r_time, .ref r_room, .ref r_first, .ref r_rate, .ref r_cost, .ref r_isShut, .ref r_slowed, .ref r_row, .ref r_size, .ref r_came, .ref r_left, .ref r_mostQueue, .ref r_sumQueue, .ref r_turned, .int 0, .ref r_flowFrom, .ref r_flowTo, .ref r_kind, .ref r_start, .ref r_period, .ref r_count, .int 0, .ref r_flow, .ref r_began, .ref r_state, .ref r_link, .ref r_end, .ref r_gone, .ref r_trip, .ref r_delay, .ref r_way]))]) (w1 := [(o0, .inl (cy 1, 1, .inr (.inl ((fun _ => 0)))))]) hP hD [0, 1, 2, 5] [3, 4] rfl rfl (by decide) (by decide) hk1 hFc hP1 hD1
    generalize H1 = H at hP hS ⊢
    have hP : va_P (dC, dI) vwCl [(m0, .inr (10, [.ref w0, .int 0])), (w0, .inr (9, [.int 0, .int 1, .int 0, .ref r_phases, .ref r_phase, .ref r_phaseTicks, .ref r_set, .ref r_least, .ref r_greatest, .int 0, .ref r_from, .ref r_to, .ref r_time, .ref r_room, .ref r_first, .ref r_rate, .ref r_cost, .ref r_isShut, .ref r_slowed, .ref r_row, .ref r_size, .ref r_came, .ref r_left, .ref r_mostQueue, .ref r_sumQueue, .ref r_turned, .int 0, .ref r_flowFrom, .ref r_flowTo, .ref r_kind, .ref r_start, .ref r_period, .ref r_count, .int 0, .ref r_flow, .ref r_began, .ref r_state, .ref r_link, .ref r_end, .ref r_gone, .ref r_trip, .ref r_delay, .ref r_way])), (o0, .inl (cy 1, 1, .inr (.inl ((fun _ => 0)))))] _ := hP
    have hD : va_D A [(m0, .inr (10, [.ref w0, .int 0])), (w0, .inr (9, [.int 0, .int 1, .int 0, .ref r_phases, .ref r_phase, .ref r_phaseTicks, .ref r_set, .ref r_least, .ref r_greatest, .int 0, .ref r_from, .ref r_to, .ref r_time, .ref r_room, .ref r_first, .ref r_rate, .ref r_cost, .ref r_isShut, .ref r_slowed, .ref r_row, .ref r_size, .ref r_came, .ref r_left, .ref r_mostQueue, .ref r_sumQueue, .ref r_turned, .int 0, .ref r_flowFrom, .ref r_flowTo, .ref r_kind, .ref r_start, .ref r_period, .ref r_count, .int 0, .ref r_flow, .ref r_began, .ref r_state, .ref r_link, .ref r_end, .ref r_gone, .ref r_trip, .ref r_delay, .ref r_way])), (o0, .inl (cy 1, 1, .inr (.inl ((fun _ => 0)))))] := hD
    refine lv_istore (lv' := [(5, .int 1), (0, .ref b), (1, .ref a0), (2, .ref m0), (3, .ref o0), (4, .int 0)]) hx hb dL_law_523 hl (by decide) rfl (fun ls hl => ?_)
    refine lv_aload_n hx hb dL_law_525 rfl (lv_at hl 3 rfl) ?_
    refine lv_aload_n hx hb dL_law_526 rfl (lv_at hl 1 rfl) ?_
    refine lv_iload hx hb dL_law_527 (lv_at hl 5 rfl) ?_
    refine lv_iconst (v := 1) hx hb dL_law_529 (by decide) ?_
    refine lv_iadd hx hb dL_law_530 ?_
    refine va_sld hx hb hX hbl hbA hS (by unfold vp_in; decide) dL_law_531 ?_
    have hFc := va_free (wc := [(m0, .inr (10, [.ref w0, .int 0])), (w0, .inr (9, [.int 0, .int 1, .int 0, .ref r_phases, .ref r_phase, .ref r_phaseTicks, .ref r_set, .ref r_least, .ref r_greatest, .int 0, .ref r_from, .ref r_to, .ref r_time, .ref r_room, .ref r_first, .ref r_rate, .ref r_cost, .ref r_isShut, .ref r_slowed, .ref r_row, .ref r_size, .ref r_came, .ref r_left, .ref r_mostQueue, .ref r_sumQueue, .ref r_turned, .int 0, .ref r_flowFrom, .ref r_flowTo, .ref r_kind, .ref r_start, .ref r_period, .ref r_count, .int 0, .ref r_flow, .ref r_began, .ref r_state, .ref r_link, .ref r_end, .ref r_gone, .ref r_trip, .ref r_delay, .ref r_way]))]) hD hS hA [0, 1] rfl
    refine va_calli (va_runV (As := [.int (xs (0 + 1 : Int32).toNatClampNeg)]) (rest := []) ⟨hx, hb, hml, hown, hts⟩ (tm_m_setRefresh_out l hst dC dI cy m0 w0 0 r_phases r_phase r_phaseTicks r_set r_least r_greatest r_from r_to r_time r_room r_first r_rate r_cost r_isShut r_slowed r_row r_size r_came r_left r_mostQueue r_sumQueue r_turned r_flowFrom r_flowTo r_kind r_start r_period r_count r_flow r_began r_state r_link r_end r_gone r_trip r_delay r_way (xs (0 + 1 : Int32).toNatClampNeg) H.size (by first | assumption | exact tp_none _ | decide | omega)) (tp_cwV 1 hts tw_1352 tw_1353 tw_1354 tw_48 tw_1355 rfl rfl (by decide +kernel) ⟨Nat.le_of_ble_eq_true rfl, Nat.le_of_ble_eq_true rfl⟩) ⟨tp_blind, va_recv hK hP (ci := 10) (q0 := 0) rfl rfl, fun U hU hW => ⟨rfl, tp_pay hK hP hD hE hZ hS [0, 1] (by decide) rfl hFc U hU hW⟩⟩ rfl rfl hl.1 rfl (lv_room (Nat.le_of_ble_eq_true rfl)) dL_law_532 ⟨(Nat.le_of_ble_eq_true rfl), (Nat.le_of_ble_eq_true rfl)⟩) hS (fun q _ h => hFc q h) hFc (fun r_3 u t H1 locs ht hvm hw hB hz1 hk1 hS => ?_)
    obtain rfl := hw
    obtain ⟨f_4, hP1, hD1⟩ := hB
    subst f_4
    rw [ht] at hP1
    obtain ⟨hP, hD⟩ := va_join (wr := [(o0, .inl (cy 1, 1, .inr (.inl ((fun _ => 0)))))]) (w1 := [(m0, .inr (10, [.ref w0, .int 1]))]) hP hD [0, 1] [2] rfl rfl (by decide) (by decide) hk1 hFc hP1 hD1
    generalize H1 = H at hP hS ⊢
    have hP : va_P (dC, dI) vwCl [(o0, .inl (cy 1, 1, .inr (.inl ((fun _ => 0))))), (m0, .inr (10, [.ref w0, .int 1]))] _ := hP
    have hD : va_D A [(o0, .inl (cy 1, 1, .inr (.inl ((fun _ => 0))))), (m0, .inr (10, [.ref w0, .int 1]))] := hD
    refine lv_istore (lv' := [(6, .int 0), (5, .int 1), (0, .ref b), (1, .ref a0), (2, .ref m0), (3, .ref o0), (4, .int 0)]) hx hb dL_law_535 hl (by decide) rfl (fun ls hl => ?_)
    refine lv_aload_n hx hb dL_law_537 rfl (lv_at hl 4 rfl) ?_
    have hFc := va_free (wc := [(m0, .inr (10, [.ref w0, .int 1]))]) hD hS hA [1] rfl
    refine va_calli (va_runV (As := []) (rest := []) ⟨hx, hb, hml, hown, hts⟩ (tm_m_thrown l hst dC dI cy m0 w0 1 H.size) (tp_cwV 0 hts tw_1317 tw_1318 tw_1319 tw_48 tw_1320 rfl rfl (by decide +kernel) ⟨Nat.le_of_ble_eq_true rfl, Nat.le_of_ble_eq_true rfl⟩) ⟨tp_blind, va_recv hK hP (ci := 10) (q0 := 1) rfl rfl, fun U hU hW => ⟨rfl, tp_pay hK hP hD hE hZ hS [1] (by decide) rfl hFc U hU hW⟩⟩ rfl rfl hl.1 rfl (lv_room (Nat.le_of_ble_eq_true rfl)) dL_law_538 ⟨(Nat.le_of_ble_eq_true rfl), (Nat.le_of_ble_eq_true rfl)⟩) hS (fun q _ h => hFc q h) hFc (fun r_5 u t H1 locs ht hvm hw hB hz1 hk1 hS => ?_)
    obtain rfl := hw
    obtain ⟨f_6, hP1, hD1⟩ := hB
    subst f_6
    rw [ht] at hP1
    obtain ⟨hP, hD⟩ := va_join (wr := [(o0, .inl (cy 1, 1, .inr (.inl ((fun _ => 0)))))]) (w1 := [(m0, .inr (10, [.ref w0, .int 1]))]) hP hD [1] [0] rfl rfl (by decide) (by decide) hk1 hFc hP1 hD1
    generalize H1 = H at hP hS ⊢
    have hP : va_P (dC, dI) vwCl [(o0, .inl (cy 1, 1, .inr (.inl ((fun _ => 0))))), (m0, .inr (10, [.ref w0, .int 1]))] _ := hP
    have hD : va_D A [(o0, .inl (cy 1, 1, .inr (.inl ((fun _ => 0))))), (m0, .inr (10, [.ref w0, .int 1]))] := hD
    refine lv_iload hx hb dL_law_541 (lv_at hl 1 rfl) ?_
    refine lv_icmp_eq (tgt := 548) hx hb dL_law_543 (by decide) (fun _ => ?_) (fun c_7 => absurd rfl c_7)
    refine lv_iload hx hb dL_law_548 (lv_at hl 1 rfl) ?_
    refine lv_if_ne (tgt := 565) hx hb dL_law_550 (by decide) (fun _ => ?_) (fun c_8 => absurd c_8 (by decide))
    refine lv_goto (tgt := 2504) hx hb dL_law_565 (by decide) ?_
    exact tc_end hd0 hs C1 hX (Nat.le_of_ble_eq_true rfl) (Nat.le_of_ble_eq_true rfl) H _ ls hS (lv_sub hl [2, 6] rfl)
theorem tw_758 : Cond.codeWith yL_shut cL_shut 5 (some .int) [(0, 17, 20, 19)] ∈ tp_all := tp_mem 758 (by decide +kernel) rfl
theorem tw_756 : Cond.methodLink RL 151 yL_shut ∈ tp_all := tp_mem 756 (by decide +kernel) rfl
theorem tw_757 : Cond.static yL_shut ∈ tp_all := tp_mem 757 (by decide +kernel) rfl
theorem tw_1359 : Cond.code yX10_shut cX10_shut 4 (some .boolean) ∈ tp_all := tp_mem 1359 (by decide +kernel) rfl
theorem tw_1356 : Cond.methodLink RL 154 yX10_shut ∈ tp_all := tp_mem 1356 (by decide +kernel) rfl
theorem tw_1357 : Cond.instanceMethod yX10_shut ∈ tp_all := tp_mem 1357 (by decide +kernel) rfl
theorem tw_1358 : Cond.selects RX10 yX10_shut yX10_shut ∈ tp_all := tp_mem 1358 (by decide +kernel) rfl
theorem dL_law_568 : decode cL_law 568 = .ok (.aload_n 1, 1) := by decide +kernel
theorem dL_law_569 : decode cL_law 569 = .ok (.aload_n 0, 1) := by decide +kernel
theorem dL_law_570 : decode cL_law 570 = .ok (.iload 4, 2) := by decide +kernel
theorem dL_law_572 : decode cL_law 572 = .ok (.iconst 1, 1) := by decide +kernel
theorem dL_law_573 : decode cL_law 573 = .ok (.iadd, 1) := by decide +kernel
theorem dL_law_574 : decode cL_law 574 = .ok (.iaload, 1) := by decide +kernel
theorem dL_law_575 : decode cL_law 575 = .ok (.aload_n 0, 1) := by decide +kernel
theorem dL_law_576 : decode cL_law 576 = .ok (.iload 4, 2) := by decide +kernel
theorem dL_law_578 : decode cL_law 578 = .ok (.iconst 2, 1) := by decide +kernel
theorem dL_law_579 : decode cL_law 579 = .ok (.iadd, 1) := by decide +kernel
theorem dL_law_580 : decode cL_law 580 = .ok (.iaload, 1) := by decide +kernel
theorem dL_law_581 : decode cL_law 581 = .ok (.ifCond .eq 7, 3) := by decide +kernel
theorem dL_law_588 : decode cL_law 588 = .ok (.iconst 0, 1) := by decide +kernel
theorem dL_law_589 : decode cL_law 589 = .ok (.aload_n 3, 1) := by decide +kernel
theorem dL_law_590 : decode cL_law 590 = .ok (.invokestatic 151, 3) := by decide +kernel
theorem dL_law_593 : decode cL_law 593 = .ok (.istore 5, 2) := by decide +kernel
theorem dL_law_595 : decode cL_law 595 = .ok (.aload_n 2, 1) := by decide +kernel
theorem dL_law_596 : decode cL_law 596 = .ok (.aload_n 0, 1) := by decide +kernel
theorem dL_law_597 : decode cL_law 597 = .ok (.iload 4, 2) := by decide +kernel
theorem dL_law_599 : decode cL_law 599 = .ok (.iconst 1, 1) := by decide +kernel
theorem dL_law_600 : decode cL_law 600 = .ok (.iadd, 1) := by decide +kernel
theorem dL_law_601 : decode cL_law 601 = .ok (.iaload, 1) := by decide +kernel
theorem dL_law_602 : decode cL_law 602 = .ok (.aload_n 0, 1) := by decide +kernel
theorem dL_law_603 : decode cL_law 603 = .ok (.iload 4, 2) := by decide +kernel
theorem dL_law_605 : decode cL_law 605 = .ok (.iconst 2, 1) := by decide +kernel
theorem dL_law_606 : decode cL_law 606 = .ok (.iadd, 1) := by decide +kernel
theorem dL_law_607 : decode cL_law 607 = .ok (.iaload, 1) := by decide +kernel
theorem dL_law_608 : decode cL_law 608 = .ok (.ifCond .eq 7, 3) := by decide +kernel
theorem dL_law_615 : decode cL_law 615 = .ok (.iconst 0, 1) := by decide +kernel
theorem dL_law_616 : decode cL_law 616 = .ok (.invokevirtual 154, 3) := by decide +kernel
theorem dL_law_619 : decode cL_law 619 = .ok (.istore 6, 2) := by decide +kernel
theorem dL_law_621 : decode cL_law 621 = .ok (.aload_n 2, 1) := by decide +kernel
theorem dL_law_622 : decode cL_law 622 = .ok (.invokevirtual 133, 3) := by decide +kernel
theorem dL_law_625 : decode cL_law 625 = .ok (.iload 5, 2) := by decide +kernel
theorem dL_law_627 : decode cL_law 627 = .ok (.if_icmp .eq 5, 3) := by decide +kernel
theorem dL_law_632 : decode cL_law 632 = .ok (.iload 5, 2) := by decide +kernel
theorem dL_law_634 : decode cL_law 634 = .ok (.ifCond .ne 22, 3) := by decide +kernel
theorem dL_law_656 : decode cL_law 656 = .ok (.goto 1848, 3) := by decide +kernel
theorem dL_law_611 : decode cL_law 611 = .ok (.iconst 1, 1) := by decide +kernel
theorem dL_law_612 : decode cL_law 612 = .ok (.goto 4, 3) := by decide +kernel
theorem dL_law_584 : decode cL_law 584 = .ok (.iconst 1, 1) := by decide +kernel
theorem dL_law_585 : decode cL_law 585 = .ok (.goto 4, 3) := by decide +kernel
set_option maxRecDepth 100000 in
set_option maxHeartbeats 4000000 in
/-- the case 5 -/
theorem tc_5 {p : Program} {l : Launch} {e : Env} {s0 s : State} {m : MethodId} {below : List Frame} {meth : Method} {c : Code} {A : Nat → Prop} (hst : l.stackTraces = false) {dC : Nat → ClassId} {dI : Nat → Nat → Nat} {cy : Nat → ClassId} {b : Nat} {xs : Nat → Int32} {d0 : Drawn} (hd0 : s0.drawn.sameBut d0 lw_cs) (hs : s = s0.setDrawn d0) (C1 : tc_At p s m meth c b #[Value.ref b] A dC dI cy) (hX : va_X b 7 xs s s.heap) {a0 : Nat} {a1 : Nat} {a2 : Nat} {aT : Nat} {b1 : Nat} {b2 : Nat} {b3 : Nat} {b4 : Nat} {b5 : Nat} {b6 : Nat} {b7 : Nat} {m0 : Nat} {w0 : Nat} {o0 : Nat} {r_phases : Nat} {r_phase : Nat} {r_phaseTicks : Nat} {r_set : Nat} {r_least : Nat} {r_greatest : Nat} {r_from : Nat} {r_to : Nat} {r_time : Nat} {r_room : Nat} {r_first : Nat} {r_rate : Nat} {r_cost : Nat} {r_isShut : Nat} {r_slowed : Nat} {r_row : Nat} {r_size : Nat} {r_came : Nat} {r_left : Nat} {r_mostQueue : Nat} {r_sumQueue : Nat} {r_turned : Nat} {r_flowFrom : Nat} {r_flowTo : Nat} {r_kind : Nat} {r_start : Nat} {r_period : Nat} {r_count : Nat} {r_flow : Nat} {r_began : Nat} {r_state : Nat} {r_link : Nat} {r_end : Nat} {r_gone : Nat} {r_trip : Nat} {r_delay : Nat} {r_way : Nat} (H : Heap) (locs : List Loc) (ls : Array Slot) (hP : va_P (dC, dI) vwCl [(a0, .inr (8, [.ref a1, .ref aT])), (a1, .inr (5, [.ref a2, .ref b1, .ref b2, .ref b3, .ref b4, .ref b5, .int 0, .int 1, .int 0, .int 0, .int 0, .int 0])), (a2, .inr (2, [.ref b6, .int 0, .ref b7, .int 0])), (m0, .inr (10, [.ref w0, .int 0])), (w0, .inr (9, [.int 0, .int 1, .int 0, .ref r_phases, .ref r_phase, .ref r_phaseTicks, .ref r_set, .ref r_least, .ref r_greatest, .int 0, .ref r_from, .ref r_to, .ref r_time, .ref r_room, .ref r_first, .ref r_rate, .ref r_cost, .ref r_isShut, .ref r_slowed, .ref r_row, .ref r_size, .ref r_came, .ref r_left, .ref r_mostQueue, .ref r_sumQueue, .ref r_turned, .int 0, .ref r_flowFrom, .ref r_flowTo, .ref r_kind, .ref r_start, .ref r_period, .ref r_count, .int 0, .ref r_flow, .ref r_began, .ref r_state, .ref r_link, .ref r_end, .ref r_gone, .ref r_trip, .ref r_delay, .ref r_way])), (o0, .inl (cy 1, 1, .inr (.inl ((fun _ => 0)))))] H) (hD : va_D A [(a0, .inr (8, [.ref a1, .ref aT])), (a1, .inr (5, [.ref a2, .ref b1, .ref b2, .ref b3, .ref b4, .ref b5, .int 0, .int 1, .int 0, .int 0, .int 0, .int 0])), (a2, .inr (2, [.ref b6, .int 0, .ref b7, .int 0])), (m0, .inr (10, [.ref w0, .int 0])), (w0, .inr (9, [.int 0, .int 1, .int 0, .ref r_phases, .ref r_phase, .ref r_phaseTicks, .ref r_set, .ref r_least, .ref r_greatest, .int 0, .ref r_from, .ref r_to, .ref r_time, .ref r_room, .ref r_first, .ref r_rate, .ref r_cost, .ref r_isShut, .ref r_slowed, .ref r_row, .ref r_size, .ref r_came, .ref r_left, .ref r_mostQueue, .ref r_sumQueue, .ref r_turned, .int 0, .ref r_flowFrom, .ref r_flowTo, .ref r_kind, .ref r_start, .ref r_period, .ref r_count, .int 0, .ref r_flow, .ref r_began, .ref r_state, .ref r_link, .ref r_end, .ref r_gone, .ref r_trip, .ref r_delay, .ref r_way])), (o0, .inl (cy 1, 1, .inr (.inl ((fun _ => 0)))))]) (hS : va_S A s.heap H locs) (hl : lv_has ls 9 [(0, .ref b), (1, .ref a0), (2, .ref m0), (3, .ref o0), (4, .int 0)]) : W p l e room_1 s m #[Value.ref b] below meth c H locs 1535 31585 (lw_Z below #[Value.ref b] s0) (F0 m 568 ls []) := by
  have C2 := C1
  obtain ⟨hx, hb, hr, hml, hown, hts, hbl, hlocks, hK, hE, hZ, hA, hbA, hA2⟩ := C2
  refine lv_aload_n hx hb dL_law_568 rfl (lv_at hl 1 rfl) ?_
  refine lv_aload_n hx hb dL_law_569 rfl (lv_at hl 0 rfl) ?_
  refine lv_iload hx hb dL_law_570 (lv_at hl 4 rfl) ?_
  refine lv_iconst (v := 1) hx hb dL_law_572 (by decide) ?_
  refine lv_iadd hx hb dL_law_573 ?_
  refine va_sld hx hb hX hbl hbA hS (by unfold vp_in; decide) dL_law_574 ?_
  refine lv_aload_n hx hb dL_law_575 rfl (lv_at hl 0 rfl) ?_
  refine lv_iload hx hb dL_law_576 (lv_at hl 4 rfl) ?_
  refine lv_iconst (v := 2) hx hb dL_law_578 (by decide) ?_
  refine lv_iadd hx hb dL_law_579 ?_
  refine va_sld hx hb hX hbl hbA hS (by unfold vp_in; decide) dL_law_580 ?_
  refine lv_if_eq (tgt := 588) hx hb dL_law_581 (by decide) (fun c_1 => ?_) (fun c_1 => ?_)
  · refine lv_iconst (v := 0) hx hb dL_law_588 (by decide) ?_
    refine lv_aload_n hx hb dL_law_589 rfl (lv_at hl 3 rfl) ?_
    have hFc := va_free (wc := [(a0, .inr (8, [.ref a1, .ref aT])), (a1, .inr (5, [.ref a2, .ref b1, .ref b2, .ref b3, .ref b4, .ref b5, .int 0, .int 1, .int 0, .int 0, .int 0, .int 0])), (a2, .inr (2, [.ref b6, .int 0, .ref b7, .int 0])), (o0, .inl (cy 1, 1, .inr (.inl ((fun _ => 0)))))]) hD hS hA [0, 1, 2, 5] rfl
    refine vx_calli (vx_runSX (As := [.ref a0, .int (xs (0 + 1 : Int32).toNatClampNeg), .int 0, .ref o0]) (rest := []) ⟨hx, hb, hml, hown, hts⟩ (tm_L_shut l hst dC dI cy a0 a1 a2 aT b1 b2 b3 b4 b5 b6 b7 o0 (xs (0 + 1 : Int32).toNatClampNeg) 0 H.size) (tp_cwSW 4 hts tw_756 tw_757 tw_37 tw_758 rfl rfl (by decide +kernel) ⟨Nat.le_of_ble_eq_true rfl, Nat.le_of_ble_eq_true rfl⟩) ⟨tp_blind, fun U hU hW => ⟨rfl, tp_pay hK hP hD hE hZ hS [0, 1, 2, 5] (by decide) rfl hFc U hU hW⟩⟩ rfl rfl hl.1 rfl (lv_room (Nat.le_of_ble_eq_true rfl)) dL_law_590 ⟨(Nat.le_of_ble_eq_true rfl), (Nat.le_of_ble_eq_true rfl)⟩) hS (fun q _ h => hFc q h) hFc (fun q _ h => hFc q h) (fun E9 ce q9 u t H1 locs ht hvm hw hB hz1 hk1 hS hce hcv hcl => ?_) (fun r_2 u t H1 locs ht hvm hw hB hz1 hk1 hS => ?_)
    · obtain ⟨hE9, hB⟩ := hB
      exact hE9.elim
    · obtain rfl := hw
      obtain ⟨f_3, hP1, hD1⟩ := hB
      subst f_3
      rw [ht] at hP1
      obtain ⟨hP, hD⟩ := va_join (wr := [(m0, .inr (10, [.ref w0, .int 0])), (w0, .inr (9, [.int 0, .int 1, .int 0, .ref r_phases, .ref r_phase, .ref r_phaseTicks, .ref r_set, .ref r_least, .ref r_greatest, .int 0, .ref r_from, .ref r_to, .ref r_time, .ref r_room, .ref r_first, .ref r_rate, .ref r_cost, .ref r_isShut, .ref r_slowed, .ref r_row, .ref r_size, .ref r_came, .ref r_left, .ref r_mostQueue, .ref r_sumQueue, .ref r_turned, .int 0, .ref r_flowFrom, .ref r_flowTo, .ref r_kind, .ref r_start, .ref r_period, .ref r_count, .int 0, .ref r_flow, .ref r_began, .ref r_state, .ref r_link, .ref r_end, .ref r_gone, .ref r_trip, .ref r_delay, .ref r_way]))]) (w1 := [(o0, .inl (cy 1, 1, .inr (.inl ((fun _ => 0)))))]) hP hD [0, 1, 2, 5] [3, 4] rfl rfl (by decide) (by decide) hk1 hFc hP1 hD1
      generalize H1 = H at hP hS ⊢
      have hP : va_P (dC, dI) vwCl [(m0, .inr (10, [.ref w0, .int 0])), (w0, .inr (9, [.int 0, .int 1, .int 0, .ref r_phases, .ref r_phase, .ref r_phaseTicks, .ref r_set, .ref r_least, .ref r_greatest, .int 0, .ref r_from, .ref r_to, .ref r_time, .ref r_room, .ref r_first, .ref r_rate, .ref r_cost, .ref r_isShut, .ref r_slowed, .ref r_row, .ref r_size, .ref r_came, .ref r_left, .ref r_mostQueue, .ref r_sumQueue, .ref r_turned, .int 0, .ref r_flowFrom, .ref r_flowTo, .ref r_kind, .ref r_start, .ref r_period, .ref r_count, .int 0, .ref r_flow, .ref r_began, .ref r_state, .ref r_link, .ref r_end, .ref r_gone, .ref r_trip, .ref r_delay, .ref r_way])), (o0, .inl (cy 1, 1, .inr (.inl ((fun _ => 0)))))] _ := hP
      have hD : va_D A [(m0, .inr (10, [.ref w0, .int 0])), (w0, .inr (9, [.int 0, .int 1, .int 0, .ref r_phases, .ref r_phase, .ref r_phaseTicks, .ref r_set, .ref r_least, .ref r_greatest, .int 0, .ref r_from, .ref r_to, .ref r_time, .ref r_room, .ref r_first, .ref r_rate, .ref r_cost, .ref r_isShut, .ref r_slowed, .ref r_row, .ref r_size, .ref r_came, .ref r_left, .ref r_mostQueue, .ref r_sumQueue, .ref r_turned, .int 0, .ref r_flowFrom, .ref r_flowTo, .ref r_kind, .ref r_start, .ref r_period, .ref r_count, .int 0, .ref r_flow, .ref r_began, .ref r_state, .ref r_link, .ref r_end, .ref r_gone, .ref r_trip, .ref r_delay, .ref r_way])), (o0, .inl (cy 1, 1, .inr (.inl ((fun _ => 0)))))] := hD
      refine lv_istore (lv' := [(5, .int 1), (0, .ref b), (1, .ref a0), (2, .ref m0), (3, .ref o0), (4, .int 0)]) hx hb dL_law_593 hl (by decide) rfl (fun ls hl => ?_)
      refine lv_aload_n hx hb dL_law_595 rfl (lv_at hl 3 rfl) ?_
      refine lv_aload_n hx hb dL_law_596 rfl (lv_at hl 1 rfl) ?_
      refine lv_iload hx hb dL_law_597 (lv_at hl 5 rfl) ?_
      refine lv_iconst (v := 1) hx hb dL_law_599 (by decide) ?_
      refine lv_iadd hx hb dL_law_600 ?_
      refine va_sld hx hb hX hbl hbA hS (by unfold vp_in; decide) dL_law_601 ?_
      refine lv_aload_n hx hb dL_law_602 rfl (lv_at hl 1 rfl) ?_
      refine lv_iload hx hb dL_law_603 (lv_at hl 5 rfl) ?_
      refine lv_iconst (v := 2) hx hb dL_law_605 (by decide) ?_
      refine lv_iadd hx hb dL_law_606 ?_
      refine va_sld hx hb hX hbl hbA hS (by unfold vp_in; decide) dL_law_607 ?_
      refine lv_if_eq (tgt := 615) hx hb dL_law_608 (by decide) (fun c_4 => ?_) (fun c_4 => ?_)
      · refine lv_iconst (v := 0) hx hb dL_law_615 (by decide) ?_
        have hFc := va_free (wc := [(m0, .inr (10, [.ref w0, .int 0])), (w0, .inr (9, [.int 0, .int 1, .int 0, .ref r_phases, .ref r_phase, .ref r_phaseTicks, .ref r_set, .ref r_least, .ref r_greatest, .int 0, .ref r_from, .ref r_to, .ref r_time, .ref r_room, .ref r_first, .ref r_rate, .ref r_cost, .ref r_isShut, .ref r_slowed, .ref r_row, .ref r_size, .ref r_came, .ref r_left, .ref r_mostQueue, .ref r_sumQueue, .ref r_turned, .int 0, .ref r_flowFrom, .ref r_flowTo, .ref r_kind, .ref r_start, .ref r_period, .ref r_count, .int 0, .ref r_flow, .ref r_began, .ref r_state, .ref r_link, .ref r_end, .ref r_gone, .ref r_trip, .ref r_delay, .ref r_way]))]) hD hS hA [0, 1] rfl
        refine va_calli (va_runV (As := [.int (xs (0 + 1 : Int32).toNatClampNeg), .int 0]) (rest := []) ⟨hx, hb, hml, hown, hts⟩ (tm_m_shut l hst dC dI cy m0 w0 0 r_phases r_phase r_phaseTicks r_set r_least r_greatest r_from r_to r_time r_room r_first r_rate r_cost r_isShut r_slowed r_row r_size r_came r_left r_mostQueue r_sumQueue r_turned r_flowFrom r_flowTo r_kind r_start r_period r_count r_flow r_began r_state r_link r_end r_gone r_trip r_delay r_way (xs (0 + 1 : Int32).toNatClampNeg) 0 H.size) (tp_cwV 2 hts tw_1356 tw_1357 tw_1358 tw_48 tw_1359 rfl rfl (by decide +kernel) ⟨Nat.le_of_ble_eq_true rfl, Nat.le_of_ble_eq_true rfl⟩) ⟨tp_blind, va_recv hK hP (ci := 10) (q0 := 0) rfl rfl, fun U hU hW => ⟨rfl, tp_pay hK hP hD hE hZ hS [0, 1] (by decide) rfl hFc U hU hW⟩⟩ rfl rfl hl.1 rfl (lv_room (Nat.le_of_ble_eq_true rfl)) dL_law_616 ⟨(Nat.le_of_ble_eq_true rfl), (Nat.le_of_ble_eq_true rfl)⟩) hS (fun q _ h => hFc q h) hFc (fun r_5 u t H1 locs ht hvm hw hB hz1 hk1 hS => ?_)
        obtain rfl := hw
        obtain ⟨f_6, hP1, hD1⟩ := hB
        subst f_6
        rw [ht] at hP1
        obtain ⟨hP, hD⟩ := va_join (wr := [(o0, .inl (cy 1, 1, .inr (.inl ((fun _ => 0)))))]) (w1 := [(m0, .inr (10, [.ref w0, .int 1]))]) hP hD [0, 1] [2] rfl rfl (by decide) (by decide) hk1 hFc hP1 hD1
        generalize H1 = H at hP hS ⊢
        have hP : va_P (dC, dI) vwCl [(o0, .inl (cy 1, 1, .inr (.inl ((fun _ => 0))))), (m0, .inr (10, [.ref w0, .int 1]))] _ := hP
        have hD : va_D A [(o0, .inl (cy 1, 1, .inr (.inl ((fun _ => 0))))), (m0, .inr (10, [.ref w0, .int 1]))] := hD
        refine lv_istore (lv' := [(6, .int 0), (5, .int 1), (0, .ref b), (1, .ref a0), (2, .ref m0), (3, .ref o0), (4, .int 0)]) hx hb dL_law_619 hl (by decide) rfl (fun ls hl => ?_)
        refine lv_aload_n hx hb dL_law_621 rfl (lv_at hl 4 rfl) ?_
        have hFc := va_free (wc := [(m0, .inr (10, [.ref w0, .int 1]))]) hD hS hA [1] rfl
        refine va_calli (va_runV (As := []) (rest := []) ⟨hx, hb, hml, hown, hts⟩ (tm_m_thrown l hst dC dI cy m0 w0 1 H.size) (tp_cwV 0 hts tw_1317 tw_1318 tw_1319 tw_48 tw_1320 rfl rfl (by decide +kernel) ⟨Nat.le_of_ble_eq_true rfl, Nat.le_of_ble_eq_true rfl⟩) ⟨tp_blind, va_recv hK hP (ci := 10) (q0 := 1) rfl rfl, fun U hU hW => ⟨rfl, tp_pay hK hP hD hE hZ hS [1] (by decide) rfl hFc U hU hW⟩⟩ rfl rfl hl.1 rfl (lv_room (Nat.le_of_ble_eq_true rfl)) dL_law_622 ⟨(Nat.le_of_ble_eq_true rfl), (Nat.le_of_ble_eq_true rfl)⟩) hS (fun q _ h => hFc q h) hFc (fun r_7 u t H1 locs ht hvm hw hB hz1 hk1 hS => ?_)
        obtain rfl := hw
        obtain ⟨f_8, hP1, hD1⟩ := hB
        subst f_8
        rw [ht] at hP1
        obtain ⟨hP, hD⟩ := va_join (wr := [(o0, .inl (cy 1, 1, .inr (.inl ((fun _ => 0)))))]) (w1 := [(m0, .inr (10, [.ref w0, .int 1]))]) hP hD [1] [0] rfl rfl (by decide) (by decide) hk1 hFc hP1 hD1
        generalize H1 = H at hP hS ⊢
        have hP : va_P (dC, dI) vwCl [(o0, .inl (cy 1, 1, .inr (.inl ((fun _ => 0))))), (m0, .inr (10, [.ref w0, .int 1]))] _ := hP
        have hD : va_D A [(o0, .inl (cy 1, 1, .inr (.inl ((fun _ => 0))))), (m0, .inr (10, [.ref w0, .int 1]))] := hD
        refine lv_iload hx hb dL_law_625 (lv_at hl 1 rfl) ?_
        refine lv_icmp_eq (tgt := 632) hx hb dL_law_627 (by decide) (fun _ => ?_) (fun c_9 => absurd rfl c_9)
        refine lv_iload hx hb dL_law_632 (lv_at hl 1 rfl) ?_
        refine lv_if_ne (tgt := 656) hx hb dL_law_634 (by decide) (fun _ => ?_) (fun c_10 => absurd c_10 (by decide))
        refine lv_goto (tgt := 2504) hx hb dL_law_656 (by decide) ?_
        exact tc_end hd0 hs C1 hX (Nat.le_of_ble_eq_true rfl) (Nat.le_of_ble_eq_true rfl) H _ ls hS (lv_sub hl [2, 6] rfl)
      · refine lv_iconst (v := 1) hx hb dL_law_611 (by decide) ?_
        refine lv_goto (tgt := 616) hx hb dL_law_612 (by decide) ?_
        have hFc := va_free (wc := [(m0, .inr (10, [.ref w0, .int 0])), (w0, .inr (9, [.int 0, .int 1, .int 0, .ref r_phases, .ref r_phase, .ref r_phaseTicks, .ref r_set, .ref r_least, .ref r_greatest, .int 0, .ref r_from, .ref r_to, .ref r_time, .ref r_room, .ref r_first, .ref r_rate, .ref r_cost, .ref r_isShut, .ref r_slowed, .ref r_row, .ref r_size, .ref r_came, .ref r_left, .ref r_mostQueue, .ref r_sumQueue, .ref r_turned, .int 0, .ref r_flowFrom, .ref r_flowTo, .ref r_kind, .ref r_start, .ref r_period, .ref r_count, .int 0, .ref r_flow, .ref r_began, .ref r_state, .ref r_link, .ref r_end, .ref r_gone, .ref r_trip, .ref r_delay, .ref r_way]))]) hD hS hA [0, 1] rfl
        refine va_calli (va_runV (As := [.int (xs (0 + 1 : Int32).toNatClampNeg), .int 1]) (rest := []) ⟨hx, hb, hml, hown, hts⟩ (tm_m_shut l hst dC dI cy m0 w0 0 r_phases r_phase r_phaseTicks r_set r_least r_greatest r_from r_to r_time r_room r_first r_rate r_cost r_isShut r_slowed r_row r_size r_came r_left r_mostQueue r_sumQueue r_turned r_flowFrom r_flowTo r_kind r_start r_period r_count r_flow r_began r_state r_link r_end r_gone r_trip r_delay r_way (xs (0 + 1 : Int32).toNatClampNeg) 1 H.size) (tp_cwV 2 hts tw_1356 tw_1357 tw_1358 tw_48 tw_1359 rfl rfl (by decide +kernel) ⟨Nat.le_of_ble_eq_true rfl, Nat.le_of_ble_eq_true rfl⟩) ⟨tp_blind, va_recv hK hP (ci := 10) (q0 := 0) rfl rfl, fun U hU hW => ⟨rfl, tp_pay hK hP hD hE hZ hS [0, 1] (by decide) rfl hFc U hU hW⟩⟩ rfl rfl hl.1 rfl (lv_room (Nat.le_of_ble_eq_true rfl)) dL_law_616 ⟨(Nat.le_of_ble_eq_true rfl), (Nat.le_of_ble_eq_true rfl)⟩) hS (fun q _ h => hFc q h) hFc (fun r_11 u t H1 locs ht hvm hw hB hz1 hk1 hS => ?_)
        obtain rfl := hw
        obtain ⟨f_12, hP1, hD1⟩ := hB
        subst f_12
        rw [ht] at hP1
        obtain ⟨hP, hD⟩ := va_join (wr := [(o0, .inl (cy 1, 1, .inr (.inl ((fun _ => 0)))))]) (w1 := [(m0, .inr (10, [.ref w0, .int 1]))]) hP hD [0, 1] [2] rfl rfl (by decide) (by decide) hk1 hFc hP1 hD1
        generalize H1 = H at hP hS ⊢
        have hP : va_P (dC, dI) vwCl [(o0, .inl (cy 1, 1, .inr (.inl ((fun _ => 0))))), (m0, .inr (10, [.ref w0, .int 1]))] _ := hP
        have hD : va_D A [(o0, .inl (cy 1, 1, .inr (.inl ((fun _ => 0))))), (m0, .inr (10, [.ref w0, .int 1]))] := hD
        refine lv_istore (lv' := [(6, .int 0), (5, .int 1), (0, .ref b), (1, .ref a0), (2, .ref m0), (3, .ref o0), (4, .int 0)]) hx hb dL_law_619 hl (by decide) rfl (fun ls hl => ?_)
        refine lv_aload_n hx hb dL_law_621 rfl (lv_at hl 4 rfl) ?_
        have hFc := va_free (wc := [(m0, .inr (10, [.ref w0, .int 1]))]) hD hS hA [1] rfl
        refine va_calli (va_runV (As := []) (rest := []) ⟨hx, hb, hml, hown, hts⟩ (tm_m_thrown l hst dC dI cy m0 w0 1 H.size) (tp_cwV 0 hts tw_1317 tw_1318 tw_1319 tw_48 tw_1320 rfl rfl (by decide +kernel) ⟨Nat.le_of_ble_eq_true rfl, Nat.le_of_ble_eq_true rfl⟩) ⟨tp_blind, va_recv hK hP (ci := 10) (q0 := 1) rfl rfl, fun U hU hW => ⟨rfl, tp_pay hK hP hD hE hZ hS [1] (by decide) rfl hFc U hU hW⟩⟩ rfl rfl hl.1 rfl (lv_room (Nat.le_of_ble_eq_true rfl)) dL_law_622 ⟨(Nat.le_of_ble_eq_true rfl), (Nat.le_of_ble_eq_true rfl)⟩) hS (fun q _ h => hFc q h) hFc (fun r_13 u t H1 locs ht hvm hw hB hz1 hk1 hS => ?_)
        obtain rfl := hw
        obtain ⟨f_14, hP1, hD1⟩ := hB
        subst f_14
        rw [ht] at hP1
        obtain ⟨hP, hD⟩ := va_join (wr := [(o0, .inl (cy 1, 1, .inr (.inl ((fun _ => 0)))))]) (w1 := [(m0, .inr (10, [.ref w0, .int 1]))]) hP hD [1] [0] rfl rfl (by decide) (by decide) hk1 hFc hP1 hD1
        generalize H1 = H at hP hS ⊢
        have hP : va_P (dC, dI) vwCl [(o0, .inl (cy 1, 1, .inr (.inl ((fun _ => 0))))), (m0, .inr (10, [.ref w0, .int 1]))] _ := hP
        have hD : va_D A [(o0, .inl (cy 1, 1, .inr (.inl ((fun _ => 0))))), (m0, .inr (10, [.ref w0, .int 1]))] := hD
        refine lv_iload hx hb dL_law_625 (lv_at hl 1 rfl) ?_
        refine lv_icmp_eq (tgt := 632) hx hb dL_law_627 (by decide) (fun _ => ?_) (fun c_15 => absurd rfl c_15)
        refine lv_iload hx hb dL_law_632 (lv_at hl 1 rfl) ?_
        refine lv_if_ne (tgt := 656) hx hb dL_law_634 (by decide) (fun _ => ?_) (fun c_16 => absurd c_16 (by decide))
        refine lv_goto (tgt := 2504) hx hb dL_law_656 (by decide) ?_
        exact tc_end hd0 hs C1 hX (Nat.le_of_ble_eq_true rfl) (Nat.le_of_ble_eq_true rfl) H _ ls hS (lv_sub hl [2, 6] rfl)
  · refine lv_iconst (v := 1) hx hb dL_law_584 (by decide) ?_
    refine lv_goto (tgt := 589) hx hb dL_law_585 (by decide) ?_
    refine lv_aload_n hx hb dL_law_589 rfl (lv_at hl 3 rfl) ?_
    have hFc := va_free (wc := [(a0, .inr (8, [.ref a1, .ref aT])), (a1, .inr (5, [.ref a2, .ref b1, .ref b2, .ref b3, .ref b4, .ref b5, .int 0, .int 1, .int 0, .int 0, .int 0, .int 0])), (a2, .inr (2, [.ref b6, .int 0, .ref b7, .int 0])), (o0, .inl (cy 1, 1, .inr (.inl ((fun _ => 0)))))]) hD hS hA [0, 1, 2, 5] rfl
    refine vx_calli (vx_runSX (As := [.ref a0, .int (xs (0 + 1 : Int32).toNatClampNeg), .int 1, .ref o0]) (rest := []) ⟨hx, hb, hml, hown, hts⟩ (tm_L_shut l hst dC dI cy a0 a1 a2 aT b1 b2 b3 b4 b5 b6 b7 o0 (xs (0 + 1 : Int32).toNatClampNeg) 1 H.size) (tp_cwSW 4 hts tw_756 tw_757 tw_37 tw_758 rfl rfl (by decide +kernel) ⟨Nat.le_of_ble_eq_true rfl, Nat.le_of_ble_eq_true rfl⟩) ⟨tp_blind, fun U hU hW => ⟨rfl, tp_pay hK hP hD hE hZ hS [0, 1, 2, 5] (by decide) rfl hFc U hU hW⟩⟩ rfl rfl hl.1 rfl (lv_room (Nat.le_of_ble_eq_true rfl)) dL_law_590 ⟨(Nat.le_of_ble_eq_true rfl), (Nat.le_of_ble_eq_true rfl)⟩) hS (fun q _ h => hFc q h) hFc (fun q _ h => hFc q h) (fun E9 ce q9 u t H1 locs ht hvm hw hB hz1 hk1 hS hce hcv hcl => ?_) (fun r_17 u t H1 locs ht hvm hw hB hz1 hk1 hS => ?_)
    · obtain ⟨hE9, hB⟩ := hB
      exact hE9.elim
    · obtain rfl := hw
      obtain ⟨f_18, hP1, hD1⟩ := hB
      subst f_18
      rw [ht] at hP1
      obtain ⟨hP, hD⟩ := va_join (wr := [(m0, .inr (10, [.ref w0, .int 0])), (w0, .inr (9, [.int 0, .int 1, .int 0, .ref r_phases, .ref r_phase, .ref r_phaseTicks, .ref r_set, .ref r_least, .ref r_greatest, .int 0, .ref r_from, .ref r_to, .ref r_time, .ref r_room, .ref r_first, .ref r_rate, .ref r_cost, .ref r_isShut, .ref r_slowed, .ref r_row, .ref r_size, .ref r_came, .ref r_left, .ref r_mostQueue, .ref r_sumQueue, .ref r_turned, .int 0, .ref r_flowFrom, .ref r_flowTo, .ref r_kind, .ref r_start, .ref r_period, .ref r_count, .int 0, .ref r_flow, .ref r_began, .ref r_state, .ref r_link, .ref r_end, .ref r_gone, .ref r_trip, .ref r_delay, .ref r_way]))]) (w1 := [(o0, .inl (cy 1, 1, .inr (.inl ((fun _ => 0)))))]) hP hD [0, 1, 2, 5] [3, 4] rfl rfl (by decide) (by decide) hk1 hFc hP1 hD1
      generalize H1 = H at hP hS ⊢
      have hP : va_P (dC, dI) vwCl [(m0, .inr (10, [.ref w0, .int 0])), (w0, .inr (9, [.int 0, .int 1, .int 0, .ref r_phases, .ref r_phase, .ref r_phaseTicks, .ref r_set, .ref r_least, .ref r_greatest, .int 0, .ref r_from, .ref r_to, .ref r_time, .ref r_room, .ref r_first, .ref r_rate, .ref r_cost, .ref r_isShut, .ref r_slowed, .ref r_row, .ref r_size, .ref r_came, .ref r_left, .ref r_mostQueue, .ref r_sumQueue, .ref r_turned, .int 0, .ref r_flowFrom, .ref r_flowTo, .ref r_kind, .ref r_start, .ref r_period, .ref r_count, .int 0, .ref r_flow, .ref r_began, .ref r_state, .ref r_link, .ref r_end, .ref r_gone, .ref r_trip, .ref r_delay, .ref r_way])), (o0, .inl (cy 1, 1, .inr (.inl ((fun _ => 0)))))] _ := hP
      have hD : va_D A [(m0, .inr (10, [.ref w0, .int 0])), (w0, .inr (9, [.int 0, .int 1, .int 0, .ref r_phases, .ref r_phase, .ref r_phaseTicks, .ref r_set, .ref r_least, .ref r_greatest, .int 0, .ref r_from, .ref r_to, .ref r_time, .ref r_room, .ref r_first, .ref r_rate, .ref r_cost, .ref r_isShut, .ref r_slowed, .ref r_row, .ref r_size, .ref r_came, .ref r_left, .ref r_mostQueue, .ref r_sumQueue, .ref r_turned, .int 0, .ref r_flowFrom, .ref r_flowTo, .ref r_kind, .ref r_start, .ref r_period, .ref r_count, .int 0, .ref r_flow, .ref r_began, .ref r_state, .ref r_link, .ref r_end, .ref r_gone, .ref r_trip, .ref r_delay, .ref r_way])), (o0, .inl (cy 1, 1, .inr (.inl ((fun _ => 0)))))] := hD
      refine lv_istore (lv' := [(5, .int 1), (0, .ref b), (1, .ref a0), (2, .ref m0), (3, .ref o0), (4, .int 0)]) hx hb dL_law_593 hl (by decide) rfl (fun ls hl => ?_)
      refine lv_aload_n hx hb dL_law_595 rfl (lv_at hl 3 rfl) ?_
      refine lv_aload_n hx hb dL_law_596 rfl (lv_at hl 1 rfl) ?_
      refine lv_iload hx hb dL_law_597 (lv_at hl 5 rfl) ?_
      refine lv_iconst (v := 1) hx hb dL_law_599 (by decide) ?_
      refine lv_iadd hx hb dL_law_600 ?_
      refine va_sld hx hb hX hbl hbA hS (by unfold vp_in; decide) dL_law_601 ?_
      refine lv_aload_n hx hb dL_law_602 rfl (lv_at hl 1 rfl) ?_
      refine lv_iload hx hb dL_law_603 (lv_at hl 5 rfl) ?_
      refine lv_iconst (v := 2) hx hb dL_law_605 (by decide) ?_
      refine lv_iadd hx hb dL_law_606 ?_
      refine va_sld hx hb hX hbl hbA hS (by unfold vp_in; decide) dL_law_607 ?_
      refine lv_if_eq (tgt := 615) hx hb dL_law_608 (by decide) (fun c_19 => ?_) (fun c_19 => ?_)
      · refine lv_iconst (v := 0) hx hb dL_law_615 (by decide) ?_
        have hFc := va_free (wc := [(m0, .inr (10, [.ref w0, .int 0])), (w0, .inr (9, [.int 0, .int 1, .int 0, .ref r_phases, .ref r_phase, .ref r_phaseTicks, .ref r_set, .ref r_least, .ref r_greatest, .int 0, .ref r_from, .ref r_to, .ref r_time, .ref r_room, .ref r_first, .ref r_rate, .ref r_cost, .ref r_isShut, .ref r_slowed, .ref r_row, .ref r_size, .ref r_came, .ref r_left, .ref r_mostQueue, .ref r_sumQueue, .ref r_turned, .int 0, .ref r_flowFrom, .ref r_flowTo, .ref r_kind, .ref r_start, .ref r_period, .ref r_count, .int 0, .ref r_flow, .ref r_began, .ref r_state, .ref r_link, .ref r_end, .ref r_gone, .ref r_trip, .ref r_delay, .ref r_way]))]) hD hS hA [0, 1] rfl
        refine va_calli (va_runV (As := [.int (xs (0 + 1 : Int32).toNatClampNeg), .int 0]) (rest := []) ⟨hx, hb, hml, hown, hts⟩ (tm_m_shut l hst dC dI cy m0 w0 0 r_phases r_phase r_phaseTicks r_set r_least r_greatest r_from r_to r_time r_room r_first r_rate r_cost r_isShut r_slowed r_row r_size r_came r_left r_mostQueue r_sumQueue r_turned r_flowFrom r_flowTo r_kind r_start r_period r_count r_flow r_began r_state r_link r_end r_gone r_trip r_delay r_way (xs (0 + 1 : Int32).toNatClampNeg) 0 H.size) (tp_cwV 2 hts tw_1356 tw_1357 tw_1358 tw_48 tw_1359 rfl rfl (by decide +kernel) ⟨Nat.le_of_ble_eq_true rfl, Nat.le_of_ble_eq_true rfl⟩) ⟨tp_blind, va_recv hK hP (ci := 10) (q0 := 0) rfl rfl, fun U hU hW => ⟨rfl, tp_pay hK hP hD hE hZ hS [0, 1] (by decide) rfl hFc U hU hW⟩⟩ rfl rfl hl.1 rfl (lv_room (Nat.le_of_ble_eq_true rfl)) dL_law_616 ⟨(Nat.le_of_ble_eq_true rfl), (Nat.le_of_ble_eq_true rfl)⟩) hS (fun q _ h => hFc q h) hFc (fun r_20 u t H1 locs ht hvm hw hB hz1 hk1 hS => ?_)
        obtain rfl := hw
        obtain ⟨f_21, hP1, hD1⟩ := hB
        subst f_21
        rw [ht] at hP1
        obtain ⟨hP, hD⟩ := va_join (wr := [(o0, .inl (cy 1, 1, .inr (.inl ((fun _ => 0)))))]) (w1 := [(m0, .inr (10, [.ref w0, .int 1]))]) hP hD [0, 1] [2] rfl rfl (by decide) (by decide) hk1 hFc hP1 hD1
        generalize H1 = H at hP hS ⊢
        have hP : va_P (dC, dI) vwCl [(o0, .inl (cy 1, 1, .inr (.inl ((fun _ => 0))))), (m0, .inr (10, [.ref w0, .int 1]))] _ := hP
        have hD : va_D A [(o0, .inl (cy 1, 1, .inr (.inl ((fun _ => 0))))), (m0, .inr (10, [.ref w0, .int 1]))] := hD
        refine lv_istore (lv' := [(6, .int 0), (5, .int 1), (0, .ref b), (1, .ref a0), (2, .ref m0), (3, .ref o0), (4, .int 0)]) hx hb dL_law_619 hl (by decide) rfl (fun ls hl => ?_)
        refine lv_aload_n hx hb dL_law_621 rfl (lv_at hl 4 rfl) ?_
        have hFc := va_free (wc := [(m0, .inr (10, [.ref w0, .int 1]))]) hD hS hA [1] rfl
        refine va_calli (va_runV (As := []) (rest := []) ⟨hx, hb, hml, hown, hts⟩ (tm_m_thrown l hst dC dI cy m0 w0 1 H.size) (tp_cwV 0 hts tw_1317 tw_1318 tw_1319 tw_48 tw_1320 rfl rfl (by decide +kernel) ⟨Nat.le_of_ble_eq_true rfl, Nat.le_of_ble_eq_true rfl⟩) ⟨tp_blind, va_recv hK hP (ci := 10) (q0 := 1) rfl rfl, fun U hU hW => ⟨rfl, tp_pay hK hP hD hE hZ hS [1] (by decide) rfl hFc U hU hW⟩⟩ rfl rfl hl.1 rfl (lv_room (Nat.le_of_ble_eq_true rfl)) dL_law_622 ⟨(Nat.le_of_ble_eq_true rfl), (Nat.le_of_ble_eq_true rfl)⟩) hS (fun q _ h => hFc q h) hFc (fun r_22 u t H1 locs ht hvm hw hB hz1 hk1 hS => ?_)
        obtain rfl := hw
        obtain ⟨f_23, hP1, hD1⟩ := hB
        subst f_23
        rw [ht] at hP1
        obtain ⟨hP, hD⟩ := va_join (wr := [(o0, .inl (cy 1, 1, .inr (.inl ((fun _ => 0)))))]) (w1 := [(m0, .inr (10, [.ref w0, .int 1]))]) hP hD [1] [0] rfl rfl (by decide) (by decide) hk1 hFc hP1 hD1
        generalize H1 = H at hP hS ⊢
        have hP : va_P (dC, dI) vwCl [(o0, .inl (cy 1, 1, .inr (.inl ((fun _ => 0))))), (m0, .inr (10, [.ref w0, .int 1]))] _ := hP
        have hD : va_D A [(o0, .inl (cy 1, 1, .inr (.inl ((fun _ => 0))))), (m0, .inr (10, [.ref w0, .int 1]))] := hD
        refine lv_iload hx hb dL_law_625 (lv_at hl 1 rfl) ?_
        refine lv_icmp_eq (tgt := 632) hx hb dL_law_627 (by decide) (fun _ => ?_) (fun c_24 => absurd rfl c_24)
        refine lv_iload hx hb dL_law_632 (lv_at hl 1 rfl) ?_
        refine lv_if_ne (tgt := 656) hx hb dL_law_634 (by decide) (fun _ => ?_) (fun c_25 => absurd c_25 (by decide))
        refine lv_goto (tgt := 2504) hx hb dL_law_656 (by decide) ?_
        exact tc_end hd0 hs C1 hX (Nat.le_of_ble_eq_true rfl) (Nat.le_of_ble_eq_true rfl) H _ ls hS (lv_sub hl [2, 6] rfl)
      · refine lv_iconst (v := 1) hx hb dL_law_611 (by decide) ?_
        refine lv_goto (tgt := 616) hx hb dL_law_612 (by decide) ?_
        have hFc := va_free (wc := [(m0, .inr (10, [.ref w0, .int 0])), (w0, .inr (9, [.int 0, .int 1, .int 0, .ref r_phases, .ref r_phase, .ref r_phaseTicks, .ref r_set, .ref r_least, .ref r_greatest, .int 0, .ref r_from, .ref r_to, .ref r_time, .ref r_room, .ref r_first, .ref r_rate, .ref r_cost, .ref r_isShut, .ref r_slowed, .ref r_row, .ref r_size, .ref r_came, .ref r_left, .ref r_mostQueue, .ref r_sumQueue, .ref r_turned, .int 0, .ref r_flowFrom, .ref r_flowTo, .ref r_kind, .ref r_start, .ref r_period, .ref r_count, .int 0, .ref r_flow, .ref r_began, .ref r_state, .ref r_link, .ref r_end, .ref r_gone, .ref r_trip, .ref r_delay, .ref r_way]))]) hD hS hA [0, 1] rfl
        refine va_calli (va_runV (As := [.int (xs (0 + 1 : Int32).toNatClampNeg), .int 1]) (rest := []) ⟨hx, hb, hml, hown, hts⟩ (tm_m_shut l hst dC dI cy m0 w0 0 r_phases r_phase r_phaseTicks r_set r_least r_greatest r_from r_to r_time r_room r_first r_rate r_cost r_isShut r_slowed r_row r_size r_came r_left r_mostQueue r_sumQueue r_turned r_flowFrom r_flowTo r_kind r_start r_period r_count r_flow r_began r_state r_link r_end r_gone r_trip r_delay r_way (xs (0 + 1 : Int32).toNatClampNeg) 1 H.size) (tp_cwV 2 hts tw_1356 tw_1357 tw_1358 tw_48 tw_1359 rfl rfl (by decide +kernel) ⟨Nat.le_of_ble_eq_true rfl, Nat.le_of_ble_eq_true rfl⟩) ⟨tp_blind, va_recv hK hP (ci := 10) (q0 := 0) rfl rfl, fun U hU hW => ⟨rfl, tp_pay hK hP hD hE hZ hS [0, 1] (by decide) rfl hFc U hU hW⟩⟩ rfl rfl hl.1 rfl (lv_room (Nat.le_of_ble_eq_true rfl)) dL_law_616 ⟨(Nat.le_of_ble_eq_true rfl), (Nat.le_of_ble_eq_true rfl)⟩) hS (fun q _ h => hFc q h) hFc (fun r_26 u t H1 locs ht hvm hw hB hz1 hk1 hS => ?_)
        obtain rfl := hw
        obtain ⟨f_27, hP1, hD1⟩ := hB
        subst f_27
        rw [ht] at hP1
        obtain ⟨hP, hD⟩ := va_join (wr := [(o0, .inl (cy 1, 1, .inr (.inl ((fun _ => 0)))))]) (w1 := [(m0, .inr (10, [.ref w0, .int 1]))]) hP hD [0, 1] [2] rfl rfl (by decide) (by decide) hk1 hFc hP1 hD1
        generalize H1 = H at hP hS ⊢
        have hP : va_P (dC, dI) vwCl [(o0, .inl (cy 1, 1, .inr (.inl ((fun _ => 0))))), (m0, .inr (10, [.ref w0, .int 1]))] _ := hP
        have hD : va_D A [(o0, .inl (cy 1, 1, .inr (.inl ((fun _ => 0))))), (m0, .inr (10, [.ref w0, .int 1]))] := hD
        refine lv_istore (lv' := [(6, .int 0), (5, .int 1), (0, .ref b), (1, .ref a0), (2, .ref m0), (3, .ref o0), (4, .int 0)]) hx hb dL_law_619 hl (by decide) rfl (fun ls hl => ?_)
        refine lv_aload_n hx hb dL_law_621 rfl (lv_at hl 4 rfl) ?_
        have hFc := va_free (wc := [(m0, .inr (10, [.ref w0, .int 1]))]) hD hS hA [1] rfl
        refine va_calli (va_runV (As := []) (rest := []) ⟨hx, hb, hml, hown, hts⟩ (tm_m_thrown l hst dC dI cy m0 w0 1 H.size) (tp_cwV 0 hts tw_1317 tw_1318 tw_1319 tw_48 tw_1320 rfl rfl (by decide +kernel) ⟨Nat.le_of_ble_eq_true rfl, Nat.le_of_ble_eq_true rfl⟩) ⟨tp_blind, va_recv hK hP (ci := 10) (q0 := 1) rfl rfl, fun U hU hW => ⟨rfl, tp_pay hK hP hD hE hZ hS [1] (by decide) rfl hFc U hU hW⟩⟩ rfl rfl hl.1 rfl (lv_room (Nat.le_of_ble_eq_true rfl)) dL_law_622 ⟨(Nat.le_of_ble_eq_true rfl), (Nat.le_of_ble_eq_true rfl)⟩) hS (fun q _ h => hFc q h) hFc (fun r_28 u t H1 locs ht hvm hw hB hz1 hk1 hS => ?_)
        obtain rfl := hw
        obtain ⟨f_29, hP1, hD1⟩ := hB
        subst f_29
        rw [ht] at hP1
        obtain ⟨hP, hD⟩ := va_join (wr := [(o0, .inl (cy 1, 1, .inr (.inl ((fun _ => 0)))))]) (w1 := [(m0, .inr (10, [.ref w0, .int 1]))]) hP hD [1] [0] rfl rfl (by decide) (by decide) hk1 hFc hP1 hD1
        generalize H1 = H at hP hS ⊢
        have hP : va_P (dC, dI) vwCl [(o0, .inl (cy 1, 1, .inr (.inl ((fun _ => 0))))), (m0, .inr (10, [.ref w0, .int 1]))] _ := hP
        have hD : va_D A [(o0, .inl (cy 1, 1, .inr (.inl ((fun _ => 0))))), (m0, .inr (10, [.ref w0, .int 1]))] := hD
        refine lv_iload hx hb dL_law_625 (lv_at hl 1 rfl) ?_
        refine lv_icmp_eq (tgt := 632) hx hb dL_law_627 (by decide) (fun _ => ?_) (fun c_30 => absurd rfl c_30)
        refine lv_iload hx hb dL_law_632 (lv_at hl 1 rfl) ?_
        refine lv_if_ne (tgt := 656) hx hb dL_law_634 (by decide) (fun _ => ?_) (fun c_31 => absurd c_31 (by decide))
        refine lv_goto (tgt := 2504) hx hb dL_law_656 (by decide) ?_
        exact tc_end hd0 hs C1 hX (Nat.le_of_ble_eq_true rfl) (Nat.le_of_ble_eq_true rfl) H _ ls hS (lv_sub hl [2, 6] rfl)
theorem tw_766 : Cond.codeWith yL_slow cL_slow 6 (some .int) [(0, 12, 15, 19), (0, 12, 19, 21)] ∈ tp_all := tp_mem 766 (by decide +kernel) rfl
theorem tw_764 : Cond.methodLink RL 155 yL_slow ∈ tp_all := tp_mem 764 (by decide +kernel) rfl
theorem tw_765 : Cond.static yL_slow ∈ tp_all := tp_mem 765 (by decide +kernel) rfl
theorem tw_1367 : Cond.code yX10_slow cX10_slow 5 (some .int) ∈ tp_all := tp_mem 1367 (by decide +kernel) rfl
theorem tw_1364 : Cond.methodLink RL 158 yX10_slow ∈ tp_all := tp_mem 1364 (by decide +kernel) rfl
theorem tw_1365 : Cond.instanceMethod yX10_slow ∈ tp_all := tp_mem 1365 (by decide +kernel) rfl
theorem tw_1366 : Cond.selects RX10 yX10_slow yX10_slow ∈ tp_all := tp_mem 1366 (by decide +kernel) rfl
theorem dL_law_659 : decode cL_law 659 = .ok (.aload_n 1, 1) := by decide +kernel
theorem dL_law_660 : decode cL_law 660 = .ok (.aload_n 0, 1) := by decide +kernel
theorem dL_law_661 : decode cL_law 661 = .ok (.iload 4, 2) := by decide +kernel
theorem dL_law_663 : decode cL_law 663 = .ok (.iconst 1, 1) := by decide +kernel
theorem dL_law_664 : decode cL_law 664 = .ok (.iadd, 1) := by decide +kernel
theorem dL_law_665 : decode cL_law 665 = .ok (.iaload, 1) := by decide +kernel
theorem dL_law_666 : decode cL_law 666 = .ok (.aload_n 0, 1) := by decide +kernel
theorem dL_law_667 : decode cL_law 667 = .ok (.iload 4, 2) := by decide +kernel
theorem dL_law_669 : decode cL_law 669 = .ok (.iconst 2, 1) := by decide +kernel
theorem dL_law_670 : decode cL_law 670 = .ok (.iadd, 1) := by decide +kernel
theorem dL_law_671 : decode cL_law 671 = .ok (.iaload, 1) := by decide +kernel
theorem dL_law_672 : decode cL_law 672 = .ok (.aload_n 0, 1) := by decide +kernel
theorem dL_law_673 : decode cL_law 673 = .ok (.iload 4, 2) := by decide +kernel
theorem dL_law_675 : decode cL_law 675 = .ok (.iconst 3, 1) := by decide +kernel
theorem dL_law_676 : decode cL_law 676 = .ok (.iadd, 1) := by decide +kernel
theorem dL_law_677 : decode cL_law 677 = .ok (.iaload, 1) := by decide +kernel
theorem dL_law_678 : decode cL_law 678 = .ok (.aload_n 3, 1) := by decide +kernel
theorem dL_law_679 : decode cL_law 679 = .ok (.invokestatic 155, 3) := by decide +kernel
theorem dL_law_682 : decode cL_law 682 = .ok (.istore 5, 2) := by decide +kernel
theorem dL_law_684 : decode cL_law 684 = .ok (.aload_n 2, 1) := by decide +kernel
theorem dL_law_685 : decode cL_law 685 = .ok (.aload_n 0, 1) := by decide +kernel
theorem dL_law_686 : decode cL_law 686 = .ok (.iload 4, 2) := by decide +kernel
theorem dL_law_688 : decode cL_law 688 = .ok (.iconst 1, 1) := by decide +kernel
theorem dL_law_689 : decode cL_law 689 = .ok (.iadd, 1) := by decide +kernel
theorem dL_law_690 : decode cL_law 690 = .ok (.iaload, 1) := by decide +kernel
theorem dL_law_691 : decode cL_law 691 = .ok (.aload_n 0, 1) := by decide +kernel
theorem dL_law_692 : decode cL_law 692 = .ok (.iload 4, 2) := by decide +kernel
theorem dL_law_694 : decode cL_law 694 = .ok (.iconst 2, 1) := by decide +kernel
theorem dL_law_695 : decode cL_law 695 = .ok (.iadd, 1) := by decide +kernel
theorem dL_law_696 : decode cL_law 696 = .ok (.iaload, 1) := by decide +kernel
theorem dL_law_697 : decode cL_law 697 = .ok (.aload_n 0, 1) := by decide +kernel
theorem dL_law_698 : decode cL_law 698 = .ok (.iload 4, 2) := by decide +kernel
theorem dL_law_700 : decode cL_law 700 = .ok (.iconst 3, 1) := by decide +kernel
theorem dL_law_701 : decode cL_law 701 = .ok (.iadd, 1) := by decide +kernel
theorem dL_law_702 : decode cL_law 702 = .ok (.iaload, 1) := by decide +kernel
theorem dL_law_703 : decode cL_law 703 = .ok (.invokevirtual 158, 3) := by decide +kernel
theorem dL_law_706 : decode cL_law 706 = .ok (.istore 6, 2) := by decide +kernel
theorem dL_law_708 : decode cL_law 708 = .ok (.aload_n 2, 1) := by decide +kernel
theorem dL_law_709 : decode cL_law 709 = .ok (.invokevirtual 133, 3) := by decide +kernel
theorem dL_law_712 : decode cL_law 712 = .ok (.iload 5, 2) := by decide +kernel
theorem dL_law_714 : decode cL_law 714 = .ok (.if_icmp .eq 5, 3) := by decide +kernel
theorem dL_law_719 : decode cL_law 719 = .ok (.iload 5, 2) := by decide +kernel
theorem dL_law_721 : decode cL_law 721 = .ok (.ifCond .ne 15, 3) := by decide +kernel
theorem dL_law_736 : decode cL_law 736 = .ok (.goto 1768, 3) := by decide +kernel
set_option maxRecDepth 100000 in
set_option maxHeartbeats 4000000 in
/-- the case 6 -/
theorem tc_6 {p : Program} {l : Launch} {e : Env} {s0 s : State} {m : MethodId} {below : List Frame} {meth : Method} {c : Code} {A : Nat → Prop} (hst : l.stackTraces = false) {dC : Nat → ClassId} {dI : Nat → Nat → Nat} {cy : Nat → ClassId} {b : Nat} {xs : Nat → Int32} {d0 : Drawn} (hd0 : s0.drawn.sameBut d0 lw_cs) (hs : s = s0.setDrawn d0) (C1 : tc_At p s m meth c b #[Value.ref b] A dC dI cy) (hX : va_X b 7 xs s s.heap) {a0 : Nat} {a1 : Nat} {a2 : Nat} {aT : Nat} {b1 : Nat} {b2 : Nat} {b3 : Nat} {b4 : Nat} {b5 : Nat} {b6 : Nat} {b7 : Nat} {m0 : Nat} {w0 : Nat} {o0 : Nat} {r_phases : Nat} {r_phase : Nat} {r_phaseTicks : Nat} {r_set : Nat} {r_least : Nat} {r_greatest : Nat} {r_from : Nat} {r_to : Nat} {r_time : Nat} {r_room : Nat} {r_first : Nat} {r_rate : Nat} {r_cost : Nat} {r_isShut : Nat} {r_slowed : Nat} {r_row : Nat} {r_size : Nat} {r_came : Nat} {r_left : Nat} {r_mostQueue : Nat} {r_sumQueue : Nat} {r_turned : Nat} {r_flowFrom : Nat} {r_flowTo : Nat} {r_kind : Nat} {r_start : Nat} {r_period : Nat} {r_count : Nat} {r_flow : Nat} {r_began : Nat} {r_state : Nat} {r_link : Nat} {r_end : Nat} {r_gone : Nat} {r_trip : Nat} {r_delay : Nat} {r_way : Nat} (H : Heap) (locs : List Loc) (ls : Array Slot) (hP : va_P (dC, dI) vwCl [(a0, .inr (8, [.ref a1, .ref aT])), (a1, .inr (5, [.ref a2, .ref b1, .ref b2, .ref b3, .ref b4, .ref b5, .int 0, .int 1, .int 0, .int 0, .int 0, .int 0])), (a2, .inr (2, [.ref b6, .int 0, .ref b7, .int 0])), (m0, .inr (10, [.ref w0, .int 0])), (w0, .inr (9, [.int 0, .int 1, .int 0, .ref r_phases, .ref r_phase, .ref r_phaseTicks, .ref r_set, .ref r_least, .ref r_greatest, .int 0, .ref r_from, .ref r_to, .ref r_time, .ref r_room, .ref r_first, .ref r_rate, .ref r_cost, .ref r_isShut, .ref r_slowed, .ref r_row, .ref r_size, .ref r_came, .ref r_left, .ref r_mostQueue, .ref r_sumQueue, .ref r_turned, .int 0, .ref r_flowFrom, .ref r_flowTo, .ref r_kind, .ref r_start, .ref r_period, .ref r_count, .int 0, .ref r_flow, .ref r_began, .ref r_state, .ref r_link, .ref r_end, .ref r_gone, .ref r_trip, .ref r_delay, .ref r_way])), (o0, .inl (cy 1, 1, .inr (.inl ((fun _ => 0)))))] H) (hD : va_D A [(a0, .inr (8, [.ref a1, .ref aT])), (a1, .inr (5, [.ref a2, .ref b1, .ref b2, .ref b3, .ref b4, .ref b5, .int 0, .int 1, .int 0, .int 0, .int 0, .int 0])), (a2, .inr (2, [.ref b6, .int 0, .ref b7, .int 0])), (m0, .inr (10, [.ref w0, .int 0])), (w0, .inr (9, [.int 0, .int 1, .int 0, .ref r_phases, .ref r_phase, .ref r_phaseTicks, .ref r_set, .ref r_least, .ref r_greatest, .int 0, .ref r_from, .ref r_to, .ref r_time, .ref r_room, .ref r_first, .ref r_rate, .ref r_cost, .ref r_isShut, .ref r_slowed, .ref r_row, .ref r_size, .ref r_came, .ref r_left, .ref r_mostQueue, .ref r_sumQueue, .ref r_turned, .int 0, .ref r_flowFrom, .ref r_flowTo, .ref r_kind, .ref r_start, .ref r_period, .ref r_count, .int 0, .ref r_flow, .ref r_began, .ref r_state, .ref r_link, .ref r_end, .ref r_gone, .ref r_trip, .ref r_delay, .ref r_way])), (o0, .inl (cy 1, 1, .inr (.inl ((fun _ => 0)))))]) (hS : va_S A s.heap H locs) (hl : lv_has ls 9 [(0, .ref b), (1, .ref a0), (2, .ref m0), (3, .ref o0), (4, .int 0)]) : W p l e room_1 s m #[Value.ref b] below meth c H locs 1535 31585 (lw_Z below #[Value.ref b] s0) (F0 m 659 ls []) := by
  have C2 := C1
  obtain ⟨hx, hb, hr, hml, hown, hts, hbl, hlocks, hK, hE, hZ, hA, hbA, hA2⟩ := C2
  refine lv_aload_n hx hb dL_law_659 rfl (lv_at hl 1 rfl) ?_
  refine lv_aload_n hx hb dL_law_660 rfl (lv_at hl 0 rfl) ?_
  refine lv_iload hx hb dL_law_661 (lv_at hl 4 rfl) ?_
  refine lv_iconst (v := 1) hx hb dL_law_663 (by decide) ?_
  refine lv_iadd hx hb dL_law_664 ?_
  refine va_sld hx hb hX hbl hbA hS (by unfold vp_in; decide) dL_law_665 ?_
  refine lv_aload_n hx hb dL_law_666 rfl (lv_at hl 0 rfl) ?_
  refine lv_iload hx hb dL_law_667 (lv_at hl 4 rfl) ?_
  refine lv_iconst (v := 2) hx hb dL_law_669 (by decide) ?_
  refine lv_iadd hx hb dL_law_670 ?_
  refine va_sld hx hb hX hbl hbA hS (by unfold vp_in; decide) dL_law_671 ?_
  refine lv_aload_n hx hb dL_law_672 rfl (lv_at hl 0 rfl) ?_
  refine lv_iload hx hb dL_law_673 (lv_at hl 4 rfl) ?_
  refine lv_iconst (v := 3) hx hb dL_law_675 (by decide) ?_
  refine lv_iadd hx hb dL_law_676 ?_
  refine va_sld hx hb hX hbl hbA hS (by unfold vp_in; decide) dL_law_677 ?_
  refine lv_aload_n hx hb dL_law_678 rfl (lv_at hl 3 rfl) ?_
  have hFc := va_free (wc := [(a0, .inr (8, [.ref a1, .ref aT])), (a1, .inr (5, [.ref a2, .ref b1, .ref b2, .ref b3, .ref b4, .ref b5, .int 0, .int 1, .int 0, .int 0, .int 0, .int 0])), (a2, .inr (2, [.ref b6, .int 0, .ref b7, .int 0])), (o0, .inl (cy 1, 1, .inr (.inl ((fun _ => 0)))))]) hD hS hA [0, 1, 2, 5] rfl
  refine vx_calli (vx_runSX (As := [.ref a0, .int (xs (0 + 1 : Int32).toNatClampNeg), .int (xs (0 + 2 : Int32).toNatClampNeg), .int (xs (0 + 3 : Int32).toNatClampNeg), .ref o0]) (rest := []) ⟨hx, hb, hml, hown, hts⟩ (tm_L_slow l hst dC dI cy a0 a1 a2 aT b1 b2 b3 b4 b5 b6 b7 o0 (xs (0 + 1 : Int32).toNatClampNeg) (xs (0 + 2 : Int32).toNatClampNeg) (xs (0 + 3 : Int32).toNatClampNeg) H.size) (tp_cwSW 5 hts tw_764 tw_765 tw_37 tw_766 rfl rfl (by decide +kernel) ⟨Nat.le_of_ble_eq_true rfl, Nat.le_of_ble_eq_true rfl⟩) ⟨tp_blind, fun U hU hW => ⟨rfl, tp_pay hK hP hD hE hZ hS [0, 1, 2, 5] (by decide) rfl hFc U hU hW⟩⟩ rfl rfl hl.1 rfl (lv_room (Nat.le_of_ble_eq_true rfl)) dL_law_679 ⟨(Nat.le_of_ble_eq_true rfl), (Nat.le_of_ble_eq_true rfl)⟩) hS (fun q _ h => hFc q h) hFc (fun q _ h => hFc q h) (fun E9 ce q9 u t H1 locs ht hvm hw hB hz1 hk1 hS hce hcv hcl => ?_) (fun r_1 u t H1 locs ht hvm hw hB hz1 hk1 hS => ?_)
  · obtain ⟨hE9, hB⟩ := hB
    exact hE9.elim
  · obtain rfl := hw
    obtain ⟨f_2, hP1, hD1⟩ := hB
    subst f_2
    rw [ht] at hP1
    obtain ⟨hP, hD⟩ := va_join (wr := [(m0, .inr (10, [.ref w0, .int 0])), (w0, .inr (9, [.int 0, .int 1, .int 0, .ref r_phases, .ref r_phase, .ref r_phaseTicks, .ref r_set, .ref r_least, .ref r_greatest, .int 0, .ref r_from, .ref r_to, .ref r_time, .ref r_room, .ref r_first, .ref r_rate, .ref r_cost, .ref r_isShut, .ref r_slowed, .ref r_row, .ref r_size, .ref r_came, .ref r_left, .ref r_mostQueue, .ref r_sumQueue, .ref r_turned, .int 0, .ref r_flowFrom, .ref r_flowTo, .ref r_kind, .ref r_start, .ref r_period, .ref r_count, .int 0, .ref r_flow, .ref r_began, .ref r_state, .ref r_link, .ref r_end, .ref r_gone, .ref r_trip, .ref r_delay, .ref r_way]))]) (w1 := [(o0, .inl (cy 1, 1, .inr (.inl ((fun _ => 0)))))]) hP hD [0, 1, 2, 5] [3, 4] rfl rfl (by decide) (by decide) hk1 hFc hP1 hD1
    generalize H1 = H at hP hS ⊢
    have hP : va_P (dC, dI) vwCl [(m0, .inr (10, [.ref w0, .int 0])), (w0, .inr (9, [.int 0, .int 1, .int 0, .ref r_phases, .ref r_phase, .ref r_phaseTicks, .ref r_set, .ref r_least, .ref r_greatest, .int 0, .ref r_from, .ref r_to, .ref r_time, .ref r_room, .ref r_first, .ref r_rate, .ref r_cost, .ref r_isShut, .ref r_slowed, .ref r_row, .ref r_size, .ref r_came, .ref r_left, .ref r_mostQueue, .ref r_sumQueue, .ref r_turned, .int 0, .ref r_flowFrom, .ref r_flowTo, .ref r_kind, .ref r_start, .ref r_period, .ref r_count, .int 0, .ref r_flow, .ref r_began, .ref r_state, .ref r_link, .ref r_end, .ref r_gone, .ref r_trip, .ref r_delay, .ref r_way])), (o0, .inl (cy 1, 1, .inr (.inl ((fun _ => 0)))))] _ := hP
    have hD : va_D A [(m0, .inr (10, [.ref w0, .int 0])), (w0, .inr (9, [.int 0, .int 1, .int 0, .ref r_phases, .ref r_phase, .ref r_phaseTicks, .ref r_set, .ref r_least, .ref r_greatest, .int 0, .ref r_from, .ref r_to, .ref r_time, .ref r_room, .ref r_first, .ref r_rate, .ref r_cost, .ref r_isShut, .ref r_slowed, .ref r_row, .ref r_size, .ref r_came, .ref r_left, .ref r_mostQueue, .ref r_sumQueue, .ref r_turned, .int 0, .ref r_flowFrom, .ref r_flowTo, .ref r_kind, .ref r_start, .ref r_period, .ref r_count, .int 0, .ref r_flow, .ref r_began, .ref r_state, .ref r_link, .ref r_end, .ref r_gone, .ref r_trip, .ref r_delay, .ref r_way])), (o0, .inl (cy 1, 1, .inr (.inl ((fun _ => 0)))))] := hD
    refine lv_istore (lv' := [(5, .int 1), (0, .ref b), (1, .ref a0), (2, .ref m0), (3, .ref o0), (4, .int 0)]) hx hb dL_law_682 hl (by decide) rfl (fun ls hl => ?_)
    refine lv_aload_n hx hb dL_law_684 rfl (lv_at hl 3 rfl) ?_
    refine lv_aload_n hx hb dL_law_685 rfl (lv_at hl 1 rfl) ?_
    refine lv_iload hx hb dL_law_686 (lv_at hl 5 rfl) ?_
    refine lv_iconst (v := 1) hx hb dL_law_688 (by decide) ?_
    refine lv_iadd hx hb dL_law_689 ?_
    refine va_sld hx hb hX hbl hbA hS (by unfold vp_in; decide) dL_law_690 ?_
    refine lv_aload_n hx hb dL_law_691 rfl (lv_at hl 1 rfl) ?_
    refine lv_iload hx hb dL_law_692 (lv_at hl 5 rfl) ?_
    refine lv_iconst (v := 2) hx hb dL_law_694 (by decide) ?_
    refine lv_iadd hx hb dL_law_695 ?_
    refine va_sld hx hb hX hbl hbA hS (by unfold vp_in; decide) dL_law_696 ?_
    refine lv_aload_n hx hb dL_law_697 rfl (lv_at hl 1 rfl) ?_
    refine lv_iload hx hb dL_law_698 (lv_at hl 5 rfl) ?_
    refine lv_iconst (v := 3) hx hb dL_law_700 (by decide) ?_
    refine lv_iadd hx hb dL_law_701 ?_
    refine va_sld hx hb hX hbl hbA hS (by unfold vp_in; decide) dL_law_702 ?_
    have hFc := va_free (wc := [(m0, .inr (10, [.ref w0, .int 0])), (w0, .inr (9, [.int 0, .int 1, .int 0, .ref r_phases, .ref r_phase, .ref r_phaseTicks, .ref r_set, .ref r_least, .ref r_greatest, .int 0, .ref r_from, .ref r_to, .ref r_time, .ref r_room, .ref r_first, .ref r_rate, .ref r_cost, .ref r_isShut, .ref r_slowed, .ref r_row, .ref r_size, .ref r_came, .ref r_left, .ref r_mostQueue, .ref r_sumQueue, .ref r_turned, .int 0, .ref r_flowFrom, .ref r_flowTo, .ref r_kind, .ref r_start, .ref r_period, .ref r_count, .int 0, .ref r_flow, .ref r_began, .ref r_state, .ref r_link, .ref r_end, .ref r_gone, .ref r_trip, .ref r_delay, .ref r_way]))]) hD hS hA [0, 1] rfl
    refine va_calli (va_runV (As := [.int (xs (0 + 1 : Int32).toNatClampNeg), .int (xs (0 + 2 : Int32).toNatClampNeg), .int (xs (0 + 3 : Int32).toNatClampNeg)]) (rest := []) ⟨hx, hb, hml, hown, hts⟩ (tm_m_slow l hst dC dI cy m0 w0 0 r_phases r_phase r_phaseTicks r_set r_least r_greatest r_from r_to r_time r_room r_first r_rate r_cost r_isShut r_slowed r_row r_size r_came r_left r_mostQueue r_sumQueue r_turned r_flowFrom r_flowTo r_kind r_start r_period r_count r_flow r_began r_state r_link r_end r_gone r_trip r_delay r_way (xs (0 + 1 : Int32).toNatClampNeg) (xs (0 + 2 : Int32).toNatClampNeg) (xs (0 + 3 : Int32).toNatClampNeg) H.size) (tp_cwV 3 hts tw_1364 tw_1365 tw_1366 tw_48 tw_1367 rfl rfl (by decide +kernel) ⟨Nat.le_of_ble_eq_true rfl, Nat.le_of_ble_eq_true rfl⟩) ⟨tp_blind, va_recv hK hP (ci := 10) (q0 := 0) rfl rfl, fun U hU hW => ⟨rfl, tp_pay hK hP hD hE hZ hS [0, 1] (by decide) rfl hFc U hU hW⟩⟩ rfl rfl hl.1 rfl (lv_room (Nat.le_of_ble_eq_true rfl)) dL_law_703 ⟨(Nat.le_of_ble_eq_true rfl), (Nat.le_of_ble_eq_true rfl)⟩) hS (fun q _ h => hFc q h) hFc (fun r_3 u t H1 locs ht hvm hw hB hz1 hk1 hS => ?_)
    obtain rfl := hw
    obtain ⟨f_4, hP1, hD1⟩ := hB
    subst f_4
    rw [ht] at hP1
    obtain ⟨hP, hD⟩ := va_join (wr := [(o0, .inl (cy 1, 1, .inr (.inl ((fun _ => 0)))))]) (w1 := [(m0, .inr (10, [.ref w0, .int 1]))]) hP hD [0, 1] [2] rfl rfl (by decide) (by decide) hk1 hFc hP1 hD1
    generalize H1 = H at hP hS ⊢
    have hP : va_P (dC, dI) vwCl [(o0, .inl (cy 1, 1, .inr (.inl ((fun _ => 0))))), (m0, .inr (10, [.ref w0, .int 1]))] _ := hP
    have hD : va_D A [(o0, .inl (cy 1, 1, .inr (.inl ((fun _ => 0))))), (m0, .inr (10, [.ref w0, .int 1]))] := hD
    refine lv_istore (lv' := [(6, .int 0), (5, .int 1), (0, .ref b), (1, .ref a0), (2, .ref m0), (3, .ref o0), (4, .int 0)]) hx hb dL_law_706 hl (by decide) rfl (fun ls hl => ?_)
    refine lv_aload_n hx hb dL_law_708 rfl (lv_at hl 4 rfl) ?_
    have hFc := va_free (wc := [(m0, .inr (10, [.ref w0, .int 1]))]) hD hS hA [1] rfl
    refine va_calli (va_runV (As := []) (rest := []) ⟨hx, hb, hml, hown, hts⟩ (tm_m_thrown l hst dC dI cy m0 w0 1 H.size) (tp_cwV 0 hts tw_1317 tw_1318 tw_1319 tw_48 tw_1320 rfl rfl (by decide +kernel) ⟨Nat.le_of_ble_eq_true rfl, Nat.le_of_ble_eq_true rfl⟩) ⟨tp_blind, va_recv hK hP (ci := 10) (q0 := 1) rfl rfl, fun U hU hW => ⟨rfl, tp_pay hK hP hD hE hZ hS [1] (by decide) rfl hFc U hU hW⟩⟩ rfl rfl hl.1 rfl (lv_room (Nat.le_of_ble_eq_true rfl)) dL_law_709 ⟨(Nat.le_of_ble_eq_true rfl), (Nat.le_of_ble_eq_true rfl)⟩) hS (fun q _ h => hFc q h) hFc (fun r_5 u t H1 locs ht hvm hw hB hz1 hk1 hS => ?_)
    obtain rfl := hw
    obtain ⟨f_6, hP1, hD1⟩ := hB
    subst f_6
    rw [ht] at hP1
    obtain ⟨hP, hD⟩ := va_join (wr := [(o0, .inl (cy 1, 1, .inr (.inl ((fun _ => 0)))))]) (w1 := [(m0, .inr (10, [.ref w0, .int 1]))]) hP hD [1] [0] rfl rfl (by decide) (by decide) hk1 hFc hP1 hD1
    generalize H1 = H at hP hS ⊢
    have hP : va_P (dC, dI) vwCl [(o0, .inl (cy 1, 1, .inr (.inl ((fun _ => 0))))), (m0, .inr (10, [.ref w0, .int 1]))] _ := hP
    have hD : va_D A [(o0, .inl (cy 1, 1, .inr (.inl ((fun _ => 0))))), (m0, .inr (10, [.ref w0, .int 1]))] := hD
    refine lv_iload hx hb dL_law_712 (lv_at hl 1 rfl) ?_
    refine lv_icmp_eq (tgt := 719) hx hb dL_law_714 (by decide) (fun _ => ?_) (fun c_7 => absurd rfl c_7)
    refine lv_iload hx hb dL_law_719 (lv_at hl 1 rfl) ?_
    refine lv_if_ne (tgt := 736) hx hb dL_law_721 (by decide) (fun _ => ?_) (fun c_8 => absurd c_8 (by decide))
    refine lv_goto (tgt := 2504) hx hb dL_law_736 (by decide) ?_
    exact tc_end hd0 hs C1 hX (Nat.le_of_ble_eq_true rfl) (Nat.le_of_ble_eq_true rfl) H _ ls hS (lv_sub hl [2, 6] rfl)
theorem tw_773 : Cond.codeWith yL_addFlow cL_addFlow 9 (some .int) [(0, 18, 21, 19), (0, 18, 25, 21), (0, 18, 29, 13)] ∈ tp_all := tp_mem 773 (by decide +kernel) rfl
theorem tw_771 : Cond.methodLink RL 159 yL_addFlow ∈ tp_all := tp_mem 771 (by decide +kernel) rfl
theorem tw_772 : Cond.static yL_addFlow ∈ tp_all := tp_mem 772 (by decide +kernel) rfl
theorem tw_1371 : Cond.code yX10_addFlow cX10_addFlow 8 (some .int) ∈ tp_all := tp_mem 1371 (by decide +kernel) rfl
theorem tw_1368 : Cond.methodLink RL 162 yX10_addFlow ∈ tp_all := tp_mem 1368 (by decide +kernel) rfl
theorem tw_1369 : Cond.instanceMethod yX10_addFlow ∈ tp_all := tp_mem 1369 (by decide +kernel) rfl
theorem tw_1370 : Cond.selects RX10 yX10_addFlow yX10_addFlow ∈ tp_all := tp_mem 1370 (by decide +kernel) rfl
theorem dL_law_739 : decode cL_law 739 = .ok (.aload_n 1, 1) := by decide +kernel
theorem dL_law_740 : decode cL_law 740 = .ok (.aload_n 0, 1) := by decide +kernel
theorem dL_law_741 : decode cL_law 741 = .ok (.iload 4, 2) := by decide +kernel
theorem dL_law_743 : decode cL_law 743 = .ok (.iconst 1, 1) := by decide +kernel
theorem dL_law_744 : decode cL_law 744 = .ok (.iadd, 1) := by decide +kernel
theorem dL_law_745 : decode cL_law 745 = .ok (.iaload, 1) := by decide +kernel
theorem dL_law_746 : decode cL_law 746 = .ok (.aload_n 0, 1) := by decide +kernel
theorem dL_law_747 : decode cL_law 747 = .ok (.iload 4, 2) := by decide +kernel
theorem dL_law_749 : decode cL_law 749 = .ok (.iconst 2, 1) := by decide +kernel
theorem dL_law_750 : decode cL_law 750 = .ok (.iadd, 1) := by decide +kernel
theorem dL_law_751 : decode cL_law 751 = .ok (.iaload, 1) := by decide +kernel
theorem dL_law_752 : decode cL_law 752 = .ok (.aload_n 0, 1) := by decide +kernel
theorem dL_law_753 : decode cL_law 753 = .ok (.iload 4, 2) := by decide +kernel
theorem dL_law_755 : decode cL_law 755 = .ok (.iconst 3, 1) := by decide +kernel
theorem dL_law_756 : decode cL_law 756 = .ok (.iadd, 1) := by decide +kernel
theorem dL_law_757 : decode cL_law 757 = .ok (.iaload, 1) := by decide +kernel
theorem dL_law_758 : decode cL_law 758 = .ok (.aload_n 0, 1) := by decide +kernel
theorem dL_law_759 : decode cL_law 759 = .ok (.iload 4, 2) := by decide +kernel
theorem dL_law_761 : decode cL_law 761 = .ok (.iconst 4, 1) := by decide +kernel
theorem dL_law_762 : decode cL_law 762 = .ok (.iadd, 1) := by decide +kernel
theorem dL_law_763 : decode cL_law 763 = .ok (.iaload, 1) := by decide +kernel
theorem dL_law_764 : decode cL_law 764 = .ok (.aload_n 0, 1) := by decide +kernel
theorem dL_law_765 : decode cL_law 765 = .ok (.iload 4, 2) := by decide +kernel
theorem dL_law_767 : decode cL_law 767 = .ok (.iconst 5, 1) := by decide +kernel
theorem dL_law_768 : decode cL_law 768 = .ok (.iadd, 1) := by decide +kernel
theorem dL_law_769 : decode cL_law 769 = .ok (.iaload, 1) := by decide +kernel
theorem dL_law_770 : decode cL_law 770 = .ok (.aload_n 0, 1) := by decide +kernel
theorem dL_law_771 : decode cL_law 771 = .ok (.iload 4, 2) := by decide +kernel
theorem dL_law_773 : decode cL_law 773 = .ok (.bipush 6, 2) := by decide +kernel
theorem dL_law_775 : decode cL_law 775 = .ok (.iadd, 1) := by decide +kernel
theorem dL_law_776 : decode cL_law 776 = .ok (.iaload, 1) := by decide +kernel
theorem dL_law_777 : decode cL_law 777 = .ok (.aload_n 3, 1) := by decide +kernel
theorem dL_law_778 : decode cL_law 778 = .ok (.invokestatic 159, 3) := by decide +kernel
theorem dL_law_781 : decode cL_law 781 = .ok (.istore 5, 2) := by decide +kernel
theorem dL_law_783 : decode cL_law 783 = .ok (.aload_n 2, 1) := by decide +kernel
theorem dL_law_784 : decode cL_law 784 = .ok (.aload_n 0, 1) := by decide +kernel
theorem dL_law_785 : decode cL_law 785 = .ok (.iload 4, 2) := by decide +kernel
theorem dL_law_787 : decode cL_law 787 = .ok (.iconst 1, 1) := by decide +kernel
theorem dL_law_788 : decode cL_law 788 = .ok (.iadd, 1) := by decide +kernel
theorem dL_law_789 : decode cL_law 789 = .ok (.iaload, 1) := by decide +kernel
theorem dL_law_790 : decode cL_law 790 = .ok (.aload_n 0, 1) := by decide +kernel
theorem dL_law_791 : decode cL_law 791 = .ok (.iload 4, 2) := by decide +kernel
theorem dL_law_793 : decode cL_law 793 = .ok (.iconst 2, 1) := by decide +kernel
theorem dL_law_794 : decode cL_law 794 = .ok (.iadd, 1) := by decide +kernel
theorem dL_law_795 : decode cL_law 795 = .ok (.iaload, 1) := by decide +kernel
theorem dL_law_796 : decode cL_law 796 = .ok (.aload_n 0, 1) := by decide +kernel
theorem dL_law_797 : decode cL_law 797 = .ok (.iload 4, 2) := by decide +kernel
theorem dL_law_799 : decode cL_law 799 = .ok (.iconst 3, 1) := by decide +kernel
theorem dL_law_800 : decode cL_law 800 = .ok (.iadd, 1) := by decide +kernel
theorem dL_law_801 : decode cL_law 801 = .ok (.iaload, 1) := by decide +kernel
theorem dL_law_802 : decode cL_law 802 = .ok (.aload_n 0, 1) := by decide +kernel
theorem dL_law_803 : decode cL_law 803 = .ok (.iload 4, 2) := by decide +kernel
theorem dL_law_805 : decode cL_law 805 = .ok (.iconst 4, 1) := by decide +kernel
theorem dL_law_806 : decode cL_law 806 = .ok (.iadd, 1) := by decide +kernel
theorem dL_law_807 : decode cL_law 807 = .ok (.iaload, 1) := by decide +kernel
theorem dL_law_808 : decode cL_law 808 = .ok (.aload_n 0, 1) := by decide +kernel
theorem dL_law_809 : decode cL_law 809 = .ok (.iload 4, 2) := by decide +kernel
theorem dL_law_811 : decode cL_law 811 = .ok (.iconst 5, 1) := by decide +kernel
theorem dL_law_812 : decode cL_law 812 = .ok (.iadd, 1) := by decide +kernel
theorem dL_law_813 : decode cL_law 813 = .ok (.iaload, 1) := by decide +kernel
theorem dL_law_814 : decode cL_law 814 = .ok (.aload_n 0, 1) := by decide +kernel
theorem dL_law_815 : decode cL_law 815 = .ok (.iload 4, 2) := by decide +kernel
theorem dL_law_817 : decode cL_law 817 = .ok (.bipush 6, 2) := by decide +kernel
theorem dL_law_819 : decode cL_law 819 = .ok (.iadd, 1) := by decide +kernel
theorem dL_law_820 : decode cL_law 820 = .ok (.iaload, 1) := by decide +kernel
theorem dL_law_821 : decode cL_law 821 = .ok (.invokevirtual 162, 3) := by decide +kernel
theorem dL_law_824 : decode cL_law 824 = .ok (.istore 6, 2) := by decide +kernel
theorem dL_law_826 : decode cL_law 826 = .ok (.aload_n 2, 1) := by decide +kernel
theorem dL_law_827 : decode cL_law 827 = .ok (.invokevirtual 133, 3) := by decide +kernel
theorem dL_law_830 : decode cL_law 830 = .ok (.iload 5, 2) := by decide +kernel
theorem dL_law_832 : decode cL_law 832 = .ok (.if_icmp .eq 5, 3) := by decide +kernel
theorem dL_law_837 : decode cL_law 837 = .ok (.iload 5, 2) := by decide +kernel
theorem dL_law_839 : decode cL_law 839 = .ok (.ifCond .ne 15, 3) := by decide +kernel
theorem dL_law_854 : decode cL_law 854 = .ok (.goto 1650, 3) := by decide +kernel
set_option maxRecDepth 100000 in
set_option maxHeartbeats 4000000 in
/-- the case 7 -/
theorem tc_7 {p : Program} {l : Launch} {e : Env} {s0 s : State} {m : MethodId} {below : List Frame} {meth : Method} {c : Code} {A : Nat → Prop} (hst : l.stackTraces = false) {dC : Nat → ClassId} {dI : Nat → Nat → Nat} {cy : Nat → ClassId} {b : Nat} {xs : Nat → Int32} {d0 : Drawn} (hd0 : s0.drawn.sameBut d0 lw_cs) (hs : s = s0.setDrawn d0) (C1 : tc_At p s m meth c b #[Value.ref b] A dC dI cy) (hX : va_X b 7 xs s s.heap) {a0 : Nat} {a1 : Nat} {a2 : Nat} {aT : Nat} {b1 : Nat} {b2 : Nat} {b3 : Nat} {b4 : Nat} {b5 : Nat} {b6 : Nat} {b7 : Nat} {m0 : Nat} {w0 : Nat} {o0 : Nat} {r_phases : Nat} {r_phase : Nat} {r_phaseTicks : Nat} {r_set : Nat} {r_least : Nat} {r_greatest : Nat} {r_from : Nat} {r_to : Nat} {r_time : Nat} {r_room : Nat} {r_first : Nat} {r_rate : Nat} {r_cost : Nat} {r_isShut : Nat} {r_slowed : Nat} {r_row : Nat} {r_size : Nat} {r_came : Nat} {r_left : Nat} {r_mostQueue : Nat} {r_sumQueue : Nat} {r_turned : Nat} {r_flowFrom : Nat} {r_flowTo : Nat} {r_kind : Nat} {r_start : Nat} {r_period : Nat} {r_count : Nat} {r_flow : Nat} {r_began : Nat} {r_state : Nat} {r_link : Nat} {r_end : Nat} {r_gone : Nat} {r_trip : Nat} {r_delay : Nat} {r_way : Nat} (H : Heap) (locs : List Loc) (ls : Array Slot) (hP : va_P (dC, dI) vwCl [(a0, .inr (8, [.ref a1, .ref aT])), (a1, .inr (5, [.ref a2, .ref b1, .ref b2, .ref b3, .ref b4, .ref b5, .int 0, .int 1, .int 0, .int 0, .int 0, .int 0])), (a2, .inr (2, [.ref b6, .int 0, .ref b7, .int 0])), (m0, .inr (10, [.ref w0, .int 0])), (w0, .inr (9, [.int 0, .int 1, .int 0, .ref r_phases, .ref r_phase, .ref r_phaseTicks, .ref r_set, .ref r_least, .ref r_greatest, .int 0, .ref r_from, .ref r_to, .ref r_time, .ref r_room, .ref r_first, .ref r_rate, .ref r_cost, .ref r_isShut, .ref r_slowed, .ref r_row, .ref r_size, .ref r_came, .ref r_left, .ref r_mostQueue, .ref r_sumQueue, .ref r_turned, .int 0, .ref r_flowFrom, .ref r_flowTo, .ref r_kind, .ref r_start, .ref r_period, .ref r_count, .int 0, .ref r_flow, .ref r_began, .ref r_state, .ref r_link, .ref r_end, .ref r_gone, .ref r_trip, .ref r_delay, .ref r_way])), (o0, .inl (cy 1, 1, .inr (.inl ((fun _ => 0)))))] H) (hD : va_D A [(a0, .inr (8, [.ref a1, .ref aT])), (a1, .inr (5, [.ref a2, .ref b1, .ref b2, .ref b3, .ref b4, .ref b5, .int 0, .int 1, .int 0, .int 0, .int 0, .int 0])), (a2, .inr (2, [.ref b6, .int 0, .ref b7, .int 0])), (m0, .inr (10, [.ref w0, .int 0])), (w0, .inr (9, [.int 0, .int 1, .int 0, .ref r_phases, .ref r_phase, .ref r_phaseTicks, .ref r_set, .ref r_least, .ref r_greatest, .int 0, .ref r_from, .ref r_to, .ref r_time, .ref r_room, .ref r_first, .ref r_rate, .ref r_cost, .ref r_isShut, .ref r_slowed, .ref r_row, .ref r_size, .ref r_came, .ref r_left, .ref r_mostQueue, .ref r_sumQueue, .ref r_turned, .int 0, .ref r_flowFrom, .ref r_flowTo, .ref r_kind, .ref r_start, .ref r_period, .ref r_count, .int 0, .ref r_flow, .ref r_began, .ref r_state, .ref r_link, .ref r_end, .ref r_gone, .ref r_trip, .ref r_delay, .ref r_way])), (o0, .inl (cy 1, 1, .inr (.inl ((fun _ => 0)))))]) (hS : va_S A s.heap H locs) (hl : lv_has ls 9 [(0, .ref b), (1, .ref a0), (2, .ref m0), (3, .ref o0), (4, .int 0)]) : W p l e room_1 s m #[Value.ref b] below meth c H locs 1535 31585 (lw_Z below #[Value.ref b] s0) (F0 m 739 ls []) := by
  have C2 := C1
  obtain ⟨hx, hb, hr, hml, hown, hts, hbl, hlocks, hK, hE, hZ, hA, hbA, hA2⟩ := C2
  refine lv_aload_n hx hb dL_law_739 rfl (lv_at hl 1 rfl) ?_
  refine lv_aload_n hx hb dL_law_740 rfl (lv_at hl 0 rfl) ?_
  refine lv_iload hx hb dL_law_741 (lv_at hl 4 rfl) ?_
  refine lv_iconst (v := 1) hx hb dL_law_743 (by decide) ?_
  refine lv_iadd hx hb dL_law_744 ?_
  refine va_sld hx hb hX hbl hbA hS (by unfold vp_in; decide) dL_law_745 ?_
  refine lv_aload_n hx hb dL_law_746 rfl (lv_at hl 0 rfl) ?_
  refine lv_iload hx hb dL_law_747 (lv_at hl 4 rfl) ?_
  refine lv_iconst (v := 2) hx hb dL_law_749 (by decide) ?_
  refine lv_iadd hx hb dL_law_750 ?_
  refine va_sld hx hb hX hbl hbA hS (by unfold vp_in; decide) dL_law_751 ?_
  refine lv_aload_n hx hb dL_law_752 rfl (lv_at hl 0 rfl) ?_
  refine lv_iload hx hb dL_law_753 (lv_at hl 4 rfl) ?_
  refine lv_iconst (v := 3) hx hb dL_law_755 (by decide) ?_
  refine lv_iadd hx hb dL_law_756 ?_
  refine va_sld hx hb hX hbl hbA hS (by unfold vp_in; decide) dL_law_757 ?_
  refine lv_aload_n hx hb dL_law_758 rfl (lv_at hl 0 rfl) ?_
  refine lv_iload hx hb dL_law_759 (lv_at hl 4 rfl) ?_
  refine lv_iconst (v := 4) hx hb dL_law_761 (by decide) ?_
  refine lv_iadd hx hb dL_law_762 ?_
  refine va_sld hx hb hX hbl hbA hS (by unfold vp_in; decide) dL_law_763 ?_
  refine lv_aload_n hx hb dL_law_764 rfl (lv_at hl 0 rfl) ?_
  refine lv_iload hx hb dL_law_765 (lv_at hl 4 rfl) ?_
  refine lv_iconst (v := 5) hx hb dL_law_767 (by decide) ?_
  refine lv_iadd hx hb dL_law_768 ?_
  refine va_sld hx hb hX hbl hbA hS (by unfold vp_in; decide) dL_law_769 ?_
  refine lv_aload_n hx hb dL_law_770 rfl (lv_at hl 0 rfl) ?_
  refine lv_iload hx hb dL_law_771 (lv_at hl 4 rfl) ?_
  refine lv_bipush (v := 6) hx hb dL_law_773 (by decide) ?_
  refine lv_iadd hx hb dL_law_775 ?_
  refine va_sld hx hb hX hbl hbA hS (by unfold vp_in; decide) dL_law_776 ?_
  refine lv_aload_n hx hb dL_law_777 rfl (lv_at hl 3 rfl) ?_
  have hFc := va_free (wc := [(a0, .inr (8, [.ref a1, .ref aT])), (a1, .inr (5, [.ref a2, .ref b1, .ref b2, .ref b3, .ref b4, .ref b5, .int 0, .int 1, .int 0, .int 0, .int 0, .int 0])), (a2, .inr (2, [.ref b6, .int 0, .ref b7, .int 0])), (o0, .inl (cy 1, 1, .inr (.inl ((fun _ => 0)))))]) hD hS hA [0, 1, 2, 5] rfl
  refine vx_calli (vx_runSX (As := [.ref a0, .int (xs (0 + 1 : Int32).toNatClampNeg), .int (xs (0 + 2 : Int32).toNatClampNeg), .int (xs (0 + 3 : Int32).toNatClampNeg), .int (xs (0 + 4 : Int32).toNatClampNeg), .int (xs (0 + 5 : Int32).toNatClampNeg), .int (xs (0 + 6 : Int32).toNatClampNeg), .ref o0]) (rest := []) ⟨hx, hb, hml, hown, hts⟩ (tm_L_addFlow l hst dC dI cy a0 a1 a2 aT b1 b2 b3 b4 b5 b6 b7 o0 (xs (0 + 1 : Int32).toNatClampNeg) (xs (0 + 2 : Int32).toNatClampNeg) (xs (0 + 3 : Int32).toNatClampNeg) (xs (0 + 4 : Int32).toNatClampNeg) (xs (0 + 5 : Int32).toNatClampNeg) (xs (0 + 6 : Int32).toNatClampNeg) H.size) (tp_cwSW 8 hts tw_771 tw_772 tw_37 tw_773 rfl rfl (by decide +kernel) ⟨Nat.le_of_ble_eq_true rfl, Nat.le_of_ble_eq_true rfl⟩) ⟨tp_blind, fun U hU hW => ⟨rfl, tp_pay hK hP hD hE hZ hS [0, 1, 2, 5] (by decide) rfl hFc U hU hW⟩⟩ rfl rfl hl.1 rfl (lv_room (Nat.le_of_ble_eq_true rfl)) dL_law_778 ⟨(Nat.le_of_ble_eq_true rfl), (Nat.le_of_ble_eq_true rfl)⟩) hS (fun q _ h => hFc q h) hFc (fun q _ h => hFc q h) (fun E9 ce q9 u t H1 locs ht hvm hw hB hz1 hk1 hS hce hcv hcl => ?_) (fun r_1 u t H1 locs ht hvm hw hB hz1 hk1 hS => ?_)
  · obtain ⟨hE9, hB⟩ := hB
    exact hE9.elim
  · obtain rfl := hw
    obtain ⟨f_2, hP1, hD1⟩ := hB
    subst f_2
    rw [ht] at hP1
    obtain ⟨hP, hD⟩ := va_join (wr := [(m0, .inr (10, [.ref w0, .int 0])), (w0, .inr (9, [.int 0, .int 1, .int 0, .ref r_phases, .ref r_phase, .ref r_phaseTicks, .ref r_set, .ref r_least, .ref r_greatest, .int 0, .ref r_from, .ref r_to, .ref r_time, .ref r_room, .ref r_first, .ref r_rate, .ref r_cost, .ref r_isShut, .ref r_slowed, .ref r_row, .ref r_size, .ref r_came, .ref r_left, .ref r_mostQueue, .ref r_sumQueue, .ref r_turned, .int 0, .ref r_flowFrom, .ref r_flowTo, .ref r_kind, .ref r_start, .ref r_period, .ref r_count, .int 0, .ref r_flow, .ref r_began, .ref r_state, .ref r_link, .ref r_end, .ref r_gone, .ref r_trip, .ref r_delay, .ref r_way]))]) (w1 := [(o0, .inl (cy 1, 1, .inr (.inl ((fun _ => 0)))))]) hP hD [0, 1, 2, 5] [3, 4] rfl rfl (by decide) (by decide) hk1 hFc hP1 hD1
    generalize H1 = H at hP hS ⊢
    have hP : va_P (dC, dI) vwCl [(m0, .inr (10, [.ref w0, .int 0])), (w0, .inr (9, [.int 0, .int 1, .int 0, .ref r_phases, .ref r_phase, .ref r_phaseTicks, .ref r_set, .ref r_least, .ref r_greatest, .int 0, .ref r_from, .ref r_to, .ref r_time, .ref r_room, .ref r_first, .ref r_rate, .ref r_cost, .ref r_isShut, .ref r_slowed, .ref r_row, .ref r_size, .ref r_came, .ref r_left, .ref r_mostQueue, .ref r_sumQueue, .ref r_turned, .int 0, .ref r_flowFrom, .ref r_flowTo, .ref r_kind, .ref r_start, .ref r_period, .ref r_count, .int 0, .ref r_flow, .ref r_began, .ref r_state, .ref r_link, .ref r_end, .ref r_gone, .ref r_trip, .ref r_delay, .ref r_way])), (o0, .inl (cy 1, 1, .inr (.inl ((fun _ => 0)))))] _ := hP
    have hD : va_D A [(m0, .inr (10, [.ref w0, .int 0])), (w0, .inr (9, [.int 0, .int 1, .int 0, .ref r_phases, .ref r_phase, .ref r_phaseTicks, .ref r_set, .ref r_least, .ref r_greatest, .int 0, .ref r_from, .ref r_to, .ref r_time, .ref r_room, .ref r_first, .ref r_rate, .ref r_cost, .ref r_isShut, .ref r_slowed, .ref r_row, .ref r_size, .ref r_came, .ref r_left, .ref r_mostQueue, .ref r_sumQueue, .ref r_turned, .int 0, .ref r_flowFrom, .ref r_flowTo, .ref r_kind, .ref r_start, .ref r_period, .ref r_count, .int 0, .ref r_flow, .ref r_began, .ref r_state, .ref r_link, .ref r_end, .ref r_gone, .ref r_trip, .ref r_delay, .ref r_way])), (o0, .inl (cy 1, 1, .inr (.inl ((fun _ => 0)))))] := hD
    refine lv_istore (lv' := [(5, .int 1), (0, .ref b), (1, .ref a0), (2, .ref m0), (3, .ref o0), (4, .int 0)]) hx hb dL_law_781 hl (by decide) rfl (fun ls hl => ?_)
    refine lv_aload_n hx hb dL_law_783 rfl (lv_at hl 3 rfl) ?_
    refine lv_aload_n hx hb dL_law_784 rfl (lv_at hl 1 rfl) ?_
    refine lv_iload hx hb dL_law_785 (lv_at hl 5 rfl) ?_
    refine lv_iconst (v := 1) hx hb dL_law_787 (by decide) ?_
    refine lv_iadd hx hb dL_law_788 ?_
    refine va_sld hx hb hX hbl hbA hS (by unfold vp_in; decide) dL_law_789 ?_
    refine lv_aload_n hx hb dL_law_790 rfl (lv_at hl 1 rfl) ?_
    refine lv_iload hx hb dL_law_791 (lv_at hl 5 rfl) ?_
    refine lv_iconst (v := 2) hx hb dL_law_793 (by decide) ?_
    refine lv_iadd hx hb dL_law_794 ?_
    refine va_sld hx hb hX hbl hbA hS (by unfold vp_in; decide) dL_law_795 ?_
    refine lv_aload_n hx hb dL_law_796 rfl (lv_at hl 1 rfl) ?_
    refine lv_iload hx hb dL_law_797 (lv_at hl 5 rfl) ?_
    refine lv_iconst (v := 3) hx hb dL_law_799 (by decide) ?_
    refine lv_iadd hx hb dL_law_800 ?_
    refine va_sld hx hb hX hbl hbA hS (by unfold vp_in; decide) dL_law_801 ?_
    refine lv_aload_n hx hb dL_law_802 rfl (lv_at hl 1 rfl) ?_
    refine lv_iload hx hb dL_law_803 (lv_at hl 5 rfl) ?_
    refine lv_iconst (v := 4) hx hb dL_law_805 (by decide) ?_
    refine lv_iadd hx hb dL_law_806 ?_
    refine va_sld hx hb hX hbl hbA hS (by unfold vp_in; decide) dL_law_807 ?_
    refine lv_aload_n hx hb dL_law_808 rfl (lv_at hl 1 rfl) ?_
    refine lv_iload hx hb dL_law_809 (lv_at hl 5 rfl) ?_
    refine lv_iconst (v := 5) hx hb dL_law_811 (by decide) ?_
    refine lv_iadd hx hb dL_law_812 ?_
    refine va_sld hx hb hX hbl hbA hS (by unfold vp_in; decide) dL_law_813 ?_
    refine lv_aload_n hx hb dL_law_814 rfl (lv_at hl 1 rfl) ?_
    refine lv_iload hx hb dL_law_815 (lv_at hl 5 rfl) ?_
    refine lv_bipush (v := 6) hx hb dL_law_817 (by decide) ?_
    refine lv_iadd hx hb dL_law_819 ?_
    refine va_sld hx hb hX hbl hbA hS (by unfold vp_in; decide) dL_law_820 ?_
    have hFc := va_free (wc := [(m0, .inr (10, [.ref w0, .int 0])), (w0, .inr (9, [.int 0, .int 1, .int 0, .ref r_phases, .ref r_phase, .ref r_phaseTicks, .ref r_set, .ref r_least, .ref r_greatest, .int 0, .ref r_from, .ref r_to, .ref r_time, .ref r_room, .ref r_first, .ref r_rate, .ref r_cost, .ref r_isShut, .ref r_slowed, .ref r_row, .ref r_size, .ref r_came, .ref r_left, .ref r_mostQueue, .ref r_sumQueue, .ref r_turned, .int 0, .ref r_flowFrom, .ref r_flowTo, .ref r_kind, .ref r_start, .ref r_period, .ref r_count, .int 0, .ref r_flow, .ref r_began, .ref r_state, .ref r_link, .ref r_end, .ref r_gone, .ref r_trip, .ref r_delay, .ref r_way]))]) hD hS hA [0, 1] rfl
    refine va_calli (va_runV (As := [.int (xs (0 + 1 : Int32).toNatClampNeg), .int (xs (0 + 2 : Int32).toNatClampNeg), .int (xs (0 + 3 : Int32).toNatClampNeg), .int (xs (0 + 4 : Int32).toNatClampNeg), .int (xs (0 + 5 : Int32).toNatClampNeg), .int (xs (0 + 6 : Int32).toNatClampNeg)]) (rest := []) ⟨hx, hb, hml, hown, hts⟩ (tm_m_addFlow l hst dC dI cy m0 w0 0 r_phases r_phase r_phaseTicks r_set r_least r_greatest r_from r_to r_time r_room r_first r_rate r_cost r_isShut r_slowed r_row r_size r_came r_left r_mostQueue r_sumQueue r_turned r_flowFrom r_flowTo r_kind r_start r_period r_count r_flow r_began r_state r_link r_end r_gone r_trip r_delay r_way (xs (0 + 1 : Int32).toNatClampNeg) (xs (0 + 2 : Int32).toNatClampNeg) (xs (0 + 3 : Int32).toNatClampNeg) (xs (0 + 4 : Int32).toNatClampNeg) (xs (0 + 5 : Int32).toNatClampNeg) (xs (0 + 6 : Int32).toNatClampNeg) H.size) (tp_cwV 6 hts tw_1368 tw_1369 tw_1370 tw_48 tw_1371 rfl rfl (by decide +kernel) ⟨Nat.le_of_ble_eq_true rfl, Nat.le_of_ble_eq_true rfl⟩) ⟨tp_blind, va_recv hK hP (ci := 10) (q0 := 0) rfl rfl, fun U hU hW => ⟨rfl, tp_pay hK hP hD hE hZ hS [0, 1] (by decide) rfl hFc U hU hW⟩⟩ rfl rfl hl.1 rfl (lv_room (Nat.le_of_ble_eq_true rfl)) dL_law_821 ⟨(Nat.le_of_ble_eq_true rfl), (Nat.le_of_ble_eq_true rfl)⟩) hS (fun q _ h => hFc q h) hFc (fun r_3 u t H1 locs ht hvm hw hB hz1 hk1 hS => ?_)
    obtain rfl := hw
    obtain ⟨f_4, hP1, hD1⟩ := hB
    subst f_4
    rw [ht] at hP1
    obtain ⟨hP, hD⟩ := va_join (wr := [(o0, .inl (cy 1, 1, .inr (.inl ((fun _ => 0)))))]) (w1 := [(m0, .inr (10, [.ref w0, .int 1]))]) hP hD [0, 1] [2] rfl rfl (by decide) (by decide) hk1 hFc hP1 hD1
    generalize H1 = H at hP hS ⊢
    have hP : va_P (dC, dI) vwCl [(o0, .inl (cy 1, 1, .inr (.inl ((fun _ => 0))))), (m0, .inr (10, [.ref w0, .int 1]))] _ := hP
    have hD : va_D A [(o0, .inl (cy 1, 1, .inr (.inl ((fun _ => 0))))), (m0, .inr (10, [.ref w0, .int 1]))] := hD
    refine lv_istore (lv' := [(6, .int 0), (5, .int 1), (0, .ref b), (1, .ref a0), (2, .ref m0), (3, .ref o0), (4, .int 0)]) hx hb dL_law_824 hl (by decide) rfl (fun ls hl => ?_)
    refine lv_aload_n hx hb dL_law_826 rfl (lv_at hl 4 rfl) ?_
    have hFc := va_free (wc := [(m0, .inr (10, [.ref w0, .int 1]))]) hD hS hA [1] rfl
    refine va_calli (va_runV (As := []) (rest := []) ⟨hx, hb, hml, hown, hts⟩ (tm_m_thrown l hst dC dI cy m0 w0 1 H.size) (tp_cwV 0 hts tw_1317 tw_1318 tw_1319 tw_48 tw_1320 rfl rfl (by decide +kernel) ⟨Nat.le_of_ble_eq_true rfl, Nat.le_of_ble_eq_true rfl⟩) ⟨tp_blind, va_recv hK hP (ci := 10) (q0 := 1) rfl rfl, fun U hU hW => ⟨rfl, tp_pay hK hP hD hE hZ hS [1] (by decide) rfl hFc U hU hW⟩⟩ rfl rfl hl.1 rfl (lv_room (Nat.le_of_ble_eq_true rfl)) dL_law_827 ⟨(Nat.le_of_ble_eq_true rfl), (Nat.le_of_ble_eq_true rfl)⟩) hS (fun q _ h => hFc q h) hFc (fun r_5 u t H1 locs ht hvm hw hB hz1 hk1 hS => ?_)
    obtain rfl := hw
    obtain ⟨f_6, hP1, hD1⟩ := hB
    subst f_6
    rw [ht] at hP1
    obtain ⟨hP, hD⟩ := va_join (wr := [(o0, .inl (cy 1, 1, .inr (.inl ((fun _ => 0)))))]) (w1 := [(m0, .inr (10, [.ref w0, .int 1]))]) hP hD [1] [0] rfl rfl (by decide) (by decide) hk1 hFc hP1 hD1
    generalize H1 = H at hP hS ⊢
    have hP : va_P (dC, dI) vwCl [(o0, .inl (cy 1, 1, .inr (.inl ((fun _ => 0))))), (m0, .inr (10, [.ref w0, .int 1]))] _ := hP
    have hD : va_D A [(o0, .inl (cy 1, 1, .inr (.inl ((fun _ => 0))))), (m0, .inr (10, [.ref w0, .int 1]))] := hD
    refine lv_iload hx hb dL_law_830 (lv_at hl 1 rfl) ?_
    refine lv_icmp_eq (tgt := 837) hx hb dL_law_832 (by decide) (fun _ => ?_) (fun c_7 => absurd rfl c_7)
    refine lv_iload hx hb dL_law_837 (lv_at hl 1 rfl) ?_
    refine lv_if_ne (tgt := 854) hx hb dL_law_839 (by decide) (fun _ => ?_) (fun c_8 => absurd c_8 (by decide))
    refine lv_goto (tgt := 2504) hx hb dL_law_854 (by decide) ?_
    exact tc_end hd0 hs C1 hX (Nat.le_of_ble_eq_true rfl) (Nat.le_of_ble_eq_true rfl) H _ ls hS (lv_sub hl [2, 6] rfl)
theorem tw_785 : Cond.codeWith yL_step cL_step 4 (some .int) [(0, 9, 12, 21)] ∈ tp_all := tp_mem 785 (by decide +kernel) rfl
theorem tw_783 : Cond.methodLink RL 163 yL_step ∈ tp_all := tp_mem 783 (by decide +kernel) rfl
theorem tw_784 : Cond.static yL_step ∈ tp_all := tp_mem 784 (by decide +kernel) rfl
theorem tw_1375 : Cond.code yX10_step cX10_step 3 (some .int) ∈ tp_all := tp_mem 1375 (by decide +kernel) rfl
theorem tw_1372 : Cond.methodLink RL 165 yX10_step ∈ tp_all := tp_mem 1372 (by decide +kernel) rfl
theorem tw_1373 : Cond.instanceMethod yX10_step ∈ tp_all := tp_mem 1373 (by decide +kernel) rfl
theorem tw_1374 : Cond.selects RX10 yX10_step yX10_step ∈ tp_all := tp_mem 1374 (by decide +kernel) rfl
theorem dL_law_857 : decode cL_law 857 = .ok (.aload_n 1, 1) := by decide +kernel
theorem dL_law_858 : decode cL_law 858 = .ok (.aload_n 0, 1) := by decide +kernel
theorem dL_law_859 : decode cL_law 859 = .ok (.iload 4, 2) := by decide +kernel
theorem dL_law_861 : decode cL_law 861 = .ok (.iconst 1, 1) := by decide +kernel
theorem dL_law_862 : decode cL_law 862 = .ok (.iadd, 1) := by decide +kernel
theorem dL_law_863 : decode cL_law 863 = .ok (.iaload, 1) := by decide +kernel
theorem dL_law_864 : decode cL_law 864 = .ok (.aload_n 3, 1) := by decide +kernel
theorem dL_law_865 : decode cL_law 865 = .ok (.invokestatic 163, 3) := by decide +kernel
theorem dL_law_868 : decode cL_law 868 = .ok (.istore 5, 2) := by decide +kernel
theorem dL_law_870 : decode cL_law 870 = .ok (.aload_n 2, 1) := by decide +kernel
theorem dL_law_871 : decode cL_law 871 = .ok (.aload_n 0, 1) := by decide +kernel
theorem dL_law_872 : decode cL_law 872 = .ok (.iload 4, 2) := by decide +kernel
theorem dL_law_874 : decode cL_law 874 = .ok (.iconst 1, 1) := by decide +kernel
theorem dL_law_875 : decode cL_law 875 = .ok (.iadd, 1) := by decide +kernel
theorem dL_law_876 : decode cL_law 876 = .ok (.iaload, 1) := by decide +kernel
theorem dL_law_877 : decode cL_law 877 = .ok (.invokevirtual 165, 3) := by decide +kernel
theorem dL_law_880 : decode cL_law 880 = .ok (.istore 6, 2) := by decide +kernel
theorem dL_law_882 : decode cL_law 882 = .ok (.aload_n 2, 1) := by decide +kernel
theorem dL_law_883 : decode cL_law 883 = .ok (.invokevirtual 133, 3) := by decide +kernel
theorem dL_law_886 : decode cL_law 886 = .ok (.iload 5, 2) := by decide +kernel
theorem dL_law_888 : decode cL_law 888 = .ok (.if_icmp .eq 5, 3) := by decide +kernel
theorem dL_law_893 : decode cL_law 893 = .ok (.iload 5, 2) := by decide +kernel
theorem dL_law_895 : decode cL_law 895 = .ok (.ifCond .ne 15, 3) := by decide +kernel
theorem dL_law_898 : decode cL_law 898 = .ok (.aload_n 3, 1) := by decide +kernel
theorem dL_law_899 : decode cL_law 899 = .ok (.iconst 0, 1) := by decide +kernel
theorem dL_law_900 : decode cL_law 900 = .ok (.laload, 1) := by decide +kernel
theorem dL_law_901 : decode cL_law 901 = .ok (.iload 6, 2) := by decide +kernel
theorem dL_law_903 : decode cL_law 903 = .ok (.i2l, 1) := by decide +kernel
theorem dL_law_904 : decode cL_law 904 = .ok (.lcmp, 1) := by decide +kernel
theorem dL_law_905 : decode cL_law 905 = .ok (.ifCond .eq 5, 3) := by decide +kernel
theorem dL_law_910 : decode cL_law 910 = .ok (.goto 1594, 3) := by decide +kernel
set_option maxRecDepth 100000 in
set_option maxHeartbeats 4000000 in
/-- the case 8 in -/
theorem tc_8_in {p : Program} {l : Launch} {e : Env} {s0 s : State} {m : MethodId} {below : List Frame} {meth : Method} {c : Code} {A : Nat → Prop} (hst : l.stackTraces = false) {dC : Nat → ClassId} {dI : Nat → Nat → Nat} {cy : Nat → ClassId} {b : Nat} {xs : Nat → Int32} {d0 : Drawn} (hd0 : s0.drawn.sameBut d0 lw_cs) (hs : s = s0.setDrawn d0) (C1 : tc_At p s m meth c b #[Value.ref b] A dC dI cy) (hX : va_X b 7 xs s s.heap) {a0 : Nat} {a1 : Nat} {a2 : Nat} {aT : Nat} {b1 : Nat} {b2 : Nat} {b3 : Nat} {b4 : Nat} {b5 : Nat} {b6 : Nat} {b7 : Nat} {m0 : Nat} {w0 : Nat} {o0 : Nat} {r_phases : Nat} {r_phase : Nat} {r_phaseTicks : Nat} {r_set : Nat} {r_least : Nat} {r_greatest : Nat} {r_from : Nat} {r_to : Nat} {r_time : Nat} {r_room : Nat} {r_first : Nat} {r_rate : Nat} {r_cost : Nat} {r_isShut : Nat} {r_slowed : Nat} {r_row : Nat} {r_size : Nat} {r_came : Nat} {r_left : Nat} {r_mostQueue : Nat} {r_sumQueue : Nat} {r_turned : Nat} {r_flowFrom : Nat} {r_flowTo : Nat} {r_kind : Nat} {r_start : Nat} {r_period : Nat} {r_count : Nat} {r_flow : Nat} {r_began : Nat} {r_state : Nat} {r_link : Nat} {r_end : Nat} {r_gone : Nat} {r_trip : Nat} {r_delay : Nat} {r_way : Nat} (hc : (1 : Int32) ≤ xs (0 + 1 : Int32).toNatClampNeg ∧ xs (0 + 1 : Int32).toNatClampNeg ≤ 60) (H : Heap) (locs : List Loc) (ls : Array Slot) (hP : va_P (dC, dI) vwCl [(a0, .inr (8, [.ref a1, .ref aT])), (a1, .inr (5, [.ref a2, .ref b1, .ref b2, .ref b3, .ref b4, .ref b5, .int 0, .int 1, .int 0, .int 0, .int 0, .int 0])), (a2, .inr (2, [.ref b6, .int 0, .ref b7, .int 0])), (m0, .inr (10, [.ref w0, .int 0])), (w0, .inr (9, [.int 0, .int 1, .int 0, .ref r_phases, .ref r_phase, .ref r_phaseTicks, .ref r_set, .ref r_least, .ref r_greatest, .int 0, .ref r_from, .ref r_to, .ref r_time, .ref r_room, .ref r_first, .ref r_rate, .ref r_cost, .ref r_isShut, .ref r_slowed, .ref r_row, .ref r_size, .ref r_came, .ref r_left, .ref r_mostQueue, .ref r_sumQueue, .ref r_turned, .int 0, .ref r_flowFrom, .ref r_flowTo, .ref r_kind, .ref r_start, .ref r_period, .ref r_count, .int 0, .ref r_flow, .ref r_began, .ref r_state, .ref r_link, .ref r_end, .ref r_gone, .ref r_trip, .ref r_delay, .ref r_way])), (o0, .inl (cy 1, 1, .inr (.inl ((fun _ => 0)))))] H) (hD : va_D A [(a0, .inr (8, [.ref a1, .ref aT])), (a1, .inr (5, [.ref a2, .ref b1, .ref b2, .ref b3, .ref b4, .ref b5, .int 0, .int 1, .int 0, .int 0, .int 0, .int 0])), (a2, .inr (2, [.ref b6, .int 0, .ref b7, .int 0])), (m0, .inr (10, [.ref w0, .int 0])), (w0, .inr (9, [.int 0, .int 1, .int 0, .ref r_phases, .ref r_phase, .ref r_phaseTicks, .ref r_set, .ref r_least, .ref r_greatest, .int 0, .ref r_from, .ref r_to, .ref r_time, .ref r_room, .ref r_first, .ref r_rate, .ref r_cost, .ref r_isShut, .ref r_slowed, .ref r_row, .ref r_size, .ref r_came, .ref r_left, .ref r_mostQueue, .ref r_sumQueue, .ref r_turned, .int 0, .ref r_flowFrom, .ref r_flowTo, .ref r_kind, .ref r_start, .ref r_period, .ref r_count, .int 0, .ref r_flow, .ref r_began, .ref r_state, .ref r_link, .ref r_end, .ref r_gone, .ref r_trip, .ref r_delay, .ref r_way])), (o0, .inl (cy 1, 1, .inr (.inl ((fun _ => 0)))))]) (hS : va_S A s.heap H locs) (hl : lv_has ls 9 [(0, .ref b), (1, .ref a0), (2, .ref m0), (3, .ref o0), (4, .int 0)]) : W p l e room_1 s m #[Value.ref b] below meth c H locs 1535 31585 (lw_Z below #[Value.ref b] s0) (F0 m 857 ls []) := by
  have C2 := C1
  obtain ⟨hx, hb, hr, hml, hown, hts, hbl, hlocks, hK, hE, hZ, hA, hbA, hA2⟩ := C2
  obtain ⟨n, hn, ex⟩ := nI_of2 (M := 60) (n := 60) (by decide) (tp_nlt (Int32.le_trans (by decide) hc.1)) hc.2
  rw [ex] at hc
  refine lv_aload_n hx hb dL_law_857 rfl (lv_at hl 1 rfl) ?_
  refine lv_aload_n hx hb dL_law_858 rfl (lv_at hl 0 rfl) ?_
  refine lv_iload hx hb dL_law_859 (lv_at hl 4 rfl) ?_
  refine lv_iconst (v := 1) hx hb dL_law_861 (by decide) ?_
  refine lv_iadd hx hb dL_law_862 ?_
  refine va_sld hx hb hX hbl hbA hS (by unfold vp_in; decide) dL_law_863 ?_
  rw [ex]
  refine lv_aload_n hx hb dL_law_864 rfl (lv_at hl 3 rfl) ?_
  have hFc := va_free (wc := [(a0, .inr (8, [.ref a1, .ref aT])), (a1, .inr (5, [.ref a2, .ref b1, .ref b2, .ref b3, .ref b4, .ref b5, .int 0, .int 1, .int 0, .int 0, .int 0, .int 0])), (a2, .inr (2, [.ref b6, .int 0, .ref b7, .int 0])), (o0, .inl (cy 1, 1, .inr (.inl ((fun _ => 0)))))]) hD hS hA [0, 1, 2, 5] rfl
  refine vx_calli (vx_runSX (As := [.ref a0, .int (nI n), .ref o0]) (rest := []) ⟨hx, hb, hml, hown, hts⟩ (tm_L_step_in l hst dC dI cy a0 a1 a2 aT b1 b2 b3 b4 b5 b6 b7 o0 n H.size (by first | assumption | exact tp_none _ | decide | omega) (by first | assumption | exact tp_none _ | decide | omega)) (tp_cwSW 3 hts tw_783 tw_784 tw_37 tw_785 rfl rfl (by decide +kernel) ⟨Nat.le_of_ble_eq_true rfl, Nat.le_of_ble_eq_true rfl⟩) ⟨tp_blind, fun U hU hW => ⟨rfl, tp_pay hK hP hD hE hZ hS [0, 1, 2, 5] (by decide) rfl hFc U hU hW⟩⟩ rfl rfl hl.1 rfl (lv_room (Nat.le_of_ble_eq_true rfl)) dL_law_865 ⟨(Nat.le_of_ble_eq_true rfl), (Nat.le_of_ble_eq_true rfl)⟩) hS (fun q _ h => hFc q h) hFc (fun q _ h => hFc q h) (fun E9 ce q9 u t H1 locs ht hvm hw hB hz1 hk1 hS hce hcv hcl => ?_) (fun r_1 u t H1 locs ht hvm hw hB hz1 hk1 hS => ?_)
  · obtain ⟨hE9, hB⟩ := hB
    exact hE9.elim
  · obtain rfl := hw
    obtain ⟨z_2, f_3, f_4, hP1, hD1⟩ := hB
    subst f_3
    rw [ht] at hP1
    obtain ⟨hP, hD⟩ := va_join (wr := [(m0, .inr (10, [.ref w0, .int 0])), (w0, .inr (9, [.int 0, .int 1, .int 0, .ref r_phases, .ref r_phase, .ref r_phaseTicks, .ref r_set, .ref r_least, .ref r_greatest, .int 0, .ref r_from, .ref r_to, .ref r_time, .ref r_room, .ref r_first, .ref r_rate, .ref r_cost, .ref r_isShut, .ref r_slowed, .ref r_row, .ref r_size, .ref r_came, .ref r_left, .ref r_mostQueue, .ref r_sumQueue, .ref r_turned, .int 0, .ref r_flowFrom, .ref r_flowTo, .ref r_kind, .ref r_start, .ref r_period, .ref r_count, .int 0, .ref r_flow, .ref r_began, .ref r_state, .ref r_link, .ref r_end, .ref r_gone, .ref r_trip, .ref r_delay, .ref r_way]))]) (w1 := [(o0, .inl (cy 1, 1, .inr (.inl z_2)))]) hP hD [0, 1, 2, 5] [3, 4] rfl rfl (by decide) (by decide) hk1 hFc hP1 hD1
    generalize H1 = H at hP hS ⊢
    have hP : va_P (dC, dI) vwCl [(m0, .inr (10, [.ref w0, .int 0])), (w0, .inr (9, [.int 0, .int 1, .int 0, .ref r_phases, .ref r_phase, .ref r_phaseTicks, .ref r_set, .ref r_least, .ref r_greatest, .int 0, .ref r_from, .ref r_to, .ref r_time, .ref r_room, .ref r_first, .ref r_rate, .ref r_cost, .ref r_isShut, .ref r_slowed, .ref r_row, .ref r_size, .ref r_came, .ref r_left, .ref r_mostQueue, .ref r_sumQueue, .ref r_turned, .int 0, .ref r_flowFrom, .ref r_flowTo, .ref r_kind, .ref r_start, .ref r_period, .ref r_count, .int 0, .ref r_flow, .ref r_began, .ref r_state, .ref r_link, .ref r_end, .ref r_gone, .ref r_trip, .ref r_delay, .ref r_way])), (o0, .inl (cy 1, 1, .inr (.inl z_2)))] _ := hP
    have hD : va_D A [(m0, .inr (10, [.ref w0, .int 0])), (w0, .inr (9, [.int 0, .int 1, .int 0, .ref r_phases, .ref r_phase, .ref r_phaseTicks, .ref r_set, .ref r_least, .ref r_greatest, .int 0, .ref r_from, .ref r_to, .ref r_time, .ref r_room, .ref r_first, .ref r_rate, .ref r_cost, .ref r_isShut, .ref r_slowed, .ref r_row, .ref r_size, .ref r_came, .ref r_left, .ref r_mostQueue, .ref r_sumQueue, .ref r_turned, .int 0, .ref r_flowFrom, .ref r_flowTo, .ref r_kind, .ref r_start, .ref r_period, .ref r_count, .int 0, .ref r_flow, .ref r_began, .ref r_state, .ref r_link, .ref r_end, .ref r_gone, .ref r_trip, .ref r_delay, .ref r_way])), (o0, .inl (cy 1, 1, .inr (.inl z_2)))] := hD
    refine lv_istore (lv' := [(5, .int 0), (0, .ref b), (1, .ref a0), (2, .ref m0), (3, .ref o0), (4, .int 0)]) hx hb dL_law_868 hl (by decide) rfl (fun ls hl => ?_)
    refine lv_aload_n hx hb dL_law_870 rfl (lv_at hl 3 rfl) ?_
    refine lv_aload_n hx hb dL_law_871 rfl (lv_at hl 1 rfl) ?_
    refine lv_iload hx hb dL_law_872 (lv_at hl 5 rfl) ?_
    refine lv_iconst (v := 1) hx hb dL_law_874 (by decide) ?_
    refine lv_iadd hx hb dL_law_875 ?_
    refine va_sld hx hb hX hbl hbA hS (by unfold vp_in; decide) dL_law_876 ?_
    rw [ex]
    have hFc := va_free (wc := [(m0, .inr (10, [.ref w0, .int 0])), (w0, .inr (9, [.int 0, .int 1, .int 0, .ref r_phases, .ref r_phase, .ref r_phaseTicks, .ref r_set, .ref r_least, .ref r_greatest, .int 0, .ref r_from, .ref r_to, .ref r_time, .ref r_room, .ref r_first, .ref r_rate, .ref r_cost, .ref r_isShut, .ref r_slowed, .ref r_row, .ref r_size, .ref r_came, .ref r_left, .ref r_mostQueue, .ref r_sumQueue, .ref r_turned, .int 0, .ref r_flowFrom, .ref r_flowTo, .ref r_kind, .ref r_start, .ref r_period, .ref r_count, .int 0, .ref r_flow, .ref r_began, .ref r_state, .ref r_link, .ref r_end, .ref r_gone, .ref r_trip, .ref r_delay, .ref r_way]))]) hD hS hA [0, 1] rfl
    refine va_calli (va_runV (As := [.int (nI n)]) (rest := []) ⟨hx, hb, hml, hown, hts⟩ (tm_m_step_in l hst dC dI cy m0 w0 0 r_phases r_phase r_phaseTicks r_set r_least r_greatest r_from r_to r_time r_room r_first r_rate r_cost r_isShut r_slowed r_row r_size r_came r_left r_mostQueue r_sumQueue r_turned r_flowFrom r_flowTo r_kind r_start r_period r_count r_flow r_began r_state r_link r_end r_gone r_trip r_delay r_way n H.size (by first | assumption | exact tp_none _ | decide | omega) (by first | assumption | exact tp_none _ | decide | omega)) (tp_cwV 1 hts tw_1372 tw_1373 tw_1374 tw_48 tw_1375 rfl rfl (by decide +kernel) ⟨Nat.le_of_ble_eq_true rfl, Nat.le_of_ble_eq_true rfl⟩) ⟨tp_blind, va_recv hK hP (ci := 10) (q0 := 0) rfl rfl, fun U hU hW => ⟨rfl, tp_pay hK hP hD hE hZ hS [0, 1] (by decide) rfl hFc U hU hW⟩⟩ rfl rfl hl.1 rfl (lv_room (Nat.le_of_ble_eq_true rfl)) dL_law_877 ⟨(Nat.le_of_ble_eq_true rfl), (Nat.le_of_ble_eq_true rfl)⟩) hS (fun q _ h => hFc q h) hFc (fun r_5 u t H1 locs ht hvm hw hB hz1 hk1 hS => ?_)
    obtain rfl := hw
    obtain ⟨f_6, hP1, hD1⟩ := hB
    subst f_6
    rw [ht] at hP1
    obtain ⟨hP, hD⟩ := va_join (wr := [(o0, .inl (cy 1, 1, .inr (.inl z_2)))]) (w1 := [(m0, .inr (10, [.ref w0, .int 0]))]) hP hD [0, 1] [2] rfl rfl (by decide) (by decide) hk1 hFc hP1 hD1
    generalize H1 = H at hP hS ⊢
    have hP : va_P (dC, dI) vwCl [(o0, .inl (cy 1, 1, .inr (.inl z_2))), (m0, .inr (10, [.ref w0, .int 0]))] _ := hP
    have hD : va_D A [(o0, .inl (cy 1, 1, .inr (.inl z_2))), (m0, .inr (10, [.ref w0, .int 0]))] := hD
    refine lv_istore (lv' := [(6, .int (nI n)), (5, .int 0), (0, .ref b), (1, .ref a0), (2, .ref m0), (3, .ref o0), (4, .int 0)]) hx hb dL_law_880 hl (by decide) rfl (fun ls hl => ?_)
    refine lv_aload_n hx hb dL_law_882 rfl (lv_at hl 4 rfl) ?_
    have hFc := va_free (wc := [(m0, .inr (10, [.ref w0, .int 0]))]) hD hS hA [1] rfl
    refine va_calli (va_runV (As := []) (rest := []) ⟨hx, hb, hml, hown, hts⟩ (tm_m_thrown l hst dC dI cy m0 w0 0 H.size) (tp_cwV 0 hts tw_1317 tw_1318 tw_1319 tw_48 tw_1320 rfl rfl (by decide +kernel) ⟨Nat.le_of_ble_eq_true rfl, Nat.le_of_ble_eq_true rfl⟩) ⟨tp_blind, va_recv hK hP (ci := 10) (q0 := 1) rfl rfl, fun U hU hW => ⟨rfl, tp_pay hK hP hD hE hZ hS [1] (by decide) rfl hFc U hU hW⟩⟩ rfl rfl hl.1 rfl (lv_room (Nat.le_of_ble_eq_true rfl)) dL_law_883 ⟨(Nat.le_of_ble_eq_true rfl), (Nat.le_of_ble_eq_true rfl)⟩) hS (fun q _ h => hFc q h) hFc (fun r_7 u t H1 locs ht hvm hw hB hz1 hk1 hS => ?_)
    obtain rfl := hw
    obtain ⟨f_8, hP1, hD1⟩ := hB
    subst f_8
    rw [ht] at hP1
    obtain ⟨hP, hD⟩ := va_join (wr := [(o0, .inl (cy 1, 1, .inr (.inl z_2)))]) (w1 := [(m0, .inr (10, [.ref w0, .int 0]))]) hP hD [1] [0] rfl rfl (by decide) (by decide) hk1 hFc hP1 hD1
    generalize H1 = H at hP hS ⊢
    have hP : va_P (dC, dI) vwCl [(o0, .inl (cy 1, 1, .inr (.inl z_2))), (m0, .inr (10, [.ref w0, .int 0]))] _ := hP
    have hD : va_D A [(o0, .inl (cy 1, 1, .inr (.inl z_2))), (m0, .inr (10, [.ref w0, .int 0]))] := hD
    refine lv_iload hx hb dL_law_886 (lv_at hl 1 rfl) ?_
    refine lv_icmp_eq (tgt := 893) hx hb dL_law_888 (by decide) (fun _ => ?_) (fun c_9 => absurd rfl c_9)
    refine lv_iload hx hb dL_law_893 (lv_at hl 1 rfl) ?_
    refine lv_if_ne (tgt := 910) hx hb dL_law_895 (by decide) (fun c_10 => absurd (by decide) c_10) (fun _ => ?_)
    refine lv_aload_n hx hb dL_law_898 rfl (lv_at hl 5 rfl) ?_
    refine lv_iconst (v := 0) hx hb dL_law_899 (by decide) ?_
    refine va_lald hx hb hK hP 0 1 rfl rfl (by unfold vp_in; decide) dL_law_900 ?_
    rw [f_4]
    refine lv_iload hx hb dL_law_901 (lv_at hl 0 rfl) ?_
    refine lv_i2l (v := (nI n).toInt64) hx hb dL_law_903 rfl ?_
    refine W.lcmp hx hb dL_law_904 ?_
    refine lv_if_eq (tgt := 910) hx hb dL_law_905 (by decide) (fun _ => ?_) (fun c_11 => absurd (tp_cmp _) c_11)
    refine lv_goto (tgt := 2504) hx hb dL_law_910 (by decide) ?_
    exact tc_end hd0 hs C1 hX (Nat.le_of_ble_eq_true rfl) (Nat.le_of_ble_eq_true rfl) H _ ls hS (lv_sub hl [2, 6] rfl)
set_option maxRecDepth 100000 in
set_option maxHeartbeats 4000000 in
/-- the case 8 out -/
theorem tc_8_out {p : Program} {l : Launch} {e : Env} {s0 s : State} {m : MethodId} {below : List Frame} {meth : Method} {c : Code} {A : Nat → Prop} (hst : l.stackTraces = false) {dC : Nat → ClassId} {dI : Nat → Nat → Nat} {cy : Nat → ClassId} {b : Nat} {xs : Nat → Int32} {d0 : Drawn} (hd0 : s0.drawn.sameBut d0 lw_cs) (hs : s = s0.setDrawn d0) (C1 : tc_At p s m meth c b #[Value.ref b] A dC dI cy) (hX : va_X b 7 xs s s.heap) {a0 : Nat} {a1 : Nat} {a2 : Nat} {aT : Nat} {b1 : Nat} {b2 : Nat} {b3 : Nat} {b4 : Nat} {b5 : Nat} {b6 : Nat} {b7 : Nat} {m0 : Nat} {w0 : Nat} {o0 : Nat} {r_phases : Nat} {r_phase : Nat} {r_phaseTicks : Nat} {r_set : Nat} {r_least : Nat} {r_greatest : Nat} {r_from : Nat} {r_to : Nat} {r_time : Nat} {r_room : Nat} {r_first : Nat} {r_rate : Nat} {r_cost : Nat} {r_isShut : Nat} {r_slowed : Nat} {r_row : Nat} {r_size : Nat} {r_came : Nat} {r_left : Nat} {r_mostQueue : Nat} {r_sumQueue : Nat} {r_turned : Nat} {r_flowFrom : Nat} {r_flowTo : Nat} {r_kind : Nat} {r_start : Nat} {r_period : Nat} {r_count : Nat} {r_flow : Nat} {r_began : Nat} {r_state : Nat} {r_link : Nat} {r_end : Nat} {r_gone : Nat} {r_trip : Nat} {r_delay : Nat} {r_way : Nat} (hc : ¬ ((1 : Int32) ≤ xs (0 + 1 : Int32).toNatClampNeg ∧ xs (0 + 1 : Int32).toNatClampNeg ≤ 60)) (H : Heap) (locs : List Loc) (ls : Array Slot) (hP : va_P (dC, dI) vwCl [(a0, .inr (8, [.ref a1, .ref aT])), (a1, .inr (5, [.ref a2, .ref b1, .ref b2, .ref b3, .ref b4, .ref b5, .int 0, .int 1, .int 0, .int 0, .int 0, .int 0])), (a2, .inr (2, [.ref b6, .int 0, .ref b7, .int 0])), (m0, .inr (10, [.ref w0, .int 0])), (w0, .inr (9, [.int 0, .int 1, .int 0, .ref r_phases, .ref r_phase, .ref r_phaseTicks, .ref r_set, .ref r_least, .ref r_greatest, .int 0, .ref r_from, .ref r_to, .ref r_time, .ref r_room, .ref r_first, .ref r_rate, .ref r_cost, .ref r_isShut, .ref r_slowed, .ref r_row, .ref r_size, .ref r_came, .ref r_left, .ref r_mostQueue, .ref r_sumQueue, .ref r_turned, .int 0, .ref r_flowFrom, .ref r_flowTo, .ref r_kind, .ref r_start, .ref r_period, .ref r_count, .int 0, .ref r_flow, .ref r_began, .ref r_state, .ref r_link, .ref r_end, .ref r_gone, .ref r_trip, .ref r_delay, .ref r_way])), (o0, .inl (cy 1, 1, .inr (.inl ((fun _ => 0)))))] H) (hD : va_D A [(a0, .inr (8, [.ref a1, .ref aT])), (a1, .inr (5, [.ref a2, .ref b1, .ref b2, .ref b3, .ref b4, .ref b5, .int 0, .int 1, .int 0, .int 0, .int 0, .int 0])), (a2, .inr (2, [.ref b6, .int 0, .ref b7, .int 0])), (m0, .inr (10, [.ref w0, .int 0])), (w0, .inr (9, [.int 0, .int 1, .int 0, .ref r_phases, .ref r_phase, .ref r_phaseTicks, .ref r_set, .ref r_least, .ref r_greatest, .int 0, .ref r_from, .ref r_to, .ref r_time, .ref r_room, .ref r_first, .ref r_rate, .ref r_cost, .ref r_isShut, .ref r_slowed, .ref r_row, .ref r_size, .ref r_came, .ref r_left, .ref r_mostQueue, .ref r_sumQueue, .ref r_turned, .int 0, .ref r_flowFrom, .ref r_flowTo, .ref r_kind, .ref r_start, .ref r_period, .ref r_count, .int 0, .ref r_flow, .ref r_began, .ref r_state, .ref r_link, .ref r_end, .ref r_gone, .ref r_trip, .ref r_delay, .ref r_way])), (o0, .inl (cy 1, 1, .inr (.inl ((fun _ => 0)))))]) (hS : va_S A s.heap H locs) (hl : lv_has ls 9 [(0, .ref b), (1, .ref a0), (2, .ref m0), (3, .ref o0), (4, .int 0)]) : W p l e room_1 s m #[Value.ref b] below meth c H locs 1535 31585 (lw_Z below #[Value.ref b] s0) (F0 m 857 ls []) := by
  have C2 := C1
  obtain ⟨hx, hb, hr, hml, hown, hts, hbl, hlocks, hK, hE, hZ, hA, hbA, hA2⟩ := C2
  refine lv_aload_n hx hb dL_law_857 rfl (lv_at hl 1 rfl) ?_
  refine lv_aload_n hx hb dL_law_858 rfl (lv_at hl 0 rfl) ?_
  refine lv_iload hx hb dL_law_859 (lv_at hl 4 rfl) ?_
  refine lv_iconst (v := 1) hx hb dL_law_861 (by decide) ?_
  refine lv_iadd hx hb dL_law_862 ?_
  refine va_sld hx hb hX hbl hbA hS (by unfold vp_in; decide) dL_law_863 ?_
  refine lv_aload_n hx hb dL_law_864 rfl (lv_at hl 3 rfl) ?_
  have hFc := va_free (wc := [(a0, .inr (8, [.ref a1, .ref aT])), (a1, .inr (5, [.ref a2, .ref b1, .ref b2, .ref b3, .ref b4, .ref b5, .int 0, .int 1, .int 0, .int 0, .int 0, .int 0])), (a2, .inr (2, [.ref b6, .int 0, .ref b7, .int 0])), (o0, .inl (cy 1, 1, .inr (.inl ((fun _ => 0)))))]) hD hS hA [0, 1, 2, 5] rfl
  refine vx_calli (vx_runSX (As := [.ref a0, .int (xs (0 + 1 : Int32).toNatClampNeg), .ref o0]) (rest := []) ⟨hx, hb, hml, hown, hts⟩ (tm_L_step_out l hst dC dI cy a0 a1 a2 aT b1 b2 b3 b4 b5 b6 b7 o0 (xs (0 + 1 : Int32).toNatClampNeg) H.size (by first | assumption | exact tp_none _ | decide | omega)) (tp_cwSW 3 hts tw_783 tw_784 tw_37 tw_785 rfl rfl (by decide +kernel) ⟨Nat.le_of_ble_eq_true rfl, Nat.le_of_ble_eq_true rfl⟩) ⟨tp_blind, fun U hU hW => ⟨rfl, tp_pay hK hP hD hE hZ hS [0, 1, 2, 5] (by decide) rfl hFc U hU hW⟩⟩ rfl rfl hl.1 rfl (lv_room (Nat.le_of_ble_eq_true rfl)) dL_law_865 ⟨(Nat.le_of_ble_eq_true rfl), (Nat.le_of_ble_eq_true rfl)⟩) hS (fun q _ h => hFc q h) hFc (fun q _ h => hFc q h) (fun E9 ce q9 u t H1 locs ht hvm hw hB hz1 hk1 hS hce hcv hcl => ?_) (fun r_1 u t H1 locs ht hvm hw hB hz1 hk1 hS => ?_)
  · obtain ⟨hE9, hB⟩ := hB
    exact hE9.elim
  · obtain rfl := hw
    obtain ⟨f_2, hP1, hD1⟩ := hB
    subst f_2
    rw [ht] at hP1
    obtain ⟨hP, hD⟩ := va_join (wr := [(m0, .inr (10, [.ref w0, .int 0])), (w0, .inr (9, [.int 0, .int 1, .int 0, .ref r_phases, .ref r_phase, .ref r_phaseTicks, .ref r_set, .ref r_least, .ref r_greatest, .int 0, .ref r_from, .ref r_to, .ref r_time, .ref r_room, .ref r_first, .ref r_rate, .ref r_cost, .ref r_isShut, .ref r_slowed, .ref r_row, .ref r_size, .ref r_came, .ref r_left, .ref r_mostQueue, .ref r_sumQueue, .ref r_turned, .int 0, .ref r_flowFrom, .ref r_flowTo, .ref r_kind, .ref r_start, .ref r_period, .ref r_count, .int 0, .ref r_flow, .ref r_began, .ref r_state, .ref r_link, .ref r_end, .ref r_gone, .ref r_trip, .ref r_delay, .ref r_way]))]) (w1 := [(o0, .inl (cy 1, 1, .inr (.inl ((fun _ => 0)))))]) hP hD [0, 1, 2, 5] [3, 4] rfl rfl (by decide) (by decide) hk1 hFc hP1 hD1
    generalize H1 = H at hP hS ⊢
    have hP : va_P (dC, dI) vwCl [(m0, .inr (10, [.ref w0, .int 0])), (w0, .inr (9, [.int 0, .int 1, .int 0, .ref r_phases, .ref r_phase, .ref r_phaseTicks, .ref r_set, .ref r_least, .ref r_greatest, .int 0, .ref r_from, .ref r_to, .ref r_time, .ref r_room, .ref r_first, .ref r_rate, .ref r_cost, .ref r_isShut, .ref r_slowed, .ref r_row, .ref r_size, .ref r_came, .ref r_left, .ref r_mostQueue, .ref r_sumQueue, .ref r_turned, .int 0, .ref r_flowFrom, .ref r_flowTo, .ref r_kind, .ref r_start, .ref r_period, .ref r_count, .int 0, .ref r_flow, .ref r_began, .ref r_state, .ref r_link, .ref r_end, .ref r_gone, .ref r_trip, .ref r_delay, .ref r_way])), (o0, .inl (cy 1, 1, .inr (.inl ((fun _ => 0)))))] _ := hP
    have hD : va_D A [(m0, .inr (10, [.ref w0, .int 0])), (w0, .inr (9, [.int 0, .int 1, .int 0, .ref r_phases, .ref r_phase, .ref r_phaseTicks, .ref r_set, .ref r_least, .ref r_greatest, .int 0, .ref r_from, .ref r_to, .ref r_time, .ref r_room, .ref r_first, .ref r_rate, .ref r_cost, .ref r_isShut, .ref r_slowed, .ref r_row, .ref r_size, .ref r_came, .ref r_left, .ref r_mostQueue, .ref r_sumQueue, .ref r_turned, .int 0, .ref r_flowFrom, .ref r_flowTo, .ref r_kind, .ref r_start, .ref r_period, .ref r_count, .int 0, .ref r_flow, .ref r_began, .ref r_state, .ref r_link, .ref r_end, .ref r_gone, .ref r_trip, .ref r_delay, .ref r_way])), (o0, .inl (cy 1, 1, .inr (.inl ((fun _ => 0)))))] := hD
    refine lv_istore (lv' := [(5, .int 1), (0, .ref b), (1, .ref a0), (2, .ref m0), (3, .ref o0), (4, .int 0)]) hx hb dL_law_868 hl (by decide) rfl (fun ls hl => ?_)
    refine lv_aload_n hx hb dL_law_870 rfl (lv_at hl 3 rfl) ?_
    refine lv_aload_n hx hb dL_law_871 rfl (lv_at hl 1 rfl) ?_
    refine lv_iload hx hb dL_law_872 (lv_at hl 5 rfl) ?_
    refine lv_iconst (v := 1) hx hb dL_law_874 (by decide) ?_
    refine lv_iadd hx hb dL_law_875 ?_
    refine va_sld hx hb hX hbl hbA hS (by unfold vp_in; decide) dL_law_876 ?_
    have hFc := va_free (wc := [(m0, .inr (10, [.ref w0, .int 0])), (w0, .inr (9, [.int 0, .int 1, .int 0, .ref r_phases, .ref r_phase, .ref r_phaseTicks, .ref r_set, .ref r_least, .ref r_greatest, .int 0, .ref r_from, .ref r_to, .ref r_time, .ref r_room, .ref r_first, .ref r_rate, .ref r_cost, .ref r_isShut, .ref r_slowed, .ref r_row, .ref r_size, .ref r_came, .ref r_left, .ref r_mostQueue, .ref r_sumQueue, .ref r_turned, .int 0, .ref r_flowFrom, .ref r_flowTo, .ref r_kind, .ref r_start, .ref r_period, .ref r_count, .int 0, .ref r_flow, .ref r_began, .ref r_state, .ref r_link, .ref r_end, .ref r_gone, .ref r_trip, .ref r_delay, .ref r_way]))]) hD hS hA [0, 1] rfl
    refine va_calli (va_runV (As := [.int (xs (0 + 1 : Int32).toNatClampNeg)]) (rest := []) ⟨hx, hb, hml, hown, hts⟩ (tm_m_step_out l hst dC dI cy m0 w0 0 r_phases r_phase r_phaseTicks r_set r_least r_greatest r_from r_to r_time r_room r_first r_rate r_cost r_isShut r_slowed r_row r_size r_came r_left r_mostQueue r_sumQueue r_turned r_flowFrom r_flowTo r_kind r_start r_period r_count r_flow r_began r_state r_link r_end r_gone r_trip r_delay r_way (xs (0 + 1 : Int32).toNatClampNeg) H.size (by first | assumption | exact tp_none _ | decide | omega)) (tp_cwV 1 hts tw_1372 tw_1373 tw_1374 tw_48 tw_1375 rfl rfl (by decide +kernel) ⟨Nat.le_of_ble_eq_true rfl, Nat.le_of_ble_eq_true rfl⟩) ⟨tp_blind, va_recv hK hP (ci := 10) (q0 := 0) rfl rfl, fun U hU hW => ⟨rfl, tp_pay hK hP hD hE hZ hS [0, 1] (by decide) rfl hFc U hU hW⟩⟩ rfl rfl hl.1 rfl (lv_room (Nat.le_of_ble_eq_true rfl)) dL_law_877 ⟨(Nat.le_of_ble_eq_true rfl), (Nat.le_of_ble_eq_true rfl)⟩) hS (fun q _ h => hFc q h) hFc (fun r_3 u t H1 locs ht hvm hw hB hz1 hk1 hS => ?_)
    obtain rfl := hw
    obtain ⟨f_4, hP1, hD1⟩ := hB
    subst f_4
    rw [ht] at hP1
    obtain ⟨hP, hD⟩ := va_join (wr := [(o0, .inl (cy 1, 1, .inr (.inl ((fun _ => 0)))))]) (w1 := [(m0, .inr (10, [.ref w0, .int 1]))]) hP hD [0, 1] [2] rfl rfl (by decide) (by decide) hk1 hFc hP1 hD1
    generalize H1 = H at hP hS ⊢
    have hP : va_P (dC, dI) vwCl [(o0, .inl (cy 1, 1, .inr (.inl ((fun _ => 0))))), (m0, .inr (10, [.ref w0, .int 1]))] _ := hP
    have hD : va_D A [(o0, .inl (cy 1, 1, .inr (.inl ((fun _ => 0))))), (m0, .inr (10, [.ref w0, .int 1]))] := hD
    refine lv_istore (lv' := [(6, .int 0), (5, .int 1), (0, .ref b), (1, .ref a0), (2, .ref m0), (3, .ref o0), (4, .int 0)]) hx hb dL_law_880 hl (by decide) rfl (fun ls hl => ?_)
    refine lv_aload_n hx hb dL_law_882 rfl (lv_at hl 4 rfl) ?_
    have hFc := va_free (wc := [(m0, .inr (10, [.ref w0, .int 1]))]) hD hS hA [1] rfl
    refine va_calli (va_runV (As := []) (rest := []) ⟨hx, hb, hml, hown, hts⟩ (tm_m_thrown l hst dC dI cy m0 w0 1 H.size) (tp_cwV 0 hts tw_1317 tw_1318 tw_1319 tw_48 tw_1320 rfl rfl (by decide +kernel) ⟨Nat.le_of_ble_eq_true rfl, Nat.le_of_ble_eq_true rfl⟩) ⟨tp_blind, va_recv hK hP (ci := 10) (q0 := 1) rfl rfl, fun U hU hW => ⟨rfl, tp_pay hK hP hD hE hZ hS [1] (by decide) rfl hFc U hU hW⟩⟩ rfl rfl hl.1 rfl (lv_room (Nat.le_of_ble_eq_true rfl)) dL_law_883 ⟨(Nat.le_of_ble_eq_true rfl), (Nat.le_of_ble_eq_true rfl)⟩) hS (fun q _ h => hFc q h) hFc (fun r_5 u t H1 locs ht hvm hw hB hz1 hk1 hS => ?_)
    obtain rfl := hw
    obtain ⟨f_6, hP1, hD1⟩ := hB
    subst f_6
    rw [ht] at hP1
    obtain ⟨hP, hD⟩ := va_join (wr := [(o0, .inl (cy 1, 1, .inr (.inl ((fun _ => 0)))))]) (w1 := [(m0, .inr (10, [.ref w0, .int 1]))]) hP hD [1] [0] rfl rfl (by decide) (by decide) hk1 hFc hP1 hD1
    generalize H1 = H at hP hS ⊢
    have hP : va_P (dC, dI) vwCl [(o0, .inl (cy 1, 1, .inr (.inl ((fun _ => 0))))), (m0, .inr (10, [.ref w0, .int 1]))] _ := hP
    have hD : va_D A [(o0, .inl (cy 1, 1, .inr (.inl ((fun _ => 0))))), (m0, .inr (10, [.ref w0, .int 1]))] := hD
    refine lv_iload hx hb dL_law_886 (lv_at hl 1 rfl) ?_
    refine lv_icmp_eq (tgt := 893) hx hb dL_law_888 (by decide) (fun _ => ?_) (fun c_7 => absurd rfl c_7)
    refine lv_iload hx hb dL_law_893 (lv_at hl 1 rfl) ?_
    refine lv_if_ne (tgt := 910) hx hb dL_law_895 (by decide) (fun _ => ?_) (fun c_8 => absurd c_8 (by decide))
    refine lv_goto (tgt := 2504) hx hb dL_law_910 (by decide) ?_
    exact tc_end hd0 hs C1 hX (Nat.le_of_ble_eq_true rfl) (Nat.le_of_ble_eq_true rfl) H _ ls hS (lv_sub hl [2, 6] rfl)
theorem tw_413 : Cond.methodLink RL 166 yX8_clock ∈ tp_all := tp_mem 413 (by decide +kernel) rfl
theorem tw_1443 : Cond.code yX10_clock cX10_clock 1 (some .int) ∈ tp_all := tp_mem 1443 (by decide +kernel) rfl
theorem tw_1440 : Cond.methodLink RL 169 yX10_clock ∈ tp_all := tp_mem 1440 (by decide +kernel) rfl
theorem tw_1441 : Cond.instanceMethod yX10_clock ∈ tp_all := tp_mem 1441 (by decide +kernel) rfl
theorem tw_1442 : Cond.selects RX10 yX10_clock yX10_clock ∈ tp_all := tp_mem 1442 (by decide +kernel) rfl
theorem dL_law_913 : decode cL_law 913 = .ok (.aload_n 1, 1) := by decide +kernel
theorem dL_law_914 : decode cL_law 914 = .ok (.invokevirtual 166, 3) := by decide +kernel
theorem dL_law_917 : decode cL_law 917 = .ok (.aload_n 2, 1) := by decide +kernel
theorem dL_law_918 : decode cL_law 918 = .ok (.invokevirtual 169, 3) := by decide +kernel
theorem dL_law_921 : decode cL_law 921 = .ok (.if_icmp .eq 1583, 3) := by decide +kernel
set_option maxRecDepth 100000 in
set_option maxHeartbeats 4000000 in
/-- the case 9 -/
theorem tc_9 {p : Program} {l : Launch} {e : Env} {s0 s : State} {m : MethodId} {below : List Frame} {meth : Method} {c : Code} {A : Nat → Prop} (hst : l.stackTraces = false) {dC : Nat → ClassId} {dI : Nat → Nat → Nat} {cy : Nat → ClassId} {b : Nat} {xs : Nat → Int32} {d0 : Drawn} (hd0 : s0.drawn.sameBut d0 lw_cs) (hs : s = s0.setDrawn d0) (C1 : tc_At p s m meth c b #[Value.ref b] A dC dI cy) (hX : va_X b 7 xs s s.heap) {a0 : Nat} {a1 : Nat} {a2 : Nat} {aT : Nat} {b1 : Nat} {b2 : Nat} {b3 : Nat} {b4 : Nat} {b5 : Nat} {b6 : Nat} {b7 : Nat} {m0 : Nat} {w0 : Nat} {o0 : Nat} {r_phases : Nat} {r_phase : Nat} {r_phaseTicks : Nat} {r_set : Nat} {r_least : Nat} {r_greatest : Nat} {r_from : Nat} {r_to : Nat} {r_time : Nat} {r_room : Nat} {r_first : Nat} {r_rate : Nat} {r_cost : Nat} {r_isShut : Nat} {r_slowed : Nat} {r_row : Nat} {r_size : Nat} {r_came : Nat} {r_left : Nat} {r_mostQueue : Nat} {r_sumQueue : Nat} {r_turned : Nat} {r_flowFrom : Nat} {r_flowTo : Nat} {r_kind : Nat} {r_start : Nat} {r_period : Nat} {r_count : Nat} {r_flow : Nat} {r_began : Nat} {r_state : Nat} {r_link : Nat} {r_end : Nat} {r_gone : Nat} {r_trip : Nat} {r_delay : Nat} {r_way : Nat} (H : Heap) (locs : List Loc) (ls : Array Slot) (hP : va_P (dC, dI) vwCl [(a0, .inr (8, [.ref a1, .ref aT])), (a1, .inr (5, [.ref a2, .ref b1, .ref b2, .ref b3, .ref b4, .ref b5, .int 0, .int 1, .int 0, .int 0, .int 0, .int 0])), (a2, .inr (2, [.ref b6, .int 0, .ref b7, .int 0])), (m0, .inr (10, [.ref w0, .int 0])), (w0, .inr (9, [.int 0, .int 1, .int 0, .ref r_phases, .ref r_phase, .ref r_phaseTicks, .ref r_set, .ref r_least, .ref r_greatest, .int 0, .ref r_from, .ref r_to, .ref r_time, .ref r_room, .ref r_first, .ref r_rate, .ref r_cost, .ref r_isShut, .ref r_slowed, .ref r_row, .ref r_size, .ref r_came, .ref r_left, .ref r_mostQueue, .ref r_sumQueue, .ref r_turned, .int 0, .ref r_flowFrom, .ref r_flowTo, .ref r_kind, .ref r_start, .ref r_period, .ref r_count, .int 0, .ref r_flow, .ref r_began, .ref r_state, .ref r_link, .ref r_end, .ref r_gone, .ref r_trip, .ref r_delay, .ref r_way])), (o0, .inl (cy 1, 1, .inr (.inl ((fun _ => 0)))))] H) (hD : va_D A [(a0, .inr (8, [.ref a1, .ref aT])), (a1, .inr (5, [.ref a2, .ref b1, .ref b2, .ref b3, .ref b4, .ref b5, .int 0, .int 1, .int 0, .int 0, .int 0, .int 0])), (a2, .inr (2, [.ref b6, .int 0, .ref b7, .int 0])), (m0, .inr (10, [.ref w0, .int 0])), (w0, .inr (9, [.int 0, .int 1, .int 0, .ref r_phases, .ref r_phase, .ref r_phaseTicks, .ref r_set, .ref r_least, .ref r_greatest, .int 0, .ref r_from, .ref r_to, .ref r_time, .ref r_room, .ref r_first, .ref r_rate, .ref r_cost, .ref r_isShut, .ref r_slowed, .ref r_row, .ref r_size, .ref r_came, .ref r_left, .ref r_mostQueue, .ref r_sumQueue, .ref r_turned, .int 0, .ref r_flowFrom, .ref r_flowTo, .ref r_kind, .ref r_start, .ref r_period, .ref r_count, .int 0, .ref r_flow, .ref r_began, .ref r_state, .ref r_link, .ref r_end, .ref r_gone, .ref r_trip, .ref r_delay, .ref r_way])), (o0, .inl (cy 1, 1, .inr (.inl ((fun _ => 0)))))]) (hS : va_S A s.heap H locs) (hl : lv_has ls 9 [(0, .ref b), (1, .ref a0), (2, .ref m0), (3, .ref o0), (4, .int 0)]) : W p l e room_1 s m #[Value.ref b] below meth c H locs 1535 31585 (lw_Z below #[Value.ref b] s0) (F0 m 913 ls []) := by
  have C2 := C1
  obtain ⟨hx, hb, hr, hml, hown, hts, hbl, hlocks, hK, hE, hZ, hA, hbA, hA2⟩ := C2
  refine lv_aload_n hx hb dL_law_913 rfl (lv_at hl 1 rfl) ?_
  have hFc := va_free (wc := [(a0, .inr (8, [.ref a1, .ref aT])), (a1, .inr (5, [.ref a2, .ref b1, .ref b2, .ref b3, .ref b4, .ref b5, .int 0, .int 1, .int 0, .int 0, .int 0, .int 0])), (a2, .inr (2, [.ref b6, .int 0, .ref b7, .int 0]))]) hD hS hA [0, 1, 2] rfl
  refine va_calli (va_runV (As := []) (rest := []) ⟨hx, hb, hml, hown, hts⟩ (tm_clock l hst dC dI cy a0 a1 a2 aT b1 b2 b3 b4 b5 b6 b7 H.size) (tp_cwV 0 hts tw_413 tw_414 tw_415 tw_38 tw_416 rfl rfl (by decide +kernel) ⟨Nat.le_of_ble_eq_true rfl, Nat.le_of_ble_eq_true rfl⟩) ⟨tp_blind, va_recv hK hP (ci := 8) (q0 := 0) rfl rfl, fun U hU hW => ⟨rfl, tp_pay hK hP hD hE hZ hS [0, 1, 2] (by decide) rfl hFc U hU hW⟩⟩ rfl rfl hl.1 rfl (lv_room (Nat.le_of_ble_eq_true rfl)) dL_law_914 ⟨(Nat.le_of_ble_eq_true rfl), (Nat.le_of_ble_eq_true rfl)⟩) hS (fun q _ h => hFc q h) hFc (fun r_1 u t H1 locs ht hvm hw hB hz1 hk1 hS => ?_)
  obtain rfl := hw
  obtain ⟨f_2, hP1, hD1⟩ := hB
  subst f_2
  rw [ht] at hP1
  obtain ⟨hP, hD⟩ := va_join (wr := [(m0, .inr (10, [.ref w0, .int 0])), (w0, .inr (9, [.int 0, .int 1, .int 0, .ref r_phases, .ref r_phase, .ref r_phaseTicks, .ref r_set, .ref r_least, .ref r_greatest, .int 0, .ref r_from, .ref r_to, .ref r_time, .ref r_room, .ref r_first, .ref r_rate, .ref r_cost, .ref r_isShut, .ref r_slowed, .ref r_row, .ref r_size, .ref r_came, .ref r_left, .ref r_mostQueue, .ref r_sumQueue, .ref r_turned, .int 0, .ref r_flowFrom, .ref r_flowTo, .ref r_kind, .ref r_start, .ref r_period, .ref r_count, .int 0, .ref r_flow, .ref r_began, .ref r_state, .ref r_link, .ref r_end, .ref r_gone, .ref r_trip, .ref r_delay, .ref r_way])), (o0, .inl (cy 1, 1, .inr (.inl ((fun _ => 0)))))]) (w1 := [(a0, .inr (8, [.ref a1, .ref aT])), (a1, .inr (5, [.ref a2, .ref b1, .ref b2, .ref b3, .ref b4, .ref b5, .int 0, .int 1, .int 0, .int 0, .int 0, .int 0])), (a2, .inr (2, [.ref b6, .int 0, .ref b7, .int 0]))]) hP hD [0, 1, 2] [3, 4, 5] rfl rfl (by decide) (by decide) hk1 hFc hP1 hD1
  generalize H1 = H at hP hS ⊢
  have hP : va_P (dC, dI) vwCl [(m0, .inr (10, [.ref w0, .int 0])), (w0, .inr (9, [.int 0, .int 1, .int 0, .ref r_phases, .ref r_phase, .ref r_phaseTicks, .ref r_set, .ref r_least, .ref r_greatest, .int 0, .ref r_from, .ref r_to, .ref r_time, .ref r_room, .ref r_first, .ref r_rate, .ref r_cost, .ref r_isShut, .ref r_slowed, .ref r_row, .ref r_size, .ref r_came, .ref r_left, .ref r_mostQueue, .ref r_sumQueue, .ref r_turned, .int 0, .ref r_flowFrom, .ref r_flowTo, .ref r_kind, .ref r_start, .ref r_period, .ref r_count, .int 0, .ref r_flow, .ref r_began, .ref r_state, .ref r_link, .ref r_end, .ref r_gone, .ref r_trip, .ref r_delay, .ref r_way])), (o0, .inl (cy 1, 1, .inr (.inl ((fun _ => 0))))), (a0, .inr (8, [.ref a1, .ref aT])), (a1, .inr (5, [.ref a2, .ref b1, .ref b2, .ref b3, .ref b4, .ref b5, .int 0, .int 1, .int 0, .int 0, .int 0, .int 0])), (a2, .inr (2, [.ref b6, .int 0, .ref b7, .int 0]))] _ := hP
  have hD : va_D A [(m0, .inr (10, [.ref w0, .int 0])), (w0, .inr (9, [.int 0, .int 1, .int 0, .ref r_phases, .ref r_phase, .ref r_phaseTicks, .ref r_set, .ref r_least, .ref r_greatest, .int 0, .ref r_from, .ref r_to, .ref r_time, .ref r_room, .ref r_first, .ref r_rate, .ref r_cost, .ref r_isShut, .ref r_slowed, .ref r_row, .ref r_size, .ref r_came, .ref r_left, .ref r_mostQueue, .ref r_sumQueue, .ref r_turned, .int 0, .ref r_flowFrom, .ref r_flowTo, .ref r_kind, .ref r_start, .ref r_period, .ref r_count, .int 0, .ref r_flow, .ref r_began, .ref r_state, .ref r_link, .ref r_end, .ref r_gone, .ref r_trip, .ref r_delay, .ref r_way])), (o0, .inl (cy 1, 1, .inr (.inl ((fun _ => 0))))), (a0, .inr (8, [.ref a1, .ref aT])), (a1, .inr (5, [.ref a2, .ref b1, .ref b2, .ref b3, .ref b4, .ref b5, .int 0, .int 1, .int 0, .int 0, .int 0, .int 0])), (a2, .inr (2, [.ref b6, .int 0, .ref b7, .int 0]))] := hD
  refine lv_aload_n hx hb dL_law_917 rfl (lv_at hl 2 rfl) ?_
  have hFc := va_free (wc := [(m0, .inr (10, [.ref w0, .int 0])), (w0, .inr (9, [.int 0, .int 1, .int 0, .ref r_phases, .ref r_phase, .ref r_phaseTicks, .ref r_set, .ref r_least, .ref r_greatest, .int 0, .ref r_from, .ref r_to, .ref r_time, .ref r_room, .ref r_first, .ref r_rate, .ref r_cost, .ref r_isShut, .ref r_slowed, .ref r_row, .ref r_size, .ref r_came, .ref r_left, .ref r_mostQueue, .ref r_sumQueue, .ref r_turned, .int 0, .ref r_flowFrom, .ref r_flowTo, .ref r_kind, .ref r_start, .ref r_period, .ref r_count, .int 0, .ref r_flow, .ref r_began, .ref r_state, .ref r_link, .ref r_end, .ref r_gone, .ref r_trip, .ref r_delay, .ref r_way]))]) hD hS hA [0, 1] rfl
  refine va_calli (va_runV (As := []) (rest := [.int 0]) ⟨hx, hb, hml, hown, hts⟩ (tm_m_clock l hst dC dI cy m0 w0 0 r_phases r_phase r_phaseTicks r_set r_least r_greatest r_from r_to r_time r_room r_first r_rate r_cost r_isShut r_slowed r_row r_size r_came r_left r_mostQueue r_sumQueue r_turned r_flowFrom r_flowTo r_kind r_start r_period r_count r_flow r_began r_state r_link r_end r_gone r_trip r_delay r_way H.size) (tp_cwV 0 hts tw_1440 tw_1441 tw_1442 tw_48 tw_1443 rfl rfl (by decide +kernel) ⟨Nat.le_of_ble_eq_true rfl, Nat.le_of_ble_eq_true rfl⟩) ⟨tp_blind, va_recv hK hP (ci := 10) (q0 := 0) rfl rfl, fun U hU hW => ⟨rfl, tp_pay hK hP hD hE hZ hS [0, 1] (by decide) rfl hFc U hU hW⟩⟩ rfl rfl hl.1 rfl (lv_room (Nat.le_of_ble_eq_true rfl)) dL_law_918 ⟨(Nat.le_of_ble_eq_true rfl), (Nat.le_of_ble_eq_true rfl)⟩) hS (fun q _ h => hFc q h) hFc (fun r_3 u t H1 locs ht hvm hw hB hz1 hk1 hS => ?_)
  obtain rfl := hw
  obtain ⟨f_4, hP1, hD1⟩ := hB
  subst f_4
  rw [ht] at hP1
  obtain ⟨hP, hD⟩ := va_join (wr := [(o0, .inl (cy 1, 1, .inr (.inl ((fun _ => 0))))), (a0, .inr (8, [.ref a1, .ref aT])), (a1, .inr (5, [.ref a2, .ref b1, .ref b2, .ref b3, .ref b4, .ref b5, .int 0, .int 1, .int 0, .int 0, .int 0, .int 0])), (a2, .inr (2, [.ref b6, .int 0, .ref b7, .int 0]))]) (w1 := [(m0, .inr (10, [.ref w0, .int 0]))]) hP hD [0, 1] [2, 3, 4, 5] rfl rfl (by decide) (by decide) hk1 hFc hP1 hD1
  generalize H1 = H at hP hS ⊢
  have hP : va_P (dC, dI) vwCl [(o0, .inl (cy 1, 1, .inr (.inl ((fun _ => 0))))), (a0, .inr (8, [.ref a1, .ref aT])), (a1, .inr (5, [.ref a2, .ref b1, .ref b2, .ref b3, .ref b4, .ref b5, .int 0, .int 1, .int 0, .int 0, .int 0, .int 0])), (a2, .inr (2, [.ref b6, .int 0, .ref b7, .int 0])), (m0, .inr (10, [.ref w0, .int 0]))] _ := hP
  have hD : va_D A [(o0, .inl (cy 1, 1, .inr (.inl ((fun _ => 0))))), (a0, .inr (8, [.ref a1, .ref aT])), (a1, .inr (5, [.ref a2, .ref b1, .ref b2, .ref b3, .ref b4, .ref b5, .int 0, .int 1, .int 0, .int 0, .int 0, .int 0])), (a2, .inr (2, [.ref b6, .int 0, .ref b7, .int 0])), (m0, .inr (10, [.ref w0, .int 0]))] := hD
  refine lv_icmp_eq (tgt := 2504) hx hb dL_law_921 (by decide) (fun _ => ?_) (fun c_5 => absurd rfl c_5)
  exact tc_end hd0 hs C1 hX (Nat.le_of_ble_eq_true rfl) (Nat.le_of_ble_eq_true rfl) H _ ls hS (lv_sub hl [0, 4] rfl)
theorem tw_417 : Cond.methodLink RL 170 yX8_nodes ∈ tp_all := tp_mem 417 (by decide +kernel) rfl
theorem tw_1451 : Cond.code yX10_nodes cX10_nodes 1 (some .int) ∈ tp_all := tp_mem 1451 (by decide +kernel) rfl
theorem tw_1448 : Cond.methodLink RL 173 yX10_nodes ∈ tp_all := tp_mem 1448 (by decide +kernel) rfl
theorem tw_1449 : Cond.instanceMethod yX10_nodes ∈ tp_all := tp_mem 1449 (by decide +kernel) rfl
theorem tw_1450 : Cond.selects RX10 yX10_nodes yX10_nodes ∈ tp_all := tp_mem 1450 (by decide +kernel) rfl
theorem dL_law_926 : decode cL_law 926 = .ok (.aload_n 1, 1) := by decide +kernel
theorem dL_law_927 : decode cL_law 927 = .ok (.invokevirtual 170, 3) := by decide +kernel
theorem dL_law_930 : decode cL_law 930 = .ok (.aload_n 2, 1) := by decide +kernel
theorem dL_law_931 : decode cL_law 931 = .ok (.invokevirtual 173, 3) := by decide +kernel
theorem dL_law_934 : decode cL_law 934 = .ok (.if_icmp .eq 1570, 3) := by decide +kernel
set_option maxRecDepth 100000 in
set_option maxHeartbeats 4000000 in
/-- the case 10 -/
theorem tc_10 {p : Program} {l : Launch} {e : Env} {s0 s : State} {m : MethodId} {below : List Frame} {meth : Method} {c : Code} {A : Nat → Prop} (hst : l.stackTraces = false) {dC : Nat → ClassId} {dI : Nat → Nat → Nat} {cy : Nat → ClassId} {b : Nat} {xs : Nat → Int32} {d0 : Drawn} (hd0 : s0.drawn.sameBut d0 lw_cs) (hs : s = s0.setDrawn d0) (C1 : tc_At p s m meth c b #[Value.ref b] A dC dI cy) (hX : va_X b 7 xs s s.heap) {a0 : Nat} {a1 : Nat} {a2 : Nat} {aT : Nat} {b1 : Nat} {b2 : Nat} {b3 : Nat} {b4 : Nat} {b5 : Nat} {b6 : Nat} {b7 : Nat} {m0 : Nat} {w0 : Nat} {o0 : Nat} {r_phases : Nat} {r_phase : Nat} {r_phaseTicks : Nat} {r_set : Nat} {r_least : Nat} {r_greatest : Nat} {r_from : Nat} {r_to : Nat} {r_time : Nat} {r_room : Nat} {r_first : Nat} {r_rate : Nat} {r_cost : Nat} {r_isShut : Nat} {r_slowed : Nat} {r_row : Nat} {r_size : Nat} {r_came : Nat} {r_left : Nat} {r_mostQueue : Nat} {r_sumQueue : Nat} {r_turned : Nat} {r_flowFrom : Nat} {r_flowTo : Nat} {r_kind : Nat} {r_start : Nat} {r_period : Nat} {r_count : Nat} {r_flow : Nat} {r_began : Nat} {r_state : Nat} {r_link : Nat} {r_end : Nat} {r_gone : Nat} {r_trip : Nat} {r_delay : Nat} {r_way : Nat} (H : Heap) (locs : List Loc) (ls : Array Slot) (hP : va_P (dC, dI) vwCl [(a0, .inr (8, [.ref a1, .ref aT])), (a1, .inr (5, [.ref a2, .ref b1, .ref b2, .ref b3, .ref b4, .ref b5, .int 0, .int 1, .int 0, .int 0, .int 0, .int 0])), (a2, .inr (2, [.ref b6, .int 0, .ref b7, .int 0])), (m0, .inr (10, [.ref w0, .int 0])), (w0, .inr (9, [.int 0, .int 1, .int 0, .ref r_phases, .ref r_phase, .ref r_phaseTicks, .ref r_set, .ref r_least, .ref r_greatest, .int 0, .ref r_from, .ref r_to, .ref r_time, .ref r_room, .ref r_first, .ref r_rate, .ref r_cost, .ref r_isShut, .ref r_slowed, .ref r_row, .ref r_size, .ref r_came, .ref r_left, .ref r_mostQueue, .ref r_sumQueue, .ref r_turned, .int 0, .ref r_flowFrom, .ref r_flowTo, .ref r_kind, .ref r_start, .ref r_period, .ref r_count, .int 0, .ref r_flow, .ref r_began, .ref r_state, .ref r_link, .ref r_end, .ref r_gone, .ref r_trip, .ref r_delay, .ref r_way])), (o0, .inl (cy 1, 1, .inr (.inl ((fun _ => 0)))))] H) (hD : va_D A [(a0, .inr (8, [.ref a1, .ref aT])), (a1, .inr (5, [.ref a2, .ref b1, .ref b2, .ref b3, .ref b4, .ref b5, .int 0, .int 1, .int 0, .int 0, .int 0, .int 0])), (a2, .inr (2, [.ref b6, .int 0, .ref b7, .int 0])), (m0, .inr (10, [.ref w0, .int 0])), (w0, .inr (9, [.int 0, .int 1, .int 0, .ref r_phases, .ref r_phase, .ref r_phaseTicks, .ref r_set, .ref r_least, .ref r_greatest, .int 0, .ref r_from, .ref r_to, .ref r_time, .ref r_room, .ref r_first, .ref r_rate, .ref r_cost, .ref r_isShut, .ref r_slowed, .ref r_row, .ref r_size, .ref r_came, .ref r_left, .ref r_mostQueue, .ref r_sumQueue, .ref r_turned, .int 0, .ref r_flowFrom, .ref r_flowTo, .ref r_kind, .ref r_start, .ref r_period, .ref r_count, .int 0, .ref r_flow, .ref r_began, .ref r_state, .ref r_link, .ref r_end, .ref r_gone, .ref r_trip, .ref r_delay, .ref r_way])), (o0, .inl (cy 1, 1, .inr (.inl ((fun _ => 0)))))]) (hS : va_S A s.heap H locs) (hl : lv_has ls 9 [(0, .ref b), (1, .ref a0), (2, .ref m0), (3, .ref o0), (4, .int 0)]) : W p l e room_1 s m #[Value.ref b] below meth c H locs 1535 31585 (lw_Z below #[Value.ref b] s0) (F0 m 926 ls []) := by
  have C2 := C1
  obtain ⟨hx, hb, hr, hml, hown, hts, hbl, hlocks, hK, hE, hZ, hA, hbA, hA2⟩ := C2
  refine lv_aload_n hx hb dL_law_926 rfl (lv_at hl 1 rfl) ?_
  have hFc := va_free (wc := [(a0, .inr (8, [.ref a1, .ref aT])), (a1, .inr (5, [.ref a2, .ref b1, .ref b2, .ref b3, .ref b4, .ref b5, .int 0, .int 1, .int 0, .int 0, .int 0, .int 0])), (a2, .inr (2, [.ref b6, .int 0, .ref b7, .int 0]))]) hD hS hA [0, 1, 2] rfl
  refine va_calli (va_runV (As := []) (rest := []) ⟨hx, hb, hml, hown, hts⟩ (tm_nodes l hst dC dI cy a0 a1 a2 aT b1 b2 b3 b4 b5 b6 b7 H.size) (tp_cwV 0 hts tw_417 tw_418 tw_419 tw_38 tw_420 rfl rfl (by decide +kernel) ⟨Nat.le_of_ble_eq_true rfl, Nat.le_of_ble_eq_true rfl⟩) ⟨tp_blind, va_recv hK hP (ci := 8) (q0 := 0) rfl rfl, fun U hU hW => ⟨rfl, tp_pay hK hP hD hE hZ hS [0, 1, 2] (by decide) rfl hFc U hU hW⟩⟩ rfl rfl hl.1 rfl (lv_room (Nat.le_of_ble_eq_true rfl)) dL_law_927 ⟨(Nat.le_of_ble_eq_true rfl), (Nat.le_of_ble_eq_true rfl)⟩) hS (fun q _ h => hFc q h) hFc (fun r_1 u t H1 locs ht hvm hw hB hz1 hk1 hS => ?_)
  obtain rfl := hw
  obtain ⟨f_2, hP1, hD1⟩ := hB
  subst f_2
  rw [ht] at hP1
  obtain ⟨hP, hD⟩ := va_join (wr := [(m0, .inr (10, [.ref w0, .int 0])), (w0, .inr (9, [.int 0, .int 1, .int 0, .ref r_phases, .ref r_phase, .ref r_phaseTicks, .ref r_set, .ref r_least, .ref r_greatest, .int 0, .ref r_from, .ref r_to, .ref r_time, .ref r_room, .ref r_first, .ref r_rate, .ref r_cost, .ref r_isShut, .ref r_slowed, .ref r_row, .ref r_size, .ref r_came, .ref r_left, .ref r_mostQueue, .ref r_sumQueue, .ref r_turned, .int 0, .ref r_flowFrom, .ref r_flowTo, .ref r_kind, .ref r_start, .ref r_period, .ref r_count, .int 0, .ref r_flow, .ref r_began, .ref r_state, .ref r_link, .ref r_end, .ref r_gone, .ref r_trip, .ref r_delay, .ref r_way])), (o0, .inl (cy 1, 1, .inr (.inl ((fun _ => 0)))))]) (w1 := [(a0, .inr (8, [.ref a1, .ref aT])), (a1, .inr (5, [.ref a2, .ref b1, .ref b2, .ref b3, .ref b4, .ref b5, .int 0, .int 1, .int 0, .int 0, .int 0, .int 0])), (a2, .inr (2, [.ref b6, .int 0, .ref b7, .int 0]))]) hP hD [0, 1, 2] [3, 4, 5] rfl rfl (by decide) (by decide) hk1 hFc hP1 hD1
  generalize H1 = H at hP hS ⊢
  have hP : va_P (dC, dI) vwCl [(m0, .inr (10, [.ref w0, .int 0])), (w0, .inr (9, [.int 0, .int 1, .int 0, .ref r_phases, .ref r_phase, .ref r_phaseTicks, .ref r_set, .ref r_least, .ref r_greatest, .int 0, .ref r_from, .ref r_to, .ref r_time, .ref r_room, .ref r_first, .ref r_rate, .ref r_cost, .ref r_isShut, .ref r_slowed, .ref r_row, .ref r_size, .ref r_came, .ref r_left, .ref r_mostQueue, .ref r_sumQueue, .ref r_turned, .int 0, .ref r_flowFrom, .ref r_flowTo, .ref r_kind, .ref r_start, .ref r_period, .ref r_count, .int 0, .ref r_flow, .ref r_began, .ref r_state, .ref r_link, .ref r_end, .ref r_gone, .ref r_trip, .ref r_delay, .ref r_way])), (o0, .inl (cy 1, 1, .inr (.inl ((fun _ => 0))))), (a0, .inr (8, [.ref a1, .ref aT])), (a1, .inr (5, [.ref a2, .ref b1, .ref b2, .ref b3, .ref b4, .ref b5, .int 0, .int 1, .int 0, .int 0, .int 0, .int 0])), (a2, .inr (2, [.ref b6, .int 0, .ref b7, .int 0]))] _ := hP
  have hD : va_D A [(m0, .inr (10, [.ref w0, .int 0])), (w0, .inr (9, [.int 0, .int 1, .int 0, .ref r_phases, .ref r_phase, .ref r_phaseTicks, .ref r_set, .ref r_least, .ref r_greatest, .int 0, .ref r_from, .ref r_to, .ref r_time, .ref r_room, .ref r_first, .ref r_rate, .ref r_cost, .ref r_isShut, .ref r_slowed, .ref r_row, .ref r_size, .ref r_came, .ref r_left, .ref r_mostQueue, .ref r_sumQueue, .ref r_turned, .int 0, .ref r_flowFrom, .ref r_flowTo, .ref r_kind, .ref r_start, .ref r_period, .ref r_count, .int 0, .ref r_flow, .ref r_began, .ref r_state, .ref r_link, .ref r_end, .ref r_gone, .ref r_trip, .ref r_delay, .ref r_way])), (o0, .inl (cy 1, 1, .inr (.inl ((fun _ => 0))))), (a0, .inr (8, [.ref a1, .ref aT])), (a1, .inr (5, [.ref a2, .ref b1, .ref b2, .ref b3, .ref b4, .ref b5, .int 0, .int 1, .int 0, .int 0, .int 0, .int 0])), (a2, .inr (2, [.ref b6, .int 0, .ref b7, .int 0]))] := hD
  refine lv_aload_n hx hb dL_law_930 rfl (lv_at hl 2 rfl) ?_
  have hFc := va_free (wc := [(m0, .inr (10, [.ref w0, .int 0])), (w0, .inr (9, [.int 0, .int 1, .int 0, .ref r_phases, .ref r_phase, .ref r_phaseTicks, .ref r_set, .ref r_least, .ref r_greatest, .int 0, .ref r_from, .ref r_to, .ref r_time, .ref r_room, .ref r_first, .ref r_rate, .ref r_cost, .ref r_isShut, .ref r_slowed, .ref r_row, .ref r_size, .ref r_came, .ref r_left, .ref r_mostQueue, .ref r_sumQueue, .ref r_turned, .int 0, .ref r_flowFrom, .ref r_flowTo, .ref r_kind, .ref r_start, .ref r_period, .ref r_count, .int 0, .ref r_flow, .ref r_began, .ref r_state, .ref r_link, .ref r_end, .ref r_gone, .ref r_trip, .ref r_delay, .ref r_way]))]) hD hS hA [0, 1] rfl
  refine va_calli (va_runV (As := []) (rest := [.int 0]) ⟨hx, hb, hml, hown, hts⟩ (tm_m_nodes l hst dC dI cy m0 w0 0 r_phases r_phase r_phaseTicks r_set r_least r_greatest r_from r_to r_time r_room r_first r_rate r_cost r_isShut r_slowed r_row r_size r_came r_left r_mostQueue r_sumQueue r_turned r_flowFrom r_flowTo r_kind r_start r_period r_count r_flow r_began r_state r_link r_end r_gone r_trip r_delay r_way H.size) (tp_cwV 0 hts tw_1448 tw_1449 tw_1450 tw_48 tw_1451 rfl rfl (by decide +kernel) ⟨Nat.le_of_ble_eq_true rfl, Nat.le_of_ble_eq_true rfl⟩) ⟨tp_blind, va_recv hK hP (ci := 10) (q0 := 0) rfl rfl, fun U hU hW => ⟨rfl, tp_pay hK hP hD hE hZ hS [0, 1] (by decide) rfl hFc U hU hW⟩⟩ rfl rfl hl.1 rfl (lv_room (Nat.le_of_ble_eq_true rfl)) dL_law_931 ⟨(Nat.le_of_ble_eq_true rfl), (Nat.le_of_ble_eq_true rfl)⟩) hS (fun q _ h => hFc q h) hFc (fun r_3 u t H1 locs ht hvm hw hB hz1 hk1 hS => ?_)
  obtain rfl := hw
  obtain ⟨f_4, hP1, hD1⟩ := hB
  subst f_4
  rw [ht] at hP1
  obtain ⟨hP, hD⟩ := va_join (wr := [(o0, .inl (cy 1, 1, .inr (.inl ((fun _ => 0))))), (a0, .inr (8, [.ref a1, .ref aT])), (a1, .inr (5, [.ref a2, .ref b1, .ref b2, .ref b3, .ref b4, .ref b5, .int 0, .int 1, .int 0, .int 0, .int 0, .int 0])), (a2, .inr (2, [.ref b6, .int 0, .ref b7, .int 0]))]) (w1 := [(m0, .inr (10, [.ref w0, .int 0]))]) hP hD [0, 1] [2, 3, 4, 5] rfl rfl (by decide) (by decide) hk1 hFc hP1 hD1
  generalize H1 = H at hP hS ⊢
  have hP : va_P (dC, dI) vwCl [(o0, .inl (cy 1, 1, .inr (.inl ((fun _ => 0))))), (a0, .inr (8, [.ref a1, .ref aT])), (a1, .inr (5, [.ref a2, .ref b1, .ref b2, .ref b3, .ref b4, .ref b5, .int 0, .int 1, .int 0, .int 0, .int 0, .int 0])), (a2, .inr (2, [.ref b6, .int 0, .ref b7, .int 0])), (m0, .inr (10, [.ref w0, .int 0]))] _ := hP
  have hD : va_D A [(o0, .inl (cy 1, 1, .inr (.inl ((fun _ => 0))))), (a0, .inr (8, [.ref a1, .ref aT])), (a1, .inr (5, [.ref a2, .ref b1, .ref b2, .ref b3, .ref b4, .ref b5, .int 0, .int 1, .int 0, .int 0, .int 0, .int 0])), (a2, .inr (2, [.ref b6, .int 0, .ref b7, .int 0])), (m0, .inr (10, [.ref w0, .int 0]))] := hD
  refine lv_icmp_eq (tgt := 2504) hx hb dL_law_934 (by decide) (fun _ => ?_) (fun c_5 => absurd rfl c_5)
  exact tc_end hd0 hs C1 hX (Nat.le_of_ble_eq_true rfl) (Nat.le_of_ble_eq_true rfl) H _ ls hS (lv_sub hl [0, 4] rfl)
theorem tw_421 : Cond.methodLink RL 174 yX8_links ∈ tp_all := tp_mem 421 (by decide +kernel) rfl
theorem tw_1455 : Cond.code yX10_links cX10_links 1 (some .int) ∈ tp_all := tp_mem 1455 (by decide +kernel) rfl
theorem tw_1452 : Cond.methodLink RL 177 yX10_links ∈ tp_all := tp_mem 1452 (by decide +kernel) rfl
theorem tw_1453 : Cond.instanceMethod yX10_links ∈ tp_all := tp_mem 1453 (by decide +kernel) rfl
theorem tw_1454 : Cond.selects RX10 yX10_links yX10_links ∈ tp_all := tp_mem 1454 (by decide +kernel) rfl
theorem dL_law_939 : decode cL_law 939 = .ok (.aload_n 1, 1) := by decide +kernel
theorem dL_law_940 : decode cL_law 940 = .ok (.invokevirtual 174, 3) := by decide +kernel
theorem dL_law_943 : decode cL_law 943 = .ok (.aload_n 2, 1) := by decide +kernel
theorem dL_law_944 : decode cL_law 944 = .ok (.invokevirtual 177, 3) := by decide +kernel
theorem dL_law_947 : decode cL_law 947 = .ok (.if_icmp .eq 1557, 3) := by decide +kernel
set_option maxRecDepth 100000 in
set_option maxHeartbeats 4000000 in
/-- the case 11 -/
theorem tc_11 {p : Program} {l : Launch} {e : Env} {s0 s : State} {m : MethodId} {below : List Frame} {meth : Method} {c : Code} {A : Nat → Prop} (hst : l.stackTraces = false) {dC : Nat → ClassId} {dI : Nat → Nat → Nat} {cy : Nat → ClassId} {b : Nat} {xs : Nat → Int32} {d0 : Drawn} (hd0 : s0.drawn.sameBut d0 lw_cs) (hs : s = s0.setDrawn d0) (C1 : tc_At p s m meth c b #[Value.ref b] A dC dI cy) (hX : va_X b 7 xs s s.heap) {a0 : Nat} {a1 : Nat} {a2 : Nat} {aT : Nat} {b1 : Nat} {b2 : Nat} {b3 : Nat} {b4 : Nat} {b5 : Nat} {b6 : Nat} {b7 : Nat} {m0 : Nat} {w0 : Nat} {o0 : Nat} {r_phases : Nat} {r_phase : Nat} {r_phaseTicks : Nat} {r_set : Nat} {r_least : Nat} {r_greatest : Nat} {r_from : Nat} {r_to : Nat} {r_time : Nat} {r_room : Nat} {r_first : Nat} {r_rate : Nat} {r_cost : Nat} {r_isShut : Nat} {r_slowed : Nat} {r_row : Nat} {r_size : Nat} {r_came : Nat} {r_left : Nat} {r_mostQueue : Nat} {r_sumQueue : Nat} {r_turned : Nat} {r_flowFrom : Nat} {r_flowTo : Nat} {r_kind : Nat} {r_start : Nat} {r_period : Nat} {r_count : Nat} {r_flow : Nat} {r_began : Nat} {r_state : Nat} {r_link : Nat} {r_end : Nat} {r_gone : Nat} {r_trip : Nat} {r_delay : Nat} {r_way : Nat} (H : Heap) (locs : List Loc) (ls : Array Slot) (hP : va_P (dC, dI) vwCl [(a0, .inr (8, [.ref a1, .ref aT])), (a1, .inr (5, [.ref a2, .ref b1, .ref b2, .ref b3, .ref b4, .ref b5, .int 0, .int 1, .int 0, .int 0, .int 0, .int 0])), (a2, .inr (2, [.ref b6, .int 0, .ref b7, .int 0])), (m0, .inr (10, [.ref w0, .int 0])), (w0, .inr (9, [.int 0, .int 1, .int 0, .ref r_phases, .ref r_phase, .ref r_phaseTicks, .ref r_set, .ref r_least, .ref r_greatest, .int 0, .ref r_from, .ref r_to, .ref r_time, .ref r_room, .ref r_first, .ref r_rate, .ref r_cost, .ref r_isShut, .ref r_slowed, .ref r_row, .ref r_size, .ref r_came, .ref r_left, .ref r_mostQueue, .ref r_sumQueue, .ref r_turned, .int 0, .ref r_flowFrom, .ref r_flowTo, .ref r_kind, .ref r_start, .ref r_period, .ref r_count, .int 0, .ref r_flow, .ref r_began, .ref r_state, .ref r_link, .ref r_end, .ref r_gone, .ref r_trip, .ref r_delay, .ref r_way])), (o0, .inl (cy 1, 1, .inr (.inl ((fun _ => 0)))))] H) (hD : va_D A [(a0, .inr (8, [.ref a1, .ref aT])), (a1, .inr (5, [.ref a2, .ref b1, .ref b2, .ref b3, .ref b4, .ref b5, .int 0, .int 1, .int 0, .int 0, .int 0, .int 0])), (a2, .inr (2, [.ref b6, .int 0, .ref b7, .int 0])), (m0, .inr (10, [.ref w0, .int 0])), (w0, .inr (9, [.int 0, .int 1, .int 0, .ref r_phases, .ref r_phase, .ref r_phaseTicks, .ref r_set, .ref r_least, .ref r_greatest, .int 0, .ref r_from, .ref r_to, .ref r_time, .ref r_room, .ref r_first, .ref r_rate, .ref r_cost, .ref r_isShut, .ref r_slowed, .ref r_row, .ref r_size, .ref r_came, .ref r_left, .ref r_mostQueue, .ref r_sumQueue, .ref r_turned, .int 0, .ref r_flowFrom, .ref r_flowTo, .ref r_kind, .ref r_start, .ref r_period, .ref r_count, .int 0, .ref r_flow, .ref r_began, .ref r_state, .ref r_link, .ref r_end, .ref r_gone, .ref r_trip, .ref r_delay, .ref r_way])), (o0, .inl (cy 1, 1, .inr (.inl ((fun _ => 0)))))]) (hS : va_S A s.heap H locs) (hl : lv_has ls 9 [(0, .ref b), (1, .ref a0), (2, .ref m0), (3, .ref o0), (4, .int 0)]) : W p l e room_1 s m #[Value.ref b] below meth c H locs 1535 31585 (lw_Z below #[Value.ref b] s0) (F0 m 939 ls []) := by
  have C2 := C1
  obtain ⟨hx, hb, hr, hml, hown, hts, hbl, hlocks, hK, hE, hZ, hA, hbA, hA2⟩ := C2
  refine lv_aload_n hx hb dL_law_939 rfl (lv_at hl 1 rfl) ?_
  have hFc := va_free (wc := [(a0, .inr (8, [.ref a1, .ref aT])), (a1, .inr (5, [.ref a2, .ref b1, .ref b2, .ref b3, .ref b4, .ref b5, .int 0, .int 1, .int 0, .int 0, .int 0, .int 0])), (a2, .inr (2, [.ref b6, .int 0, .ref b7, .int 0]))]) hD hS hA [0, 1, 2] rfl
  refine va_calli (va_runV (As := []) (rest := []) ⟨hx, hb, hml, hown, hts⟩ (tm_links l hst dC dI cy a0 a1 a2 aT b1 b2 b3 b4 b5 b6 b7 H.size) (tp_cwV 0 hts tw_421 tw_422 tw_423 tw_38 tw_424 rfl rfl (by decide +kernel) ⟨Nat.le_of_ble_eq_true rfl, Nat.le_of_ble_eq_true rfl⟩) ⟨tp_blind, va_recv hK hP (ci := 8) (q0 := 0) rfl rfl, fun U hU hW => ⟨rfl, tp_pay hK hP hD hE hZ hS [0, 1, 2] (by decide) rfl hFc U hU hW⟩⟩ rfl rfl hl.1 rfl (lv_room (Nat.le_of_ble_eq_true rfl)) dL_law_940 ⟨(Nat.le_of_ble_eq_true rfl), (Nat.le_of_ble_eq_true rfl)⟩) hS (fun q _ h => hFc q h) hFc (fun r_1 u t H1 locs ht hvm hw hB hz1 hk1 hS => ?_)
  obtain rfl := hw
  obtain ⟨f_2, hP1, hD1⟩ := hB
  subst f_2
  rw [ht] at hP1
  obtain ⟨hP, hD⟩ := va_join (wr := [(m0, .inr (10, [.ref w0, .int 0])), (w0, .inr (9, [.int 0, .int 1, .int 0, .ref r_phases, .ref r_phase, .ref r_phaseTicks, .ref r_set, .ref r_least, .ref r_greatest, .int 0, .ref r_from, .ref r_to, .ref r_time, .ref r_room, .ref r_first, .ref r_rate, .ref r_cost, .ref r_isShut, .ref r_slowed, .ref r_row, .ref r_size, .ref r_came, .ref r_left, .ref r_mostQueue, .ref r_sumQueue, .ref r_turned, .int 0, .ref r_flowFrom, .ref r_flowTo, .ref r_kind, .ref r_start, .ref r_period, .ref r_count, .int 0, .ref r_flow, .ref r_began, .ref r_state, .ref r_link, .ref r_end, .ref r_gone, .ref r_trip, .ref r_delay, .ref r_way])), (o0, .inl (cy 1, 1, .inr (.inl ((fun _ => 0)))))]) (w1 := [(a0, .inr (8, [.ref a1, .ref aT])), (a1, .inr (5, [.ref a2, .ref b1, .ref b2, .ref b3, .ref b4, .ref b5, .int 0, .int 1, .int 0, .int 0, .int 0, .int 0])), (a2, .inr (2, [.ref b6, .int 0, .ref b7, .int 0]))]) hP hD [0, 1, 2] [3, 4, 5] rfl rfl (by decide) (by decide) hk1 hFc hP1 hD1
  generalize H1 = H at hP hS ⊢
  have hP : va_P (dC, dI) vwCl [(m0, .inr (10, [.ref w0, .int 0])), (w0, .inr (9, [.int 0, .int 1, .int 0, .ref r_phases, .ref r_phase, .ref r_phaseTicks, .ref r_set, .ref r_least, .ref r_greatest, .int 0, .ref r_from, .ref r_to, .ref r_time, .ref r_room, .ref r_first, .ref r_rate, .ref r_cost, .ref r_isShut, .ref r_slowed, .ref r_row, .ref r_size, .ref r_came, .ref r_left, .ref r_mostQueue, .ref r_sumQueue, .ref r_turned, .int 0, .ref r_flowFrom, .ref r_flowTo, .ref r_kind, .ref r_start, .ref r_period, .ref r_count, .int 0, .ref r_flow, .ref r_began, .ref r_state, .ref r_link, .ref r_end, .ref r_gone, .ref r_trip, .ref r_delay, .ref r_way])), (o0, .inl (cy 1, 1, .inr (.inl ((fun _ => 0))))), (a0, .inr (8, [.ref a1, .ref aT])), (a1, .inr (5, [.ref a2, .ref b1, .ref b2, .ref b3, .ref b4, .ref b5, .int 0, .int 1, .int 0, .int 0, .int 0, .int 0])), (a2, .inr (2, [.ref b6, .int 0, .ref b7, .int 0]))] _ := hP
  have hD : va_D A [(m0, .inr (10, [.ref w0, .int 0])), (w0, .inr (9, [.int 0, .int 1, .int 0, .ref r_phases, .ref r_phase, .ref r_phaseTicks, .ref r_set, .ref r_least, .ref r_greatest, .int 0, .ref r_from, .ref r_to, .ref r_time, .ref r_room, .ref r_first, .ref r_rate, .ref r_cost, .ref r_isShut, .ref r_slowed, .ref r_row, .ref r_size, .ref r_came, .ref r_left, .ref r_mostQueue, .ref r_sumQueue, .ref r_turned, .int 0, .ref r_flowFrom, .ref r_flowTo, .ref r_kind, .ref r_start, .ref r_period, .ref r_count, .int 0, .ref r_flow, .ref r_began, .ref r_state, .ref r_link, .ref r_end, .ref r_gone, .ref r_trip, .ref r_delay, .ref r_way])), (o0, .inl (cy 1, 1, .inr (.inl ((fun _ => 0))))), (a0, .inr (8, [.ref a1, .ref aT])), (a1, .inr (5, [.ref a2, .ref b1, .ref b2, .ref b3, .ref b4, .ref b5, .int 0, .int 1, .int 0, .int 0, .int 0, .int 0])), (a2, .inr (2, [.ref b6, .int 0, .ref b7, .int 0]))] := hD
  refine lv_aload_n hx hb dL_law_943 rfl (lv_at hl 2 rfl) ?_
  have hFc := va_free (wc := [(m0, .inr (10, [.ref w0, .int 0])), (w0, .inr (9, [.int 0, .int 1, .int 0, .ref r_phases, .ref r_phase, .ref r_phaseTicks, .ref r_set, .ref r_least, .ref r_greatest, .int 0, .ref r_from, .ref r_to, .ref r_time, .ref r_room, .ref r_first, .ref r_rate, .ref r_cost, .ref r_isShut, .ref r_slowed, .ref r_row, .ref r_size, .ref r_came, .ref r_left, .ref r_mostQueue, .ref r_sumQueue, .ref r_turned, .int 0, .ref r_flowFrom, .ref r_flowTo, .ref r_kind, .ref r_start, .ref r_period, .ref r_count, .int 0, .ref r_flow, .ref r_began, .ref r_state, .ref r_link, .ref r_end, .ref r_gone, .ref r_trip, .ref r_delay, .ref r_way]))]) hD hS hA [0, 1] rfl
  refine va_calli (va_runV (As := []) (rest := [.int 0]) ⟨hx, hb, hml, hown, hts⟩ (tm_m_links l hst dC dI cy m0 w0 0 r_phases r_phase r_phaseTicks r_set r_least r_greatest r_from r_to r_time r_room r_first r_rate r_cost r_isShut r_slowed r_row r_size r_came r_left r_mostQueue r_sumQueue r_turned r_flowFrom r_flowTo r_kind r_start r_period r_count r_flow r_began r_state r_link r_end r_gone r_trip r_delay r_way H.size) (tp_cwV 0 hts tw_1452 tw_1453 tw_1454 tw_48 tw_1455 rfl rfl (by decide +kernel) ⟨Nat.le_of_ble_eq_true rfl, Nat.le_of_ble_eq_true rfl⟩) ⟨tp_blind, va_recv hK hP (ci := 10) (q0 := 0) rfl rfl, fun U hU hW => ⟨rfl, tp_pay hK hP hD hE hZ hS [0, 1] (by decide) rfl hFc U hU hW⟩⟩ rfl rfl hl.1 rfl (lv_room (Nat.le_of_ble_eq_true rfl)) dL_law_944 ⟨(Nat.le_of_ble_eq_true rfl), (Nat.le_of_ble_eq_true rfl)⟩) hS (fun q _ h => hFc q h) hFc (fun r_3 u t H1 locs ht hvm hw hB hz1 hk1 hS => ?_)
  obtain rfl := hw
  obtain ⟨f_4, hP1, hD1⟩ := hB
  subst f_4
  rw [ht] at hP1
  obtain ⟨hP, hD⟩ := va_join (wr := [(o0, .inl (cy 1, 1, .inr (.inl ((fun _ => 0))))), (a0, .inr (8, [.ref a1, .ref aT])), (a1, .inr (5, [.ref a2, .ref b1, .ref b2, .ref b3, .ref b4, .ref b5, .int 0, .int 1, .int 0, .int 0, .int 0, .int 0])), (a2, .inr (2, [.ref b6, .int 0, .ref b7, .int 0]))]) (w1 := [(m0, .inr (10, [.ref w0, .int 0]))]) hP hD [0, 1] [2, 3, 4, 5] rfl rfl (by decide) (by decide) hk1 hFc hP1 hD1
  generalize H1 = H at hP hS ⊢
  have hP : va_P (dC, dI) vwCl [(o0, .inl (cy 1, 1, .inr (.inl ((fun _ => 0))))), (a0, .inr (8, [.ref a1, .ref aT])), (a1, .inr (5, [.ref a2, .ref b1, .ref b2, .ref b3, .ref b4, .ref b5, .int 0, .int 1, .int 0, .int 0, .int 0, .int 0])), (a2, .inr (2, [.ref b6, .int 0, .ref b7, .int 0])), (m0, .inr (10, [.ref w0, .int 0]))] _ := hP
  have hD : va_D A [(o0, .inl (cy 1, 1, .inr (.inl ((fun _ => 0))))), (a0, .inr (8, [.ref a1, .ref aT])), (a1, .inr (5, [.ref a2, .ref b1, .ref b2, .ref b3, .ref b4, .ref b5, .int 0, .int 1, .int 0, .int 0, .int 0, .int 0])), (a2, .inr (2, [.ref b6, .int 0, .ref b7, .int 0])), (m0, .inr (10, [.ref w0, .int 0]))] := hD
  refine lv_icmp_eq (tgt := 2504) hx hb dL_law_947 (by decide) (fun _ => ?_) (fun c_5 => absurd rfl c_5)
  exact tc_end hd0 hs C1 hX (Nat.le_of_ble_eq_true rfl) (Nat.le_of_ble_eq_true rfl) H _ ls hS (lv_sub hl [0, 4] rfl)
theorem tw_425 : Cond.methodLink RL 178 yX8_flows ∈ tp_all := tp_mem 425 (by decide +kernel) rfl
theorem tw_1459 : Cond.code yX10_flows cX10_flows 1 (some .int) ∈ tp_all := tp_mem 1459 (by decide +kernel) rfl
theorem tw_1456 : Cond.methodLink RL 181 yX10_flows ∈ tp_all := tp_mem 1456 (by decide +kernel) rfl
theorem tw_1457 : Cond.instanceMethod yX10_flows ∈ tp_all := tp_mem 1457 (by decide +kernel) rfl
theorem tw_1458 : Cond.selects RX10 yX10_flows yX10_flows ∈ tp_all := tp_mem 1458 (by decide +kernel) rfl
theorem dL_law_952 : decode cL_law 952 = .ok (.aload_n 1, 1) := by decide +kernel
theorem dL_law_953 : decode cL_law 953 = .ok (.invokevirtual 178, 3) := by decide +kernel
theorem dL_law_956 : decode cL_law 956 = .ok (.aload_n 2, 1) := by decide +kernel
theorem dL_law_957 : decode cL_law 957 = .ok (.invokevirtual 181, 3) := by decide +kernel
theorem dL_law_960 : decode cL_law 960 = .ok (.if_icmp .eq 1544, 3) := by decide +kernel
set_option maxRecDepth 100000 in
set_option maxHeartbeats 4000000 in
/-- the case 12 -/
theorem tc_12 {p : Program} {l : Launch} {e : Env} {s0 s : State} {m : MethodId} {below : List Frame} {meth : Method} {c : Code} {A : Nat → Prop} (hst : l.stackTraces = false) {dC : Nat → ClassId} {dI : Nat → Nat → Nat} {cy : Nat → ClassId} {b : Nat} {xs : Nat → Int32} {d0 : Drawn} (hd0 : s0.drawn.sameBut d0 lw_cs) (hs : s = s0.setDrawn d0) (C1 : tc_At p s m meth c b #[Value.ref b] A dC dI cy) (hX : va_X b 7 xs s s.heap) {a0 : Nat} {a1 : Nat} {a2 : Nat} {aT : Nat} {b1 : Nat} {b2 : Nat} {b3 : Nat} {b4 : Nat} {b5 : Nat} {b6 : Nat} {b7 : Nat} {m0 : Nat} {w0 : Nat} {o0 : Nat} {r_phases : Nat} {r_phase : Nat} {r_phaseTicks : Nat} {r_set : Nat} {r_least : Nat} {r_greatest : Nat} {r_from : Nat} {r_to : Nat} {r_time : Nat} {r_room : Nat} {r_first : Nat} {r_rate : Nat} {r_cost : Nat} {r_isShut : Nat} {r_slowed : Nat} {r_row : Nat} {r_size : Nat} {r_came : Nat} {r_left : Nat} {r_mostQueue : Nat} {r_sumQueue : Nat} {r_turned : Nat} {r_flowFrom : Nat} {r_flowTo : Nat} {r_kind : Nat} {r_start : Nat} {r_period : Nat} {r_count : Nat} {r_flow : Nat} {r_began : Nat} {r_state : Nat} {r_link : Nat} {r_end : Nat} {r_gone : Nat} {r_trip : Nat} {r_delay : Nat} {r_way : Nat} (H : Heap) (locs : List Loc) (ls : Array Slot) (hP : va_P (dC, dI) vwCl [(a0, .inr (8, [.ref a1, .ref aT])), (a1, .inr (5, [.ref a2, .ref b1, .ref b2, .ref b3, .ref b4, .ref b5, .int 0, .int 1, .int 0, .int 0, .int 0, .int 0])), (a2, .inr (2, [.ref b6, .int 0, .ref b7, .int 0])), (m0, .inr (10, [.ref w0, .int 0])), (w0, .inr (9, [.int 0, .int 1, .int 0, .ref r_phases, .ref r_phase, .ref r_phaseTicks, .ref r_set, .ref r_least, .ref r_greatest, .int 0, .ref r_from, .ref r_to, .ref r_time, .ref r_room, .ref r_first, .ref r_rate, .ref r_cost, .ref r_isShut, .ref r_slowed, .ref r_row, .ref r_size, .ref r_came, .ref r_left, .ref r_mostQueue, .ref r_sumQueue, .ref r_turned, .int 0, .ref r_flowFrom, .ref r_flowTo, .ref r_kind, .ref r_start, .ref r_period, .ref r_count, .int 0, .ref r_flow, .ref r_began, .ref r_state, .ref r_link, .ref r_end, .ref r_gone, .ref r_trip, .ref r_delay, .ref r_way])), (o0, .inl (cy 1, 1, .inr (.inl ((fun _ => 0)))))] H) (hD : va_D A [(a0, .inr (8, [.ref a1, .ref aT])), (a1, .inr (5, [.ref a2, .ref b1, .ref b2, .ref b3, .ref b4, .ref b5, .int 0, .int 1, .int 0, .int 0, .int 0, .int 0])), (a2, .inr (2, [.ref b6, .int 0, .ref b7, .int 0])), (m0, .inr (10, [.ref w0, .int 0])), (w0, .inr (9, [.int 0, .int 1, .int 0, .ref r_phases, .ref r_phase, .ref r_phaseTicks, .ref r_set, .ref r_least, .ref r_greatest, .int 0, .ref r_from, .ref r_to, .ref r_time, .ref r_room, .ref r_first, .ref r_rate, .ref r_cost, .ref r_isShut, .ref r_slowed, .ref r_row, .ref r_size, .ref r_came, .ref r_left, .ref r_mostQueue, .ref r_sumQueue, .ref r_turned, .int 0, .ref r_flowFrom, .ref r_flowTo, .ref r_kind, .ref r_start, .ref r_period, .ref r_count, .int 0, .ref r_flow, .ref r_began, .ref r_state, .ref r_link, .ref r_end, .ref r_gone, .ref r_trip, .ref r_delay, .ref r_way])), (o0, .inl (cy 1, 1, .inr (.inl ((fun _ => 0)))))]) (hS : va_S A s.heap H locs) (hl : lv_has ls 9 [(0, .ref b), (1, .ref a0), (2, .ref m0), (3, .ref o0), (4, .int 0)]) : W p l e room_1 s m #[Value.ref b] below meth c H locs 1535 31585 (lw_Z below #[Value.ref b] s0) (F0 m 952 ls []) := by
  have C2 := C1
  obtain ⟨hx, hb, hr, hml, hown, hts, hbl, hlocks, hK, hE, hZ, hA, hbA, hA2⟩ := C2
  refine lv_aload_n hx hb dL_law_952 rfl (lv_at hl 1 rfl) ?_
  have hFc := va_free (wc := [(a0, .inr (8, [.ref a1, .ref aT])), (a1, .inr (5, [.ref a2, .ref b1, .ref b2, .ref b3, .ref b4, .ref b5, .int 0, .int 1, .int 0, .int 0, .int 0, .int 0])), (a2, .inr (2, [.ref b6, .int 0, .ref b7, .int 0]))]) hD hS hA [0, 1, 2] rfl
  refine va_calli (va_runV (As := []) (rest := []) ⟨hx, hb, hml, hown, hts⟩ (tm_flows l hst dC dI cy a0 a1 a2 aT b1 b2 b3 b4 b5 b6 b7 H.size) (tp_cwV 0 hts tw_425 tw_426 tw_427 tw_38 tw_428 rfl rfl (by decide +kernel) ⟨Nat.le_of_ble_eq_true rfl, Nat.le_of_ble_eq_true rfl⟩) ⟨tp_blind, va_recv hK hP (ci := 8) (q0 := 0) rfl rfl, fun U hU hW => ⟨rfl, tp_pay hK hP hD hE hZ hS [0, 1, 2] (by decide) rfl hFc U hU hW⟩⟩ rfl rfl hl.1 rfl (lv_room (Nat.le_of_ble_eq_true rfl)) dL_law_953 ⟨(Nat.le_of_ble_eq_true rfl), (Nat.le_of_ble_eq_true rfl)⟩) hS (fun q _ h => hFc q h) hFc (fun r_1 u t H1 locs ht hvm hw hB hz1 hk1 hS => ?_)
  obtain rfl := hw
  obtain ⟨f_2, hP1, hD1⟩ := hB
  subst f_2
  rw [ht] at hP1
  obtain ⟨hP, hD⟩ := va_join (wr := [(m0, .inr (10, [.ref w0, .int 0])), (w0, .inr (9, [.int 0, .int 1, .int 0, .ref r_phases, .ref r_phase, .ref r_phaseTicks, .ref r_set, .ref r_least, .ref r_greatest, .int 0, .ref r_from, .ref r_to, .ref r_time, .ref r_room, .ref r_first, .ref r_rate, .ref r_cost, .ref r_isShut, .ref r_slowed, .ref r_row, .ref r_size, .ref r_came, .ref r_left, .ref r_mostQueue, .ref r_sumQueue, .ref r_turned, .int 0, .ref r_flowFrom, .ref r_flowTo, .ref r_kind, .ref r_start, .ref r_period, .ref r_count, .int 0, .ref r_flow, .ref r_began, .ref r_state, .ref r_link, .ref r_end, .ref r_gone, .ref r_trip, .ref r_delay, .ref r_way])), (o0, .inl (cy 1, 1, .inr (.inl ((fun _ => 0)))))]) (w1 := [(a0, .inr (8, [.ref a1, .ref aT])), (a1, .inr (5, [.ref a2, .ref b1, .ref b2, .ref b3, .ref b4, .ref b5, .int 0, .int 1, .int 0, .int 0, .int 0, .int 0])), (a2, .inr (2, [.ref b6, .int 0, .ref b7, .int 0]))]) hP hD [0, 1, 2] [3, 4, 5] rfl rfl (by decide) (by decide) hk1 hFc hP1 hD1
  generalize H1 = H at hP hS ⊢
  have hP : va_P (dC, dI) vwCl [(m0, .inr (10, [.ref w0, .int 0])), (w0, .inr (9, [.int 0, .int 1, .int 0, .ref r_phases, .ref r_phase, .ref r_phaseTicks, .ref r_set, .ref r_least, .ref r_greatest, .int 0, .ref r_from, .ref r_to, .ref r_time, .ref r_room, .ref r_first, .ref r_rate, .ref r_cost, .ref r_isShut, .ref r_slowed, .ref r_row, .ref r_size, .ref r_came, .ref r_left, .ref r_mostQueue, .ref r_sumQueue, .ref r_turned, .int 0, .ref r_flowFrom, .ref r_flowTo, .ref r_kind, .ref r_start, .ref r_period, .ref r_count, .int 0, .ref r_flow, .ref r_began, .ref r_state, .ref r_link, .ref r_end, .ref r_gone, .ref r_trip, .ref r_delay, .ref r_way])), (o0, .inl (cy 1, 1, .inr (.inl ((fun _ => 0))))), (a0, .inr (8, [.ref a1, .ref aT])), (a1, .inr (5, [.ref a2, .ref b1, .ref b2, .ref b3, .ref b4, .ref b5, .int 0, .int 1, .int 0, .int 0, .int 0, .int 0])), (a2, .inr (2, [.ref b6, .int 0, .ref b7, .int 0]))] _ := hP
  have hD : va_D A [(m0, .inr (10, [.ref w0, .int 0])), (w0, .inr (9, [.int 0, .int 1, .int 0, .ref r_phases, .ref r_phase, .ref r_phaseTicks, .ref r_set, .ref r_least, .ref r_greatest, .int 0, .ref r_from, .ref r_to, .ref r_time, .ref r_room, .ref r_first, .ref r_rate, .ref r_cost, .ref r_isShut, .ref r_slowed, .ref r_row, .ref r_size, .ref r_came, .ref r_left, .ref r_mostQueue, .ref r_sumQueue, .ref r_turned, .int 0, .ref r_flowFrom, .ref r_flowTo, .ref r_kind, .ref r_start, .ref r_period, .ref r_count, .int 0, .ref r_flow, .ref r_began, .ref r_state, .ref r_link, .ref r_end, .ref r_gone, .ref r_trip, .ref r_delay, .ref r_way])), (o0, .inl (cy 1, 1, .inr (.inl ((fun _ => 0))))), (a0, .inr (8, [.ref a1, .ref aT])), (a1, .inr (5, [.ref a2, .ref b1, .ref b2, .ref b3, .ref b4, .ref b5, .int 0, .int 1, .int 0, .int 0, .int 0, .int 0])), (a2, .inr (2, [.ref b6, .int 0, .ref b7, .int 0]))] := hD
  refine lv_aload_n hx hb dL_law_956 rfl (lv_at hl 2 rfl) ?_
  have hFc := va_free (wc := [(m0, .inr (10, [.ref w0, .int 0])), (w0, .inr (9, [.int 0, .int 1, .int 0, .ref r_phases, .ref r_phase, .ref r_phaseTicks, .ref r_set, .ref r_least, .ref r_greatest, .int 0, .ref r_from, .ref r_to, .ref r_time, .ref r_room, .ref r_first, .ref r_rate, .ref r_cost, .ref r_isShut, .ref r_slowed, .ref r_row, .ref r_size, .ref r_came, .ref r_left, .ref r_mostQueue, .ref r_sumQueue, .ref r_turned, .int 0, .ref r_flowFrom, .ref r_flowTo, .ref r_kind, .ref r_start, .ref r_period, .ref r_count, .int 0, .ref r_flow, .ref r_began, .ref r_state, .ref r_link, .ref r_end, .ref r_gone, .ref r_trip, .ref r_delay, .ref r_way]))]) hD hS hA [0, 1] rfl
  refine va_calli (va_runV (As := []) (rest := [.int 0]) ⟨hx, hb, hml, hown, hts⟩ (tm_m_flows l hst dC dI cy m0 w0 0 r_phases r_phase r_phaseTicks r_set r_least r_greatest r_from r_to r_time r_room r_first r_rate r_cost r_isShut r_slowed r_row r_size r_came r_left r_mostQueue r_sumQueue r_turned r_flowFrom r_flowTo r_kind r_start r_period r_count r_flow r_began r_state r_link r_end r_gone r_trip r_delay r_way H.size) (tp_cwV 0 hts tw_1456 tw_1457 tw_1458 tw_48 tw_1459 rfl rfl (by decide +kernel) ⟨Nat.le_of_ble_eq_true rfl, Nat.le_of_ble_eq_true rfl⟩) ⟨tp_blind, va_recv hK hP (ci := 10) (q0 := 0) rfl rfl, fun U hU hW => ⟨rfl, tp_pay hK hP hD hE hZ hS [0, 1] (by decide) rfl hFc U hU hW⟩⟩ rfl rfl hl.1 rfl (lv_room (Nat.le_of_ble_eq_true rfl)) dL_law_957 ⟨(Nat.le_of_ble_eq_true rfl), (Nat.le_of_ble_eq_true rfl)⟩) hS (fun q _ h => hFc q h) hFc (fun r_3 u t H1 locs ht hvm hw hB hz1 hk1 hS => ?_)
  obtain rfl := hw
  obtain ⟨f_4, hP1, hD1⟩ := hB
  subst f_4
  rw [ht] at hP1
  obtain ⟨hP, hD⟩ := va_join (wr := [(o0, .inl (cy 1, 1, .inr (.inl ((fun _ => 0))))), (a0, .inr (8, [.ref a1, .ref aT])), (a1, .inr (5, [.ref a2, .ref b1, .ref b2, .ref b3, .ref b4, .ref b5, .int 0, .int 1, .int 0, .int 0, .int 0, .int 0])), (a2, .inr (2, [.ref b6, .int 0, .ref b7, .int 0]))]) (w1 := [(m0, .inr (10, [.ref w0, .int 0]))]) hP hD [0, 1] [2, 3, 4, 5] rfl rfl (by decide) (by decide) hk1 hFc hP1 hD1
  generalize H1 = H at hP hS ⊢
  have hP : va_P (dC, dI) vwCl [(o0, .inl (cy 1, 1, .inr (.inl ((fun _ => 0))))), (a0, .inr (8, [.ref a1, .ref aT])), (a1, .inr (5, [.ref a2, .ref b1, .ref b2, .ref b3, .ref b4, .ref b5, .int 0, .int 1, .int 0, .int 0, .int 0, .int 0])), (a2, .inr (2, [.ref b6, .int 0, .ref b7, .int 0])), (m0, .inr (10, [.ref w0, .int 0]))] _ := hP
  have hD : va_D A [(o0, .inl (cy 1, 1, .inr (.inl ((fun _ => 0))))), (a0, .inr (8, [.ref a1, .ref aT])), (a1, .inr (5, [.ref a2, .ref b1, .ref b2, .ref b3, .ref b4, .ref b5, .int 0, .int 1, .int 0, .int 0, .int 0, .int 0])), (a2, .inr (2, [.ref b6, .int 0, .ref b7, .int 0])), (m0, .inr (10, [.ref w0, .int 0]))] := hD
  refine lv_icmp_eq (tgt := 2504) hx hb dL_law_960 (by decide) (fun _ => ?_) (fun c_5 => absurd rfl c_5)
  exact tc_end hd0 hs C1 hX (Nat.le_of_ble_eq_true rfl) (Nat.le_of_ble_eq_true rfl) H _ ls hS (lv_sub hl [0, 4] rfl)
theorem tw_978 : Cond.codeWith yL_isShut cL_isShut 4 (some .int) [(0, 16, 19, 19)] ∈ tp_all := tp_mem 978 (by decide +kernel) rfl
theorem tw_976 : Cond.methodLink RL 182 yL_isShut ∈ tp_all := tp_mem 976 (by decide +kernel) rfl
theorem tw_977 : Cond.static yL_isShut ∈ tp_all := tp_mem 977 (by decide +kernel) rfl
theorem tw_1463 : Cond.code yX10_isShut cX10_isShut 2 (some .boolean) ∈ tp_all := tp_mem 1463 (by decide +kernel) rfl
theorem tw_1460 : Cond.methodLink RL 184 yX10_isShut ∈ tp_all := tp_mem 1460 (by decide +kernel) rfl
theorem tw_1461 : Cond.instanceMethod yX10_isShut ∈ tp_all := tp_mem 1461 (by decide +kernel) rfl
theorem tw_1462 : Cond.selects RX10 yX10_isShut yX10_isShut ∈ tp_all := tp_mem 1462 (by decide +kernel) rfl
theorem dL_law_965 : decode cL_law 965 = .ok (.aload_n 1, 1) := by decide +kernel
theorem dL_law_966 : decode cL_law 966 = .ok (.aload_n 0, 1) := by decide +kernel
theorem dL_law_967 : decode cL_law 967 = .ok (.iload 4, 2) := by decide +kernel
theorem dL_law_969 : decode cL_law 969 = .ok (.iconst 1, 1) := by decide +kernel
theorem dL_law_970 : decode cL_law 970 = .ok (.iadd, 1) := by decide +kernel
theorem dL_law_971 : decode cL_law 971 = .ok (.iaload, 1) := by decide +kernel
theorem dL_law_972 : decode cL_law 972 = .ok (.aload_n 3, 1) := by decide +kernel
theorem dL_law_973 : decode cL_law 973 = .ok (.invokestatic 182, 3) := by decide +kernel
theorem dL_law_976 : decode cL_law 976 = .ok (.istore 5, 2) := by decide +kernel
theorem dL_law_978 : decode cL_law 978 = .ok (.aload_n 2, 1) := by decide +kernel
theorem dL_law_979 : decode cL_law 979 = .ok (.aload_n 0, 1) := by decide +kernel
theorem dL_law_980 : decode cL_law 980 = .ok (.iload 4, 2) := by decide +kernel
theorem dL_law_982 : decode cL_law 982 = .ok (.iconst 1, 1) := by decide +kernel
theorem dL_law_983 : decode cL_law 983 = .ok (.iadd, 1) := by decide +kernel
theorem dL_law_984 : decode cL_law 984 = .ok (.iaload, 1) := by decide +kernel
theorem dL_law_985 : decode cL_law 985 = .ok (.invokevirtual 184, 3) := by decide +kernel
theorem dL_law_988 : decode cL_law 988 = .ok (.istore 6, 2) := by decide +kernel
theorem dL_law_990 : decode cL_law 990 = .ok (.aload_n 2, 1) := by decide +kernel
theorem dL_law_991 : decode cL_law 991 = .ok (.invokevirtual 133, 3) := by decide +kernel
theorem dL_law_994 : decode cL_law 994 = .ok (.iload 5, 2) := by decide +kernel
theorem dL_law_996 : decode cL_law 996 = .ok (.if_icmp .eq 5, 3) := by decide +kernel
theorem dL_law_1001 : decode cL_law 1001 = .ok (.iload 5, 2) := by decide +kernel
theorem dL_law_1003 : decode cL_law 1003 = .ok (.ifCond .ne 22, 3) := by decide +kernel
theorem dL_law_1025 : decode cL_law 1025 = .ok (.goto 1479, 3) := by decide +kernel
set_option maxRecDepth 100000 in
set_option maxHeartbeats 4000000 in
/-- the case 13 -/
theorem tc_13 {p : Program} {l : Launch} {e : Env} {s0 s : State} {m : MethodId} {below : List Frame} {meth : Method} {c : Code} {A : Nat → Prop} (hst : l.stackTraces = false) {dC : Nat → ClassId} {dI : Nat → Nat → Nat} {cy : Nat → ClassId} {b : Nat} {xs : Nat → Int32} {d0 : Drawn} (hd0 : s0.drawn.sameBut d0 lw_cs) (hs : s = s0.setDrawn d0) (C1 : tc_At p s m meth c b #[Value.ref b] A dC dI cy) (hX : va_X b 7 xs s s.heap) {a0 : Nat} {a1 : Nat} {a2 : Nat} {aT : Nat} {b1 : Nat} {b2 : Nat} {b3 : Nat} {b4 : Nat} {b5 : Nat} {b6 : Nat} {b7 : Nat} {m0 : Nat} {w0 : Nat} {o0 : Nat} {r_phases : Nat} {r_phase : Nat} {r_phaseTicks : Nat} {r_set : Nat} {r_least : Nat} {r_greatest : Nat} {r_from : Nat} {r_to : Nat} {r_time : Nat} {r_room : Nat} {r_first : Nat} {r_rate : Nat} {r_cost : Nat} {r_isShut : Nat} {r_slowed : Nat} {r_row : Nat} {r_size : Nat} {r_came : Nat} {r_left : Nat} {r_mostQueue : Nat} {r_sumQueue : Nat} {r_turned : Nat} {r_flowFrom : Nat} {r_flowTo : Nat} {r_kind : Nat} {r_start : Nat} {r_period : Nat} {r_count : Nat} {r_flow : Nat} {r_began : Nat} {r_state : Nat} {r_link : Nat} {r_end : Nat} {r_gone : Nat} {r_trip : Nat} {r_delay : Nat} {r_way : Nat} (H : Heap) (locs : List Loc) (ls : Array Slot) (hP : va_P (dC, dI) vwCl [(a0, .inr (8, [.ref a1, .ref aT])), (a1, .inr (5, [.ref a2, .ref b1, .ref b2, .ref b3, .ref b4, .ref b5, .int 0, .int 1, .int 0, .int 0, .int 0, .int 0])), (a2, .inr (2, [.ref b6, .int 0, .ref b7, .int 0])), (m0, .inr (10, [.ref w0, .int 0])), (w0, .inr (9, [.int 0, .int 1, .int 0, .ref r_phases, .ref r_phase, .ref r_phaseTicks, .ref r_set, .ref r_least, .ref r_greatest, .int 0, .ref r_from, .ref r_to, .ref r_time, .ref r_room, .ref r_first, .ref r_rate, .ref r_cost, .ref r_isShut, .ref r_slowed, .ref r_row, .ref r_size, .ref r_came, .ref r_left, .ref r_mostQueue, .ref r_sumQueue, .ref r_turned, .int 0, .ref r_flowFrom, .ref r_flowTo, .ref r_kind, .ref r_start, .ref r_period, .ref r_count, .int 0, .ref r_flow, .ref r_began, .ref r_state, .ref r_link, .ref r_end, .ref r_gone, .ref r_trip, .ref r_delay, .ref r_way])), (o0, .inl (cy 1, 1, .inr (.inl ((fun _ => 0)))))] H) (hD : va_D A [(a0, .inr (8, [.ref a1, .ref aT])), (a1, .inr (5, [.ref a2, .ref b1, .ref b2, .ref b3, .ref b4, .ref b5, .int 0, .int 1, .int 0, .int 0, .int 0, .int 0])), (a2, .inr (2, [.ref b6, .int 0, .ref b7, .int 0])), (m0, .inr (10, [.ref w0, .int 0])), (w0, .inr (9, [.int 0, .int 1, .int 0, .ref r_phases, .ref r_phase, .ref r_phaseTicks, .ref r_set, .ref r_least, .ref r_greatest, .int 0, .ref r_from, .ref r_to, .ref r_time, .ref r_room, .ref r_first, .ref r_rate, .ref r_cost, .ref r_isShut, .ref r_slowed, .ref r_row, .ref r_size, .ref r_came, .ref r_left, .ref r_mostQueue, .ref r_sumQueue, .ref r_turned, .int 0, .ref r_flowFrom, .ref r_flowTo, .ref r_kind, .ref r_start, .ref r_period, .ref r_count, .int 0, .ref r_flow, .ref r_began, .ref r_state, .ref r_link, .ref r_end, .ref r_gone, .ref r_trip, .ref r_delay, .ref r_way])), (o0, .inl (cy 1, 1, .inr (.inl ((fun _ => 0)))))]) (hS : va_S A s.heap H locs) (hl : lv_has ls 9 [(0, .ref b), (1, .ref a0), (2, .ref m0), (3, .ref o0), (4, .int 0)]) : W p l e room_1 s m #[Value.ref b] below meth c H locs 1535 31585 (lw_Z below #[Value.ref b] s0) (F0 m 965 ls []) := by
  have C2 := C1
  obtain ⟨hx, hb, hr, hml, hown, hts, hbl, hlocks, hK, hE, hZ, hA, hbA, hA2⟩ := C2
  refine lv_aload_n hx hb dL_law_965 rfl (lv_at hl 1 rfl) ?_
  refine lv_aload_n hx hb dL_law_966 rfl (lv_at hl 0 rfl) ?_
  refine lv_iload hx hb dL_law_967 (lv_at hl 4 rfl) ?_
  refine lv_iconst (v := 1) hx hb dL_law_969 (by decide) ?_
  refine lv_iadd hx hb dL_law_970 ?_
  refine va_sld hx hb hX hbl hbA hS (by unfold vp_in; decide) dL_law_971 ?_
  refine lv_aload_n hx hb dL_law_972 rfl (lv_at hl 3 rfl) ?_
  have hFc := va_free (wc := [(a0, .inr (8, [.ref a1, .ref aT])), (a1, .inr (5, [.ref a2, .ref b1, .ref b2, .ref b3, .ref b4, .ref b5, .int 0, .int 1, .int 0, .int 0, .int 0, .int 0])), (a2, .inr (2, [.ref b6, .int 0, .ref b7, .int 0])), (o0, .inl (cy 1, 1, .inr (.inl ((fun _ => 0)))))]) hD hS hA [0, 1, 2, 5] rfl
  refine vx_calli (vx_runSX (As := [.ref a0, .int (xs (0 + 1 : Int32).toNatClampNeg), .ref o0]) (rest := []) ⟨hx, hb, hml, hown, hts⟩ (tm_L_isShut l hst dC dI cy a0 a1 a2 aT b1 b2 b3 b4 b5 b6 b7 o0 (xs (0 + 1 : Int32).toNatClampNeg) H.size) (tp_cwSW 3 hts tw_976 tw_977 tw_37 tw_978 rfl rfl (by decide +kernel) ⟨Nat.le_of_ble_eq_true rfl, Nat.le_of_ble_eq_true rfl⟩) ⟨tp_blind, fun U hU hW => ⟨rfl, tp_pay hK hP hD hE hZ hS [0, 1, 2, 5] (by decide) rfl hFc U hU hW⟩⟩ rfl rfl hl.1 rfl (lv_room (Nat.le_of_ble_eq_true rfl)) dL_law_973 ⟨(Nat.le_of_ble_eq_true rfl), (Nat.le_of_ble_eq_true rfl)⟩) hS (fun q _ h => hFc q h) hFc (fun q _ h => hFc q h) (fun E9 ce q9 u t H1 locs ht hvm hw hB hz1 hk1 hS hce hcv hcl => ?_) (fun r_1 u t H1 locs ht hvm hw hB hz1 hk1 hS => ?_)
  · obtain ⟨hE9, hB⟩ := hB
    exact hE9.elim
  · obtain rfl := hw
    obtain ⟨f_2, hP1, hD1⟩ := hB
    subst f_2
    rw [ht] at hP1
    obtain ⟨hP, hD⟩ := va_join (wr := [(m0, .inr (10, [.ref w0, .int 0])), (w0, .inr (9, [.int 0, .int 1, .int 0, .ref r_phases, .ref r_phase, .ref r_phaseTicks, .ref r_set, .ref r_least, .ref r_greatest, .int 0, .ref r_from, .ref r_to, .ref r_time, .ref r_room, .ref r_first, .ref r_rate, .ref r_cost, .ref r_isShut, .ref r_slowed, .ref r_row, .ref r_size, .ref r_came, .ref r_left, .ref r_mostQueue, .ref r_sumQueue, .ref r_turned, .int 0, .ref r_flowFrom, .ref r_flowTo, .ref r_kind, .ref r_start, .ref r_period, .ref r_count, .int 0, .ref r_flow, .ref r_began, .ref r_state, .ref r_link, .ref r_end, .ref r_gone, .ref r_trip, .ref r_delay, .ref r_way]))]) (w1 := [(o0, .inl (cy 1, 1, .inr (.inl ((fun _ => 0)))))]) hP hD [0, 1, 2, 5] [3, 4] rfl rfl (by decide) (by decide) hk1 hFc hP1 hD1
    generalize H1 = H at hP hS ⊢
    have hP : va_P (dC, dI) vwCl [(m0, .inr (10, [.ref w0, .int 0])), (w0, .inr (9, [.int 0, .int 1, .int 0, .ref r_phases, .ref r_phase, .ref r_phaseTicks, .ref r_set, .ref r_least, .ref r_greatest, .int 0, .ref r_from, .ref r_to, .ref r_time, .ref r_room, .ref r_first, .ref r_rate, .ref r_cost, .ref r_isShut, .ref r_slowed, .ref r_row, .ref r_size, .ref r_came, .ref r_left, .ref r_mostQueue, .ref r_sumQueue, .ref r_turned, .int 0, .ref r_flowFrom, .ref r_flowTo, .ref r_kind, .ref r_start, .ref r_period, .ref r_count, .int 0, .ref r_flow, .ref r_began, .ref r_state, .ref r_link, .ref r_end, .ref r_gone, .ref r_trip, .ref r_delay, .ref r_way])), (o0, .inl (cy 1, 1, .inr (.inl ((fun _ => 0)))))] _ := hP
    have hD : va_D A [(m0, .inr (10, [.ref w0, .int 0])), (w0, .inr (9, [.int 0, .int 1, .int 0, .ref r_phases, .ref r_phase, .ref r_phaseTicks, .ref r_set, .ref r_least, .ref r_greatest, .int 0, .ref r_from, .ref r_to, .ref r_time, .ref r_room, .ref r_first, .ref r_rate, .ref r_cost, .ref r_isShut, .ref r_slowed, .ref r_row, .ref r_size, .ref r_came, .ref r_left, .ref r_mostQueue, .ref r_sumQueue, .ref r_turned, .int 0, .ref r_flowFrom, .ref r_flowTo, .ref r_kind, .ref r_start, .ref r_period, .ref r_count, .int 0, .ref r_flow, .ref r_began, .ref r_state, .ref r_link, .ref r_end, .ref r_gone, .ref r_trip, .ref r_delay, .ref r_way])), (o0, .inl (cy 1, 1, .inr (.inl ((fun _ => 0)))))] := hD
    refine lv_istore (lv' := [(5, .int 1), (0, .ref b), (1, .ref a0), (2, .ref m0), (3, .ref o0), (4, .int 0)]) hx hb dL_law_976 hl (by decide) rfl (fun ls hl => ?_)
    refine lv_aload_n hx hb dL_law_978 rfl (lv_at hl 3 rfl) ?_
    refine lv_aload_n hx hb dL_law_979 rfl (lv_at hl 1 rfl) ?_
    refine lv_iload hx hb dL_law_980 (lv_at hl 5 rfl) ?_
    refine lv_iconst (v := 1) hx hb dL_law_982 (by decide) ?_
    refine lv_iadd hx hb dL_law_983 ?_
    refine va_sld hx hb hX hbl hbA hS (by unfold vp_in; decide) dL_law_984 ?_
    have hFc := va_free (wc := [(m0, .inr (10, [.ref w0, .int 0])), (w0, .inr (9, [.int 0, .int 1, .int 0, .ref r_phases, .ref r_phase, .ref r_phaseTicks, .ref r_set, .ref r_least, .ref r_greatest, .int 0, .ref r_from, .ref r_to, .ref r_time, .ref r_room, .ref r_first, .ref r_rate, .ref r_cost, .ref r_isShut, .ref r_slowed, .ref r_row, .ref r_size, .ref r_came, .ref r_left, .ref r_mostQueue, .ref r_sumQueue, .ref r_turned, .int 0, .ref r_flowFrom, .ref r_flowTo, .ref r_kind, .ref r_start, .ref r_period, .ref r_count, .int 0, .ref r_flow, .ref r_began, .ref r_state, .ref r_link, .ref r_end, .ref r_gone, .ref r_trip, .ref r_delay, .ref r_way]))]) hD hS hA [0, 1] rfl
    refine va_calli (va_runV (As := [.int (xs (0 + 1 : Int32).toNatClampNeg)]) (rest := []) ⟨hx, hb, hml, hown, hts⟩ (tm_m_isShut l hst dC dI cy m0 w0 0 r_phases r_phase r_phaseTicks r_set r_least r_greatest r_from r_to r_time r_room r_first r_rate r_cost r_isShut r_slowed r_row r_size r_came r_left r_mostQueue r_sumQueue r_turned r_flowFrom r_flowTo r_kind r_start r_period r_count r_flow r_began r_state r_link r_end r_gone r_trip r_delay r_way (xs (0 + 1 : Int32).toNatClampNeg) H.size) (tp_cwV 1 hts tw_1460 tw_1461 tw_1462 tw_48 tw_1463 rfl rfl (by decide +kernel) ⟨Nat.le_of_ble_eq_true rfl, Nat.le_of_ble_eq_true rfl⟩) ⟨tp_blind, va_recv hK hP (ci := 10) (q0 := 0) rfl rfl, fun U hU hW => ⟨rfl, tp_pay hK hP hD hE hZ hS [0, 1] (by decide) rfl hFc U hU hW⟩⟩ rfl rfl hl.1 rfl (lv_room (Nat.le_of_ble_eq_true rfl)) dL_law_985 ⟨(Nat.le_of_ble_eq_true rfl), (Nat.le_of_ble_eq_true rfl)⟩) hS (fun q _ h => hFc q h) hFc (fun r_3 u t H1 locs ht hvm hw hB hz1 hk1 hS => ?_)
    obtain rfl := hw
    obtain ⟨f_4, hP1, hD1⟩ := hB
    subst f_4
    rw [ht] at hP1
    obtain ⟨hP, hD⟩ := va_join (wr := [(o0, .inl (cy 1, 1, .inr (.inl ((fun _ => 0)))))]) (w1 := [(m0, .inr (10, [.ref w0, .int 1]))]) hP hD [0, 1] [2] rfl rfl (by decide) (by decide) hk1 hFc hP1 hD1
    generalize H1 = H at hP hS ⊢
    have hP : va_P (dC, dI) vwCl [(o0, .inl (cy 1, 1, .inr (.inl ((fun _ => 0))))), (m0, .inr (10, [.ref w0, .int 1]))] _ := hP
    have hD : va_D A [(o0, .inl (cy 1, 1, .inr (.inl ((fun _ => 0))))), (m0, .inr (10, [.ref w0, .int 1]))] := hD
    refine lv_istore (lv' := [(6, .int 0), (5, .int 1), (0, .ref b), (1, .ref a0), (2, .ref m0), (3, .ref o0), (4, .int 0)]) hx hb dL_law_988 hl (by decide) rfl (fun ls hl => ?_)
    refine lv_aload_n hx hb dL_law_990 rfl (lv_at hl 4 rfl) ?_
    have hFc := va_free (wc := [(m0, .inr (10, [.ref w0, .int 1]))]) hD hS hA [1] rfl
    refine va_calli (va_runV (As := []) (rest := []) ⟨hx, hb, hml, hown, hts⟩ (tm_m_thrown l hst dC dI cy m0 w0 1 H.size) (tp_cwV 0 hts tw_1317 tw_1318 tw_1319 tw_48 tw_1320 rfl rfl (by decide +kernel) ⟨Nat.le_of_ble_eq_true rfl, Nat.le_of_ble_eq_true rfl⟩) ⟨tp_blind, va_recv hK hP (ci := 10) (q0 := 1) rfl rfl, fun U hU hW => ⟨rfl, tp_pay hK hP hD hE hZ hS [1] (by decide) rfl hFc U hU hW⟩⟩ rfl rfl hl.1 rfl (lv_room (Nat.le_of_ble_eq_true rfl)) dL_law_991 ⟨(Nat.le_of_ble_eq_true rfl), (Nat.le_of_ble_eq_true rfl)⟩) hS (fun q _ h => hFc q h) hFc (fun r_5 u t H1 locs ht hvm hw hB hz1 hk1 hS => ?_)
    obtain rfl := hw
    obtain ⟨f_6, hP1, hD1⟩ := hB
    subst f_6
    rw [ht] at hP1
    obtain ⟨hP, hD⟩ := va_join (wr := [(o0, .inl (cy 1, 1, .inr (.inl ((fun _ => 0)))))]) (w1 := [(m0, .inr (10, [.ref w0, .int 1]))]) hP hD [1] [0] rfl rfl (by decide) (by decide) hk1 hFc hP1 hD1
    generalize H1 = H at hP hS ⊢
    have hP : va_P (dC, dI) vwCl [(o0, .inl (cy 1, 1, .inr (.inl ((fun _ => 0))))), (m0, .inr (10, [.ref w0, .int 1]))] _ := hP
    have hD : va_D A [(o0, .inl (cy 1, 1, .inr (.inl ((fun _ => 0))))), (m0, .inr (10, [.ref w0, .int 1]))] := hD
    refine lv_iload hx hb dL_law_994 (lv_at hl 1 rfl) ?_
    refine lv_icmp_eq (tgt := 1001) hx hb dL_law_996 (by decide) (fun _ => ?_) (fun c_7 => absurd rfl c_7)
    refine lv_iload hx hb dL_law_1001 (lv_at hl 1 rfl) ?_
    refine lv_if_ne (tgt := 1025) hx hb dL_law_1003 (by decide) (fun _ => ?_) (fun c_8 => absurd c_8 (by decide))
    refine lv_goto (tgt := 2504) hx hb dL_law_1025 (by decide) ?_
    exact tc_end hd0 hs C1 hX (Nat.le_of_ble_eq_true rfl) (Nat.le_of_ble_eq_true rfl) H _ ls hS (lv_sub hl [2, 6] rfl)

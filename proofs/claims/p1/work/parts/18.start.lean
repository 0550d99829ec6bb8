theorem tw_58 : Cond.classLink RL 8 RX8 ∈ tp_all := tp_mem 58 (by decide +kernel) rfl
theorem tw_62 : Cond.code yX8_init cX8_init 1 none ∈ tp_all := tp_mem 62 (by decide +kernel) rfl
theorem tw_60 : Cond.methodLink RL 123 yX8_init ∈ tp_all := tp_mem 60 (by decide +kernel) rfl
theorem tw_61 : Cond.instanceMethod yX8_init ∈ tp_all := tp_mem 61 (by decide +kernel) rfl
theorem tw_1123 : Cond.classLink RL 124 RX10 ∈ tp_all := tp_mem 1123 (by decide +kernel) rfl
theorem tw_1127 : Cond.code yX10_init cX10_init 1 none ∈ tp_all := tp_mem 1127 (by decide +kernel) rfl
theorem tw_1125 : Cond.methodLink RL 126 yX10_init ∈ tp_all := tp_mem 1125 (by decide +kernel) rfl
theorem tw_1126 : Cond.instanceMethod yX10_init ∈ tp_all := tp_mem 1126 (by decide +kernel) rfl
theorem dL_law_0 : decode cL_law 0 = .ok (.new 8, 3) := by decide +kernel
theorem dL_law_3 : decode cL_law 3 = .ok (.dup, 1) := by decide +kernel
theorem dL_law_4 : decode cL_law 4 = .ok (.invokespecial 123, 3) := by decide +kernel
theorem dL_law_7 : decode cL_law 7 = .ok (.astore_n 1, 1) := by decide +kernel
theorem dL_law_8 : decode cL_law 8 = .ok (.new 124, 3) := by decide +kernel
theorem dL_law_11 : decode cL_law 11 = .ok (.dup, 1) := by decide +kernel
theorem dL_law_12 : decode cL_law 12 = .ok (.invokespecial 126, 3) := by decide +kernel
theorem dL_law_15 : decode cL_law 15 = .ok (.astore_n 2, 1) := by decide +kernel
theorem dL_law_16 : decode cL_law 16 = .ok (.iconst 1, 1) := by decide +kernel
theorem dL_law_17 : decode cL_law 17 = .ok (.newarray .long, 2) := by decide +kernel
theorem dL_law_19 : decode cL_law 19 = .ok (.astore_n 3, 1) := by decide +kernel
theorem dL_law_20 : decode cL_law 20 = .ok (.iconst 0, 1) := by decide +kernel
theorem dL_law_21 : decode cL_law 21 = .ok (.istore 4, 2) := by decide +kernel
theorem dL_law_33 : decode cL_law 33 = .ok (.aload_n 0, 1) := by decide +kernel
theorem dL_law_34 : decode cL_law 34 = .ok (.iload 4, 2) := by decide +kernel
theorem dL_law_36 : decode cL_law 36 = .ok (.iaload, 1) := by decide +kernel
theorem dL_law_37 : decode cL_law 37 = .ok (.bipush 63, 2) := by decide +kernel
theorem dL_law_39 : decode cL_law 39 = .ok (.iand, 1) := by decide +kernel
theorem dL_law_40 : decode cL_law 40 = .ok (.tableswitch 2464 0 39 #[176, 220, 324, 416, 472, 528, 619, 699, 817, 873, 886, 899, 912, 925, 988, 1044, 1100, 1156, 1212, 1280, 1348, 1361, 1417, 1473, 1529, 1585, 1653, 1709, 1765, 1821, 1877, 1945, 2001, 2069, 2137, 2205, 2246, 2314, 2370, 2450], 176) := by decide +kernel
set_option maxRecDepth 100000 in
set_option maxHeartbeats 4000000 in
/-- from the entry -/
theorem tc_start {p : Program} {l : Launch} {e : Env} {s0 s : State} {m : MethodId} {below : List Frame} {meth : Method} {c : Code} {A : Nat → Prop} (hst : l.stackTraces = false) {dC : Nat → ClassId} {dI : Nat → Nat → Nat} {cy : Nat → ClassId} {b L : Nat} {xs : Nat → Int32} {d0 : Drawn} (hd0 : s0.drawn.sameBut d0 lw_cs) (hs : s = s0.setDrawn d0) (C1 : tc_At p s m meth c b #[Value.ref b] A dC dI cy) (hL : L ≤ 7) (hX : va_X b L xs s s.heap) (ls : Array Slot) (hP : va_P (dC, dI) vwCl [] s.heap) (hD : va_D A []) (hS : va_S A s.heap s.heap []) (hl : lv_has ls 9 [(0, .ref b)]) : W p l e room_1 s m #[Value.ref b] below meth c s.heap [] 0 0 (lw_Z below #[Value.ref b] s0) (F0 m 0 ls []) := by
  have C2 := C1
  obtain ⟨hx, hb, hr, hml, hown, hts, hbl, hlocks, hK, hE, hZ, hA, hbA, hA2⟩ := C2
  have h8_a_1 : tp_dv 2 tyX8 [.null, .null] = true := by decide +kernel
  refine va_new (ci := 8) (fs := [.null, .null]) (C := RX8) (T := TX8) (N := 2) hx hb hts tl_X8 tyX8 tyX8_ok hown (hts _ tw_58) (hts _ tw_59) (hts _ tw_38) hK hP hD hS hA rfl (fun j hj => by exact tp_dv_ok h8_a_1 j hj) (Nat.le_of_ble_eq_true rfl) (Nat.le_of_ble_eq_true rfl) dL_law_0 (fun a_1 H hP hD hS => ?_)
  have hP : va_P (dC, dI) vwCl [(a_1, .inr (8, [.null, .null]))] _ := hP
  have hD : va_D A [(a_1, .inr (8, [.null, .null]))] := hD
  refine lv_dup hx hb dL_law_3 rfl ?_
  have hFc := va_free (wc := [(a_1, .inr (8, [.null, .null]))]) hD hS hA [0] rfl
  refine va_callv (va_runI (As := []) (rest := [.ref a_1]) ⟨hx, hb, hml, hown, hts⟩ (tm_Turnpike l hst dC dI cy a_1 H.size) (tp_cwI 0 hts tw_60 tw_61 tw_38 tw_62 rfl rfl rfl (by decide +kernel) ⟨Nat.le_of_ble_eq_true rfl, Nat.le_of_ble_eq_true rfl⟩) ⟨tp_blind, fun U hU hW => ⟨rfl, tp_pay hK hP hD hE hZ hS [0] (by decide) rfl hFc U hU hW⟩⟩ rfl rfl hl.1 rfl (lv_room (Nat.le_of_ble_eq_true rfl)) dL_law_4 ⟨(Nat.le_of_ble_eq_true rfl), (Nat.le_of_ble_eq_true rfl)⟩) hS (fun q _ h => hFc q h) hFc (fun u t H1 locs ht hvm hw hB hz1 hk1 hS => ?_)
  obtain ⟨z_3, z_4, z_5, z_6, z_7, z_8, z_9, z_10, z_11, z_12, hP1, hD1⟩ := hB
  rw [ht] at hP1
  obtain ⟨hP, hD⟩ := va_join (wr := []) (w1 := [(a_1, .inr (8, [.ref z_3, .ref z_4])), (z_3, .inr (5, [.ref z_5, .ref z_6, .ref z_7, .ref z_8, .ref z_9, .ref z_10, .int 0, .int 1, .int 0, .int 0, .int 0, .int 0])), (z_5, .inr (2, [.ref z_11, .int 0, .ref z_12, .int 0]))]) hP hD [0] [] rfl rfl (by decide) (by decide) hk1 hFc hP1 hD1
  generalize H1 = H at hP hS ⊢
  have hP : va_P (dC, dI) vwCl [(a_1, .inr (8, [.ref z_3, .ref z_4])), (z_3, .inr (5, [.ref z_5, .ref z_6, .ref z_7, .ref z_8, .ref z_9, .ref z_10, .int 0, .int 1, .int 0, .int 0, .int 0, .int 0])), (z_5, .inr (2, [.ref z_11, .int 0, .ref z_12, .int 0]))] _ := hP
  have hD : va_D A [(a_1, .inr (8, [.ref z_3, .ref z_4])), (z_3, .inr (5, [.ref z_5, .ref z_6, .ref z_7, .ref z_8, .ref z_9, .ref z_10, .int 0, .int 1, .int 0, .int 0, .int 0, .int 0])), (z_5, .inr (2, [.ref z_11, .int 0, .ref z_12, .int 0]))] := hD
  refine lv_astore_n (lv' := [(1, .ref a_1), (0, .ref b)]) hx hb dL_law_7 rfl hl (by decide) rfl (fun ls hl => ?_)
  have h8_a_13 : tp_dv 2 tyX10 [.null, .int 0] = true := by decide +kernel
  refine va_new (ci := 10) (fs := [.null, .int 0]) (C := RX10) (T := TX10) (N := 2) hx hb hts tl_X10 tyX10 tyX10_ok hown (hts _ tw_1123) (hts _ tw_1124) (hts _ tw_48) hK hP hD hS hA rfl (fun j hj => by exact tp_dv_ok h8_a_13 j hj) (Nat.le_of_ble_eq_true rfl) (Nat.le_of_ble_eq_true rfl) dL_law_8 (fun a_13 H hP hD hS => ?_)
  have hP : va_P (dC, dI) vwCl [(a_1, .inr (8, [.ref z_3, .ref z_4])), (z_3, .inr (5, [.ref z_5, .ref z_6, .ref z_7, .ref z_8, .ref z_9, .ref z_10, .int 0, .int 1, .int 0, .int 0, .int 0, .int 0])), (z_5, .inr (2, [.ref z_11, .int 0, .ref z_12, .int 0])), (a_13, .inr (10, [.null, .int 0]))] _ := hP
  have hD : va_D A [(a_1, .inr (8, [.ref z_3, .ref z_4])), (z_3, .inr (5, [.ref z_5, .ref z_6, .ref z_7, .ref z_8, .ref z_9, .ref z_10, .int 0, .int 1, .int 0, .int 0, .int 0, .int 0])), (z_5, .inr (2, [.ref z_11, .int 0, .ref z_12, .int 0])), (a_13, .inr (10, [.null, .int 0]))] := hD
  refine lv_dup hx hb dL_law_11 rfl ?_
  have hFc := va_free (wc := [(a_13, .inr (10, [.null, .int 0]))]) hD hS hA [3] rfl
  refine va_callv (va_runI (As := []) (rest := [.ref a_13]) ⟨hx, hb, hml, hown, hts⟩ (tm_Model l hst dC dI cy a_13 H.size) (tp_cwI 0 hts tw_1125 tw_1126 tw_48 tw_1127 rfl rfl rfl (by decide +kernel) ⟨Nat.le_of_ble_eq_true rfl, Nat.le_of_ble_eq_true rfl⟩) ⟨tp_blind, fun U hU hW => ⟨rfl, tp_pay hK hP hD hE hZ hS [3] (by decide) rfl hFc U hU hW⟩⟩ rfl rfl hl.1 rfl (lv_room (Nat.le_of_ble_eq_true rfl)) dL_law_12 ⟨(Nat.le_of_ble_eq_true rfl), (Nat.le_of_ble_eq_true rfl)⟩) hS (fun q _ h => hFc q h) hFc (fun u t H1 locs ht hvm hw hB hz1 hk1 hS => ?_)
  obtain ⟨z_15, z_16, z_17, z_18, z_19, z_20, z_21, z_22, z_23, z_24, z_25, z_26, z_27, z_28, z_29, z_30, z_31, z_32, z_33, z_34, z_35, z_36, z_37, z_38, z_39, z_40, z_41, z_42, z_43, z_44, z_45, z_46, z_47, z_48, z_49, z_50, z_51, z_52, z_53, z_54, z_55, z_56, z_57, z_58, z_59, z_60, z_61, z_62, z_63, z_64, z_65, z_66, z_67, z_68, z_69, z_70, z_71, z_72, z_73, z_74, z_75, z_76, z_77, z_78, z_79, z_80, z_81, z_82, z_83, z_84, z_85, z_86, z_87, hP1, hD1⟩ := hB
  rw [ht] at hP1
  obtain ⟨hP, hD⟩ := va_join (wr := [(a_1, .inr (8, [.ref z_3, .ref z_4])), (z_3, .inr (5, [.ref z_5, .ref z_6, .ref z_7, .ref z_8, .ref z_9, .ref z_10, .int 0, .int 1, .int 0, .int 0, .int 0, .int 0])), (z_5, .inr (2, [.ref z_11, .int 0, .ref z_12, .int 0]))]) (w1 := [(a_13, .inr (10, [.ref z_15, .int 0])), (z_15, .inr (9, [.int 0, .int 1, .int 0, .ref z_16, .ref z_17, .ref z_18, .ref z_19, .ref z_20, .ref z_21, .int 0, .ref z_22, .ref z_23, .ref z_24, .ref z_25, .ref z_26, .ref z_27, .ref z_28, .ref z_29, .ref z_30, .ref z_31, .ref z_32, .ref z_33, .ref z_34, .ref z_35, .ref z_36, .ref z_37, .int 0, .ref z_38, .ref z_39, .ref z_40, .ref z_41, .ref z_42, .ref z_43, .int 0, .ref z_44, .ref z_45, .ref z_46, .ref z_47, .ref z_48, .ref z_49, .ref z_50, .ref z_51, .ref z_52])), (z_16, .inl (cy 0, 12, .inl z_53)), (z_17, .inl (cy 0, 12, .inl z_54)), (z_18, .inl (cy 0, 12, .inl z_55)), (z_19, .inl (cy 0, 48, .inl z_56)), (z_20, .inl (cy 0, 48, .inl z_57)), (z_21, .inl (cy 0, 48, .inl z_58)), (z_22, .inl (cy 0, 24, .inl z_59)), (z_23, .inl (cy 0, 24, .inl z_60)), (z_24, .inl (cy 0, 24, .inl z_61)), (z_25, .inl (cy 0, 24, .inl z_62)), (z_26, .inl (cy 0, 24, .inl z_63)), (z_27, .inl (cy 0, 24, .inl z_64)), (z_28, .inl (cy 0, 24, .inl z_65)), (z_30, .inl (cy 0, 24, .inl z_66)), (z_31, .inl (cy 0, 7200, .inl z_67)), (z_32, .inl (cy 0, 36, .inl z_68)), (z_33, .inl (cy 0, 24, .inl z_69)), (z_34, .inl (cy 0, 24, .inl z_70)), (z_35, .inl (cy 0, 24, .inl z_71)), (z_36, .inl (cy 0, 24, .inl z_72)), (z_37, .inl (cy 0, 576, .inl z_73)), (z_38, .inl (cy 0, 10, .inl z_74)), (z_39, .inl (cy 0, 10, .inl z_75)), (z_40, .inl (cy 0, 10, .inl z_76)), (z_41, .inl (cy 0, 10, .inl z_77)), (z_42, .inl (cy 0, 10, .inl z_78)), (z_43, .inl (cy 0, 10, .inl z_79)), (z_44, .inl (cy 0, 200, .inl z_80)), (z_45, .inl (cy 0, 200, .inl z_81)), (z_46, .inl (cy 0, 200, .inl z_82)), (z_47, .inl (cy 0, 200, .inl z_83)), (z_48, .inl (cy 0, 200, .inl z_84)), (z_49, .inl (cy 0, 200, .inl z_85)), (z_50, .inl (cy 0, 200, .inl z_86)), (z_51, .inl (cy 0, 200, .inl z_87)), (z_29, .inl (cy 2, 24, .inl ((fun _ => 0))))]) hP hD [3] [0, 1, 2] rfl rfl (by decide) (by decide) hk1 hFc hP1 hD1
  generalize H1 = H at hP hS ⊢
  have hP : va_P (dC, dI) vwCl [(a_1, .inr (8, [.ref z_3, .ref z_4])), (z_3, .inr (5, [.ref z_5, .ref z_6, .ref z_7, .ref z_8, .ref z_9, .ref z_10, .int 0, .int 1, .int 0, .int 0, .int 0, .int 0])), (z_5, .inr (2, [.ref z_11, .int 0, .ref z_12, .int 0])), (a_13, .inr (10, [.ref z_15, .int 0])), (z_15, .inr (9, [.int 0, .int 1, .int 0, .ref z_16, .ref z_17, .ref z_18, .ref z_19, .ref z_20, .ref z_21, .int 0, .ref z_22, .ref z_23, .ref z_24, .ref z_25, .ref z_26, .ref z_27, .ref z_28, .ref z_29, .ref z_30, .ref z_31, .ref z_32, .ref z_33, .ref z_34, .ref z_35, .ref z_36, .ref z_37, .int 0, .ref z_38, .ref z_39, .ref z_40, .ref z_41, .ref z_42, .ref z_43, .int 0, .ref z_44, .ref z_45, .ref z_46, .ref z_47, .ref z_48, .ref z_49, .ref z_50, .ref z_51, .ref z_52])), (z_16, .inl (cy 0, 12, .inl z_53)), (z_17, .inl (cy 0, 12, .inl z_54)), (z_18, .inl (cy 0, 12, .inl z_55)), (z_19, .inl (cy 0, 48, .inl z_56)), (z_20, .inl (cy 0, 48, .inl z_57)), (z_21, .inl (cy 0, 48, .inl z_58)), (z_22, .inl (cy 0, 24, .inl z_59)), (z_23, .inl (cy 0, 24, .inl z_60)), (z_24, .inl (cy 0, 24, .inl z_61)), (z_25, .inl (cy 0, 24, .inl z_62)), (z_26, .inl (cy 0, 24, .inl z_63)), (z_27, .inl (cy 0, 24, .inl z_64)), (z_28, .inl (cy 0, 24, .inl z_65)), (z_30, .inl (cy 0, 24, .inl z_66)), (z_31, .inl (cy 0, 7200, .inl z_67)), (z_32, .inl (cy 0, 36, .inl z_68)), (z_33, .inl (cy 0, 24, .inl z_69)), (z_34, .inl (cy 0, 24, .inl z_70)), (z_35, .inl (cy 0, 24, .inl z_71)), (z_36, .inl (cy 0, 24, .inl z_72)), (z_37, .inl (cy 0, 576, .inl z_73)), (z_38, .inl (cy 0, 10, .inl z_74)), (z_39, .inl (cy 0, 10, .inl z_75)), (z_40, .inl (cy 0, 10, .inl z_76)), (z_41, .inl (cy 0, 10, .inl z_77)), (z_42, .inl (cy 0, 10, .inl z_78)), (z_43, .inl (cy 0, 10, .inl z_79)), (z_44, .inl (cy 0, 200, .inl z_80)), (z_45, .inl (cy 0, 200, .inl z_81)), (z_46, .inl (cy 0, 200, .inl z_82)), (z_47, .inl (cy 0, 200, .inl z_83)), (z_48, .inl (cy 0, 200, .inl z_84)), (z_49, .inl (cy 0, 200, .inl z_85)), (z_50, .inl (cy 0, 200, .inl z_86)), (z_51, .inl (cy 0, 200, .inl z_87)), (z_29, .inl (cy 2, 24, .inl ((fun _ => 0))))] _ := hP
  have hD : va_D A [(a_1, .inr (8, [.ref z_3, .ref z_4])), (z_3, .inr (5, [.ref z_5, .ref z_6, .ref z_7, .ref z_8, .ref z_9, .ref z_10, .int 0, .int 1, .int 0, .int 0, .int 0, .int 0])), (z_5, .inr (2, [.ref z_11, .int 0, .ref z_12, .int 0])), (a_13, .inr (10, [.ref z_15, .int 0])), (z_15, .inr (9, [.int 0, .int 1, .int 0, .ref z_16, .ref z_17, .ref z_18, .ref z_19, .ref z_20, .ref z_21, .int 0, .ref z_22, .ref z_23, .ref z_24, .ref z_25, .ref z_26, .ref z_27, .ref z_28, .ref z_29, .ref z_30, .ref z_31, .ref z_32, .ref z_33, .ref z_34, .ref z_35, .ref z_36, .ref z_37, .int 0, .ref z_38, .ref z_39, .ref z_40, .ref z_41, .ref z_42, .ref z_43, .int 0, .ref z_44, .ref z_45, .ref z_46, .ref z_47, .ref z_48, .ref z_49, .ref z_50, .ref z_51, .ref z_52])), (z_16, .inl (cy 0, 12, .inl z_53)), (z_17, .inl (cy 0, 12, .inl z_54)), (z_18, .inl (cy 0, 12, .inl z_55)), (z_19, .inl (cy 0, 48, .inl z_56)), (z_20, .inl (cy 0, 48, .inl z_57)), (z_21, .inl (cy 0, 48, .inl z_58)), (z_22, .inl (cy 0, 24, .inl z_59)), (z_23, .inl (cy 0, 24, .inl z_60)), (z_24, .inl (cy 0, 24, .inl z_61)), (z_25, .inl (cy 0, 24, .inl z_62)), (z_26, .inl (cy 0, 24, .inl z_63)), (z_27, .inl (cy 0, 24, .inl z_64)), (z_28, .inl (cy 0, 24, .inl z_65)), (z_30, .inl (cy 0, 24, .inl z_66)), (z_31, .inl (cy 0, 7200, .inl z_67)), (z_32, .inl (cy 0, 36, .inl z_68)), (z_33, .inl (cy 0, 24, .inl z_69)), (z_34, .inl (cy 0, 24, .inl z_70)), (z_35, .inl (cy 0, 24, .inl z_71)), (z_36, .inl (cy 0, 24, .inl z_72)), (z_37, .inl (cy 0, 576, .inl z_73)), (z_38, .inl (cy 0, 10, .inl z_74)), (z_39, .inl (cy 0, 10, .inl z_75)), (z_40, .inl (cy 0, 10, .inl z_76)), (z_41, .inl (cy 0, 10, .inl z_77)), (z_42, .inl (cy 0, 10, .inl z_78)), (z_43, .inl (cy 0, 10, .inl z_79)), (z_44, .inl (cy 0, 200, .inl z_80)), (z_45, .inl (cy 0, 200, .inl z_81)), (z_46, .inl (cy 0, 200, .inl z_82)), (z_47, .inl (cy 0, 200, .inl z_83)), (z_48, .inl (cy 0, 200, .inl z_84)), (z_49, .inl (cy 0, 200, .inl z_85)), (z_50, .inl (cy 0, 200, .inl z_86)), (z_51, .inl (cy 0, 200, .inl z_87)), (z_29, .inl (cy 2, 24, .inl ((fun _ => 0))))] := hD
  refine lv_astore_n (lv' := [(2, .ref a_13), (1, .ref a_1), (0, .ref b)]) hx hb dL_law_15 rfl hl (by decide) rfl (fun ls hl => ?_)
  refine lv_iconst (v := 1) hx hb dL_law_16 (by decide) ?_
  refine va_newa hx hb (atype := .long) (hts _ tw_213) (ty := .long) rfl hK hP hD hS hA (a0 := (1, .inr (.inl (fun _ => 0)))) (N' := 1) (fun _ => rfl) (by decide) (by decide) (Nat.le_of_ble_eq_true rfl) (Nat.le_of_ble_eq_true rfl) (Nat.le_of_ble_eq_true rfl) dL_law_17 (fun a_88 k_89 H hK9 hP hD hS => ?_)
  obtain rfl : k_89 = cy 1 := tp_one hK9 10 1 rfl rfl
  have hP : va_P (dC, dI) vwCl [(a_1, .inr (8, [.ref z_3, .ref z_4])), (z_3, .inr (5, [.ref z_5, .ref z_6, .ref z_7, .ref z_8, .ref z_9, .ref z_10, .int 0, .int 1, .int 0, .int 0, .int 0, .int 0])), (z_5, .inr (2, [.ref z_11, .int 0, .ref z_12, .int 0])), (a_13, .inr (10, [.ref z_15, .int 0])), (z_15, .inr (9, [.int 0, .int 1, .int 0, .ref z_16, .ref z_17, .ref z_18, .ref z_19, .ref z_20, .ref z_21, .int 0, .ref z_22, .ref z_23, .ref z_24, .ref z_25, .ref z_26, .ref z_27, .ref z_28, .ref z_29, .ref z_30, .ref z_31, .ref z_32, .ref z_33, .ref z_34, .ref z_35, .ref z_36, .ref z_37, .int 0, .ref z_38, .ref z_39, .ref z_40, .ref z_41, .ref z_42, .ref z_43, .int 0, .ref z_44, .ref z_45, .ref z_46, .ref z_47, .ref z_48, .ref z_49, .ref z_50, .ref z_51, .ref z_52])), (z_16, .inl (cy 0, 12, .inl z_53)), (z_17, .inl (cy 0, 12, .inl z_54)), (z_18, .inl (cy 0, 12, .inl z_55)), (z_19, .inl (cy 0, 48, .inl z_56)), (z_20, .inl (cy 0, 48, .inl z_57)), (z_21, .inl (cy 0, 48, .inl z_58)), (z_22, .inl (cy 0, 24, .inl z_59)), (z_23, .inl (cy 0, 24, .inl z_60)), (z_24, .inl (cy 0, 24, .inl z_61)), (z_25, .inl (cy 0, 24, .inl z_62)), (z_26, .inl (cy 0, 24, .inl z_63)), (z_27, .inl (cy 0, 24, .inl z_64)), (z_28, .inl (cy 0, 24, .inl z_65)), (z_30, .inl (cy 0, 24, .inl z_66)), (z_31, .inl (cy 0, 7200, .inl z_67)), (z_32, .inl (cy 0, 36, .inl z_68)), (z_33, .inl (cy 0, 24, .inl z_69)), (z_34, .inl (cy 0, 24, .inl z_70)), (z_35, .inl (cy 0, 24, .inl z_71)), (z_36, .inl (cy 0, 24, .inl z_72)), (z_37, .inl (cy 0, 576, .inl z_73)), (z_38, .inl (cy 0, 10, .inl z_74)), (z_39, .inl (cy 0, 10, .inl z_75)), (z_40, .inl (cy 0, 10, .inl z_76)), (z_41, .inl (cy 0, 10, .inl z_77)), (z_42, .inl (cy 0, 10, .inl z_78)), (z_43, .inl (cy 0, 10, .inl z_79)), (z_44, .inl (cy 0, 200, .inl z_80)), (z_45, .inl (cy 0, 200, .inl z_81)), (z_46, .inl (cy 0, 200, .inl z_82)), (z_47, .inl (cy 0, 200, .inl z_83)), (z_48, .inl (cy 0, 200, .inl z_84)), (z_49, .inl (cy 0, 200, .inl z_85)), (z_50, .inl (cy 0, 200, .inl z_86)), (z_51, .inl (cy 0, 200, .inl z_87)), (z_29, .inl (cy 2, 24, .inl ((fun _ => 0)))), (a_88, .inl (cy 1, 1, .inr (.inl ((fun _ => 0)))))] _ := hP
  have hD : va_D A [(a_1, .inr (8, [.ref z_3, .ref z_4])), (z_3, .inr (5, [.ref z_5, .ref z_6, .ref z_7, .ref z_8, .ref z_9, .ref z_10, .int 0, .int 1, .int 0, .int 0, .int 0, .int 0])), (z_5, .inr (2, [.ref z_11, .int 0, .ref z_12, .int 0])), (a_13, .inr (10, [.ref z_15, .int 0])), (z_15, .inr (9, [.int 0, .int 1, .int 0, .ref z_16, .ref z_17, .ref z_18, .ref z_19, .ref z_20, .ref z_21, .int 0, .ref z_22, .ref z_23, .ref z_24, .ref z_25, .ref z_26, .ref z_27, .ref z_28, .ref z_29, .ref z_30, .ref z_31, .ref z_32, .ref z_33, .ref z_34, .ref z_35, .ref z_36, .ref z_37, .int 0, .ref z_38, .ref z_39, .ref z_40, .ref z_41, .ref z_42, .ref z_43, .int 0, .ref z_44, .ref z_45, .ref z_46, .ref z_47, .ref z_48, .ref z_49, .ref z_50, .ref z_51, .ref z_52])), (z_16, .inl (cy 0, 12, .inl z_53)), (z_17, .inl (cy 0, 12, .inl z_54)), (z_18, .inl (cy 0, 12, .inl z_55)), (z_19, .inl (cy 0, 48, .inl z_56)), (z_20, .inl (cy 0, 48, .inl z_57)), (z_21, .inl (cy 0, 48, .inl z_58)), (z_22, .inl (cy 0, 24, .inl z_59)), (z_23, .inl (cy 0, 24, .inl z_60)), (z_24, .inl (cy 0, 24, .inl z_61)), (z_25, .inl (cy 0, 24, .inl z_62)), (z_26, .inl (cy 0, 24, .inl z_63)), (z_27, .inl (cy 0, 24, .inl z_64)), (z_28, .inl (cy 0, 24, .inl z_65)), (z_30, .inl (cy 0, 24, .inl z_66)), (z_31, .inl (cy 0, 7200, .inl z_67)), (z_32, .inl (cy 0, 36, .inl z_68)), (z_33, .inl (cy 0, 24, .inl z_69)), (z_34, .inl (cy 0, 24, .inl z_70)), (z_35, .inl (cy 0, 24, .inl z_71)), (z_36, .inl (cy 0, 24, .inl z_72)), (z_37, .inl (cy 0, 576, .inl z_73)), (z_38, .inl (cy 0, 10, .inl z_74)), (z_39, .inl (cy 0, 10, .inl z_75)), (z_40, .inl (cy 0, 10, .inl z_76)), (z_41, .inl (cy 0, 10, .inl z_77)), (z_42, .inl (cy 0, 10, .inl z_78)), (z_43, .inl (cy 0, 10, .inl z_79)), (z_44, .inl (cy 0, 200, .inl z_80)), (z_45, .inl (cy 0, 200, .inl z_81)), (z_46, .inl (cy 0, 200, .inl z_82)), (z_47, .inl (cy 0, 200, .inl z_83)), (z_48, .inl (cy 0, 200, .inl z_84)), (z_49, .inl (cy 0, 200, .inl z_85)), (z_50, .inl (cy 0, 200, .inl z_86)), (z_51, .inl (cy 0, 200, .inl z_87)), (z_29, .inl (cy 2, 24, .inl ((fun _ => 0)))), (a_88, .inl (cy 1, 1, .inr (.inl ((fun _ => 0)))))] := hD
  refine lv_astore_n (lv' := [(3, .ref a_88), (2, .ref a_13), (1, .ref a_1), (0, .ref b)]) hx hb dL_law_19 rfl hl (by decide) rfl (fun ls hl => ?_)
  refine lv_iconst (v := 0) hx hb dL_law_20 (by decide) ?_
  refine lv_istore (lv' := [(4, .int 0), (3, .ref a_88), (2, .ref a_13), (1, .ref a_1), (0, .ref b)]) hx hb dL_law_21 hl (by decide) rfl (fun ls hl => ?_)
  refine W.widen (k := 1535) (n := 31585) (Nat.le_of_ble_eq_true rfl) (Nat.le_of_ble_eq_true rfl) ?_
  have hPa := hP.sub (ws' := [(a_1, .inr (8, [.ref z_3, .ref z_4])), (z_3, .inr (5, [.ref z_5, .ref z_6, .ref z_7, .ref z_8, .ref z_9, .ref z_10, .int 0, .int 1, .int 0, .int 0, .int 0, .int 0])), (z_5, .inr (2, [.ref z_11, .int 0, .ref z_12, .int 0])), (a_13, .inr (10, [.ref z_15, .int 0])), (z_15, .inr (9, [.int 0, .int 1, .int 0, .ref z_16, .ref z_17, .ref z_18, .ref z_19, .ref z_20, .ref z_21, .int 0, .ref z_22, .ref z_23, .ref z_24, .ref z_25, .ref z_26, .ref z_27, .ref z_28, .ref z_29, .ref z_30, .ref z_31, .ref z_32, .ref z_33, .ref z_34, .ref z_35, .ref z_36, .ref z_37, .int 0, .ref z_38, .ref z_39, .ref z_40, .ref z_41, .ref z_42, .ref z_43, .int 0, .ref z_44, .ref z_45, .ref z_46, .ref z_47, .ref z_48, .ref z_49, .ref z_50, .ref z_51, .ref z_52])), (z_16, .inl (cy 0, 12, .inl z_53)), (z_17, .inl (cy 0, 12, .inl z_54)), (z_18, .inl (cy 0, 12, .inl z_55)), (z_19, .inl (cy 0, 48, .inl z_56)), (z_20, .inl (cy 0, 48, .inl z_57)), (z_21, .inl (cy 0, 48, .inl z_58)), (z_22, .inl (cy 0, 24, .inl z_59)), (z_23, .inl (cy 0, 24, .inl z_60)), (z_24, .inl (cy 0, 24, .inl z_61)), (z_25, .inl (cy 0, 24, .inl z_62)), (z_26, .inl (cy 0, 24, .inl z_63)), (z_27, .inl (cy 0, 24, .inl z_64)), (z_28, .inl (cy 0, 24, .inl z_65)), (z_30, .inl (cy 0, 24, .inl z_66)), (z_31, .inl (cy 0, 7200, .inl z_67)), (z_32, .inl (cy 0, 36, .inl z_68)), (z_33, .inl (cy 0, 24, .inl z_69)), (z_34, .inl (cy 0, 24, .inl z_70)), (z_35, .inl (cy 0, 24, .inl z_71)), (z_36, .inl (cy 0, 24, .inl z_72)), (z_37, .inl (cy 0, 576, .inl z_73)), (z_38, .inl (cy 0, 10, .inl z_74)), (z_39, .inl (cy 0, 10, .inl z_75)), (z_40, .inl (cy 0, 10, .inl z_76)), (z_41, .inl (cy 0, 10, .inl z_77)), (z_42, .inl (cy 0, 10, .inl z_78)), (z_43, .inl (cy 0, 10, .inl z_79)), (z_44, .inl (cy 0, 200, .inl z_80)), (z_45, .inl (cy 0, 200, .inl z_81)), (z_46, .inl (cy 0, 200, .inl z_82)), (z_47, .inl (cy 0, 200, .inl z_83)), (z_48, .inl (cy 0, 200, .inl z_84)), (z_49, .inl (cy 0, 200, .inl z_85)), (z_50, .inl (cy 0, 200, .inl z_86)), (z_51, .inl (cy 0, 200, .inl z_87)), (z_29, .inl (cy 2, 24, .inl ((fun _ => 0)))), (a_88, .inl (cy 1, 1, .inr (.inl ((fun _ => 0)))))]) [0, 1, 2, 3, 4, 5, 6, 7, 8, 9, 10, 11, 12, 13, 14, 15, 16, 17, 18, 19, 20, 21, 22, 23, 24, 25, 26, 27, 28, 29, 30, 31, 32, 33, 34, 35, 36, 37, 38, 39, 40, 41] rfl
  have hDa := hD.sub (ws' := [(a_1, .inr (8, [.ref z_3, .ref z_4])), (z_3, .inr (5, [.ref z_5, .ref z_6, .ref z_7, .ref z_8, .ref z_9, .ref z_10, .int 0, .int 1, .int 0, .int 0, .int 0, .int 0])), (z_5, .inr (2, [.ref z_11, .int 0, .ref z_12, .int 0])), (a_13, .inr (10, [.ref z_15, .int 0])), (z_15, .inr (9, [.int 0, .int 1, .int 0, .ref z_16, .ref z_17, .ref z_18, .ref z_19, .ref z_20, .ref z_21, .int 0, .ref z_22, .ref z_23, .ref z_24, .ref z_25, .ref z_26, .ref z_27, .ref z_28, .ref z_29, .ref z_30, .ref z_31, .ref z_32, .ref z_33, .ref z_34, .ref z_35, .ref z_36, .ref z_37, .int 0, .ref z_38, .ref z_39, .ref z_40, .ref z_41, .ref z_42, .ref z_43, .int 0, .ref z_44, .ref z_45, .ref z_46, .ref z_47, .ref z_48, .ref z_49, .ref z_50, .ref z_51, .ref z_52])), (z_16, .inl (cy 0, 12, .inl z_53)), (z_17, .inl (cy 0, 12, .inl z_54)), (z_18, .inl (cy 0, 12, .inl z_55)), (z_19, .inl (cy 0, 48, .inl z_56)), (z_20, .inl (cy 0, 48, .inl z_57)), (z_21, .inl (cy 0, 48, .inl z_58)), (z_22, .inl (cy 0, 24, .inl z_59)), (z_23, .inl (cy 0, 24, .inl z_60)), (z_24, .inl (cy 0, 24, .inl z_61)), (z_25, .inl (cy 0, 24, .inl z_62)), (z_26, .inl (cy 0, 24, .inl z_63)), (z_27, .inl (cy 0, 24, .inl z_64)), (z_28, .inl (cy 0, 24, .inl z_65)), (z_30, .inl (cy 0, 24, .inl z_66)), (z_31, .inl (cy 0, 7200, .inl z_67)), (z_32, .inl (cy 0, 36, .inl z_68)), (z_33, .inl (cy 0, 24, .inl z_69)), (z_34, .inl (cy 0, 24, .inl z_70)), (z_35, .inl (cy 0, 24, .inl z_71)), (z_36, .inl (cy 0, 24, .inl z_72)), (z_37, .inl (cy 0, 576, .inl z_73)), (z_38, .inl (cy 0, 10, .inl z_74)), (z_39, .inl (cy 0, 10, .inl z_75)), (z_40, .inl (cy 0, 10, .inl z_76)), (z_41, .inl (cy 0, 10, .inl z_77)), (z_42, .inl (cy 0, 10, .inl z_78)), (z_43, .inl (cy 0, 10, .inl z_79)), (z_44, .inl (cy 0, 200, .inl z_80)), (z_45, .inl (cy 0, 200, .inl z_81)), (z_46, .inl (cy 0, 200, .inl z_82)), (z_47, .inl (cy 0, 200, .inl z_83)), (z_48, .inl (cy 0, 200, .inl z_84)), (z_49, .inl (cy 0, 200, .inl z_85)), (z_50, .inl (cy 0, 200, .inl z_86)), (z_51, .inl (cy 0, 200, .inl z_87)), (z_29, .inl (cy 2, 24, .inl ((fun _ => 0)))), (a_88, .inl (cy 1, 1, .inr (.inl ((fun _ => 0)))))]) [0, 1, 2, 3, 4, 5, 6, 7, 8, 9, 10, 11, 12, 13, 14, 15, 16, 17, 18, 19, 20, 21, 22, 23, 24, 25, 26, 27, 28, 29, 30, 31, 32, 33, 34, 35, 36, 37, 38, 39, 40, 41] (by decide) rfl
  have hPc := hP.sub (ws' := [(a_1, .inr (8, [.ref z_3, .ref z_4])), (z_3, .inr (5, [.ref z_5, .ref z_6, .ref z_7, .ref z_8, .ref z_9, .ref z_10, .int 0, .int 1, .int 0, .int 0, .int 0, .int 0])), (z_5, .inr (2, [.ref z_11, .int 0, .ref z_12, .int 0])), (a_13, .inr (10, [.ref z_15, .int 0])), (z_15, .inr (9, [.int 0, .int 1, .int 0, .ref z_16, .ref z_17, .ref z_18, .ref z_19, .ref z_20, .ref z_21, .int 0, .ref z_22, .ref z_23, .ref z_24, .ref z_25, .ref z_26, .ref z_27, .ref z_28, .ref z_29, .ref z_30, .ref z_31, .ref z_32, .ref z_33, .ref z_34, .ref z_35, .ref z_36, .ref z_37, .int 0, .ref z_38, .ref z_39, .ref z_40, .ref z_41, .ref z_42, .ref z_43, .int 0, .ref z_44, .ref z_45, .ref z_46, .ref z_47, .ref z_48, .ref z_49, .ref z_50, .ref z_51, .ref z_52])), (a_88, .inl (cy 1, 1, .inr (.inl ((fun _ => 0)))))]) [0, 1, 2, 3, 4, 41] rfl
  have hDc := hD.sub (ws' := [(a_1, .inr (8, [.ref z_3, .ref z_4])), (z_3, .inr (5, [.ref z_5, .ref z_6, .ref z_7, .ref z_8, .ref z_9, .ref z_10, .int 0, .int 1, .int 0, .int 0, .int 0, .int 0])), (z_5, .inr (2, [.ref z_11, .int 0, .ref z_12, .int 0])), (a_13, .inr (10, [.ref z_15, .int 0])), (z_15, .inr (9, [.int 0, .int 1, .int 0, .ref z_16, .ref z_17, .ref z_18, .ref z_19, .ref z_20, .ref z_21, .int 0, .ref z_22, .ref z_23, .ref z_24, .ref z_25, .ref z_26, .ref z_27, .ref z_28, .ref z_29, .ref z_30, .ref z_31, .ref z_32, .ref z_33, .ref z_34, .ref z_35, .ref z_36, .ref z_37, .int 0, .ref z_38, .ref z_39, .ref z_40, .ref z_41, .ref z_42, .ref z_43, .int 0, .ref z_44, .ref z_45, .ref z_46, .ref z_47, .ref z_48, .ref z_49, .ref z_50, .ref z_51, .ref z_52])), (a_88, .inl (cy 1, 1, .inr (.inl ((fun _ => 0)))))]) [0, 1, 2, 3, 4, 41] (by decide) rfl
  have hl := lv_sub (l' := [(0, .ref b), (1, .ref a_1), (2, .ref a_13), (3, .ref a_88), (4, .int 0)]) hl [4, 3, 2, 1, 0] rfl
  refine lv_iload hx hb dL_law_23 (lv_at hl 4 rfl) ?_
  refine lv_aload_n hx hb dL_law_25 rfl (lv_at hl 0 rfl) ?_
  refine va_slen hx hb hX hbl hbA hS dL_law_26 ?_
  refine lv_bipush (v := 7) hx hb dL_law_27 (by decide) ?_
  refine lv_isub hx hb dL_law_29 ?_
  refine lv_icmp_gt (tgt := 2510) hx hb dL_law_30 (by decide) (fun c_0 => ?_) (fun c_0 => ?_)
  · refine lv_iconst (v := 1) hx hb dL_law_2510 (by decide) ?_
    refine W.widen (k := 600002) (n := 7302232) (Nat.le_of_ble_eq_true rfl) (Nat.le_of_ble_eq_true rfl) ?_
    refine va_forget (fun q hq => hA2 _ (hS.2.2 q hq)) ?_
    subst hs
    exact lw_ret hd0 hx hb hr hlocks dL_law_2511
  · have hL7 : L = 7 := by
      rcases (show L = 0 ∨ L = 1 ∨ L = 2 ∨ L = 3 ∨ L = 4 ∨ L = 5 ∨ L = 6 ∨ L = 7 by omega) with h | h | h | h | h | h | h | h <;> first | exact h | exact absurd (by rw [h]; decide) c_0
    subst hL7
    refine lv_aload_n hx hb dL_law_33 rfl (lv_at hl 0 rfl) ?_
    refine lv_iload hx hb dL_law_34 (lv_at hl 4 rfl) ?_
    refine va_sld hx hb hX hbl hbA hS (by unfold vp_in; decide) dL_law_36 ?_
    refine lv_bipush (v := 63) hx hb dL_law_37 (by decide) ?_
    refine lv_iand hx hb dL_law_39 ?_
    obtain ⟨j, hj, ej⟩ := pk_andE (xs (0 : Int32).toNatClampNeg) (m := 63) 6 (by decide)
    rw [ej]
    by_cases hj4 : j < 40
    · rcases (show j = 0 ∨ j = 1 ∨ j = 2 ∨ j = 3 ∨ j = 4 ∨ j = 5 ∨ j = 6 ∨ j = 7 ∨ j = 8 ∨ j = 9 ∨ j = 10 ∨ j = 11 ∨ j = 12 ∨ j = 13 ∨ j = 14 ∨ j = 15 ∨ j = 16 ∨ j = 17 ∨ j = 18 ∨ j = 19 ∨ j = 20 ∨ j = 21 ∨ j = 22 ∨ j = 23 ∨ j = 24 ∨ j = 25 ∨ j = 26 ∨ j = 27 ∨ j = 28 ∨ j = 29 ∨ j = 30 ∨ j = 31 ∨ j = 32 ∨ j = 33 ∨ j = 34 ∨ j = 35 ∨ j = 36 ∨ j = 37 ∨ j = 38 ∨ j = 39 by omega) with rfl | rfl | rfl | rfl | rfl | rfl | rfl | rfl | rfl | rfl | rfl | rfl | rfl | rfl | rfl | rfl | rfl | rfl | rfl | rfl | rfl | rfl | rfl | rfl | rfl | rfl | rfl | rfl | rfl | rfl | rfl | rfl | rfl | rfl | rfl | rfl | rfl | rfl | rfl | rfl
      · refine lv_tableIn (off := 176) (tgt := 216) hx hb dL_law_40 (by decide) (by decide) (by decide) (by decide) ?_
        exact tc_0 hst hd0 hs C1 hX H _ ls hPc hDc hS hl
      · refine lv_tableIn (off := 220) (tgt := 260) hx hb dL_law_40 (by decide) (by decide) (by decide) (by decide) ?_
        exact tc_1 hst hd0 hs C1 hX H _ ls hPc hDc hS hl
      · refine lv_tableIn (off := 324) (tgt := 364) hx hb dL_law_40 (by decide) (by decide) (by decide) (by decide) ?_
        exact tc_2 hst hd0 hs C1 hX H _ ls hPc hDc hS hl
      · refine lv_tableIn (off := 416) (tgt := 456) hx hb dL_law_40 (by decide) (by decide) (by decide) (by decide) ?_
        exact tc_3 hst hd0 hs C1 hX H _ ls hPc hDc hS hl
      · refine lv_tableIn (off := 472) (tgt := 512) hx hb dL_law_40 (by decide) (by decide) (by decide) (by decide) ?_
        by_cases hc : (1 : Int32) ≤ xs (0 + 1 : Int32).toNatClampNeg ∧ xs (0 + 1 : Int32).toNatClampNeg ≤ 30
        · exact tc_4_in hst hd0 hs C1 hX hc H _ ls hPc hDc hS hl
        · exact tc_4_out hst hd0 hs C1 hX hc H _ ls hPc hDc hS hl
      · refine lv_tableIn (off := 528) (tgt := 568) hx hb dL_law_40 (by decide) (by decide) (by decide) (by decide) ?_
        exact tc_5 hst hd0 hs C1 hX H _ ls hPc hDc hS hl
      · refine lv_tableIn (off := 619) (tgt := 659) hx hb dL_law_40 (by decide) (by decide) (by decide) (by decide) ?_
        exact tc_6 hst hd0 hs C1 hX H _ ls hPc hDc hS hl
      · refine lv_tableIn (off := 699) (tgt := 739) hx hb dL_law_40 (by decide) (by decide) (by decide) (by decide) ?_
        exact tc_7 hst hd0 hs C1 hX H _ ls hPc hDc hS hl
      · refine lv_tableIn (off := 817) (tgt := 857) hx hb dL_law_40 (by decide) (by decide) (by decide) (by decide) ?_
        by_cases hc : (1 : Int32) ≤ xs (0 + 1 : Int32).toNatClampNeg ∧ xs (0 + 1 : Int32).toNatClampNeg ≤ 60
        · exact tc_8_in hst hd0 hs C1 hX hc H _ ls hPc hDc hS hl
        · exact tc_8_out hst hd0 hs C1 hX hc H _ ls hPc hDc hS hl
      · refine lv_tableIn (off := 873) (tgt := 913) hx hb dL_law_40 (by decide) (by decide) (by decide) (by decide) ?_
        exact tc_9 hst hd0 hs C1 hX H _ ls hPc hDc hS hl
      · refine lv_tableIn (off := 886) (tgt := 926) hx hb dL_law_40 (by decide) (by decide) (by decide) (by decide) ?_
        exact tc_10 hst hd0 hs C1 hX H _ ls hPc hDc hS hl
      · refine lv_tableIn (off := 899) (tgt := 939) hx hb dL_law_40 (by decide) (by decide) (by decide) (by decide) ?_
        exact tc_11 hst hd0 hs C1 hX H _ ls hPc hDc hS hl
      · refine lv_tableIn (off := 912) (tgt := 952) hx hb dL_law_40 (by decide) (by decide) (by decide) (by decide) ?_
        exact tc_12 hst hd0 hs C1 hX H _ ls hPc hDc hS hl
      · refine lv_tableIn (off := 925) (tgt := 965) hx hb dL_law_40 (by decide) (by decide) (by decide) (by decide) ?_
        exact tc_13 hst hd0 hs C1 hX H _ ls hPc hDc hS hl
      · refine lv_tableIn (off := 988) (tgt := 1028) hx hb dL_law_40 (by decide) (by decide) (by decide) (by decide) ?_
        exact tc_14 hst hd0 hs C1 hX H _ ls hPc hDc hS hl
      · refine lv_tableIn (off := 1044) (tgt := 1084) hx hb dL_law_40 (by decide) (by decide) (by decide) (by decide) ?_
        exact tc_15 hst hd0 hs C1 hX H _ ls hPc hDc hS hl
      · refine lv_tableIn (off := 1100) (tgt := 1140) hx hb dL_law_40 (by decide) (by decide) (by decide) (by decide) ?_
        exact tc_16 hst hd0 hs C1 hX H _ ls hPc hDc hS hl
      · refine lv_tableIn (off := 1156) (tgt := 1196) hx hb dL_law_40 (by decide) (by decide) (by decide) (by decide) ?_
        exact tc_17 hst hd0 hs C1 hX H _ ls hPc hDc hS hl
      · refine lv_tableIn (off := 1212) (tgt := 1252) hx hb dL_law_40 (by decide) (by decide) (by decide) (by decide) ?_
        exact tc_18 hst hd0 hs C1 hX H _ ls hPc hDc hS hl
      · refine lv_tableIn (off := 1280) (tgt := 1320) hx hb dL_law_40 (by decide) (by decide) (by decide) (by decide) ?_
        exact tc_19 hst hd0 hs C1 hX H _ ls hPc hDc hS hl
      · refine lv_tableIn (off := 1348) (tgt := 1388) hx hb dL_law_40 (by decide) (by decide) (by decide) (by decide) ?_
        exact tc_20 hst hd0 hs C1 hX H _ ls hPc hDc hS hl
      · refine lv_tableIn (off := 1361) (tgt := 1401) hx hb dL_law_40 (by decide) (by decide) (by decide) (by decide) ?_
        exact tc_21 hst hd0 hs C1 hX H _ ls hPc hDc hS hl
      · refine lv_tableIn (off := 1417) (tgt := 1457) hx hb dL_law_40 (by decide) (by decide) (by decide) (by decide) ?_
        exact tc_22 hst hd0 hs C1 hX H _ ls hPc hDc hS hl
      · refine lv_tableIn (off := 1473) (tgt := 1513) hx hb dL_law_40 (by decide) (by decide) (by decide) (by decide) ?_
        exact tc_23 hst hd0 hs C1 hX H _ ls hPc hDc hS hl
      · refine lv_tableIn (off := 1529) (tgt := 1569) hx hb dL_law_40 (by decide) (by decide) (by decide) (by decide) ?_
        exact tc_24 hst hd0 hs C1 hX H _ ls hPc hDc hS hl
      · refine lv_tableIn (off := 1585) (tgt := 1625) hx hb dL_law_40 (by decide) (by decide) (by decide) (by decide) ?_
        exact tc_25 hst hd0 hs C1 hX H _ ls hPc hDc hS hl
      · refine lv_tableIn (off := 1653) (tgt := 1693) hx hb dL_law_40 (by decide) (by decide) (by decide) (by decide) ?_
        exact tc_26 hst hd0 hs C1 hX H _ ls hPc hDc hS hl
      · refine lv_tableIn (off := 1709) (tgt := 1749) hx hb dL_law_40 (by decide) (by decide) (by decide) (by decide) ?_
        exact tc_27 hst hd0 hs C1 hX H _ ls hPc hDc hS hl
      · refine lv_tableIn (off := 1765) (tgt := 1805) hx hb dL_law_40 (by decide) (by decide) (by decide) (by decide) ?_
        exact tc_28 hst hd0 hs C1 hX H _ ls hPc hDc hS hl
      · refine lv_tableIn (off := 1821) (tgt := 1861) hx hb dL_law_40 (by decide) (by decide) (by decide) (by decide) ?_
        exact tc_29 hst hd0 hs C1 hX H _ ls hPc hDc hS hl
      · refine lv_tableIn (off := 1877) (tgt := 1917) hx hb dL_law_40 (by decide) (by decide) (by decide) (by decide) ?_
        exact tc_30 hst hd0 hs C1 hX H _ ls hPc hDc hS hl
      · refine lv_tableIn (off := 1945) (tgt := 1985) hx hb dL_law_40 (by decide) (by decide) (by decide) (by decide) ?_
        exact tc_31 hst hd0 hs C1 hX H _ ls hPc hDc hS hl
      · refine lv_tableIn (off := 2001) (tgt := 2041) hx hb dL_law_40 (by decide) (by decide) (by decide) (by decide) ?_
        exact tc_32 hst hd0 hs C1 hX H _ ls hPc hDc hS hl
      · refine lv_tableIn (off := 2069) (tgt := 2109) hx hb dL_law_40 (by decide) (by decide) (by decide) (by decide) ?_
        exact tc_33 hst hd0 hs C1 hX H _ ls hPc hDc hS hl
      · refine lv_tableIn (off := 2137) (tgt := 2177) hx hb dL_law_40 (by decide) (by decide) (by decide) (by decide) ?_
        exact tc_34 hst hd0 hs C1 hX H _ ls hPc hDc hS hl
      · refine lv_tableIn (off := 2205) (tgt := 2245) hx hb dL_law_40 (by decide) (by decide) (by decide) (by decide) ?_
        exact tc_35 hst hd0 hs C1 hX H _ ls hPc hDc hS hl
      · refine lv_tableIn (off := 2246) (tgt := 2286) hx hb dL_law_40 (by decide) (by decide) (by decide) (by decide) ?_
        exact tc_36 hst hd0 hs C1 hX H _ ls hPc hDc hS hl
      · refine lv_tableIn (off := 2314) (tgt := 2354) hx hb dL_law_40 (by decide) (by decide) (by decide) (by decide) ?_
        by_cases hc : (1 : Int32) ≤ xs (0 + 1 : Int32).toNatClampNeg ∧ xs (0 + 1 : Int32).toNatClampNeg ≤ 60
        · exact tc_37_in hst hd0 hs C1 hX hc H _ ls hPa hDa hS hl
        · exact tc_37_out hst hd0 hs C1 hX hc H _ ls hPc hDc hS hl
      · refine lv_tableIn (off := 2370) (tgt := 2410) hx hb dL_law_40 (by decide) (by decide) (by decide) (by decide) ?_
        exact tc_38 hst hd0 hs C1 hX H _ ls hPc hDc hS hl
      · refine lv_tableIn (off := 2450) (tgt := 2490) hx hb dL_law_40 (by decide) (by decide) (by decide) (by decide) ?_
        exact tc_39 hst hd0 hs C1 hX H _ ls hPc hDc hS hl
    · refine lv_tableOut (tgt := 2504) hx hb dL_law_40 (Or.inr (by rw [nI_toInt (by omega)]; omega)) (by decide) ?_
      exact tc_end hd0 hs C1 hX (Nat.le_of_ble_eq_true rfl) (Nat.le_of_ble_eq_true rfl) H _ ls hS (lv_sub hl [0, 4] rfl)
/-- YOUR PART: from the entry, for every script of at most 7 ints, the law comes to its end with true -/
theorem whole_start {p : Program} {e : Env} {s : State} {m : MethodId} {below : List Frame} {meth : Method} {c : Code} (l : Launch) (hflags : l.flags = flags0) {b L : Nat} {xs : Nat → Int32} (hL : L ≤ 7) (C0 : lw_At p s m meth c b L xs) : W p l e room_1 s m #[Value.ref b] below meth c s.heap [] 0 0 (lw_Z below #[Value.ref b] s) (entryFrame m ([Value.ref b] : List Value).toArray 9) := by
  obtain ⟨hx, hb, hr, hml, hown, hts, hX, hbl, hlocks, hgv⟩ := C0
  have hst : l.stackTraces = false := by unfold Launch.stackTraces; rw [hflags]; decide
  have hfl := flat_of_before _ hgv
  have hta : ∀ w ∈ tp_all, w.before #[Value.ref b] s = true := fun w h => hts w (List.mem_filter.mp h).1
  have hE := tq_E hts hfl
  obtain ⟨dC, dI, cy, hK⟩ := tq_K hta hE
  have hZ : tp_Z (fun q : Nat => s.heap.size ≤ q) s s.heap := tq_Z hts hta hfl (fun a ha h => absurd ha (Nat.not_lt.mpr h))
  have hl := lv_entry ([.ref b]) (n := 9) (Nat.le_of_ble_eq_true rfl)
  rw [lg_entry_eq]
  generalize (lg_sl ([.ref b]) ++ List.replicate (9 - (lg_sl ([.ref b])).length) Slot.unset).toArray = ls at hl ⊢
  have hl : lv_has ls 9 [(0, .ref b)] := hl
  refine W.base ?_
  have hv : s.vm = (s.setDrawn s.drawn).vm := rfl
  exact tc_start (s := s.setDrawn s.drawn) (A := fun q : Nat => s.heap.size ≤ q) hst (Drawn.sameBut.refl s.drawn lw_cs) rfl ⟨hx, hb, hr, hml, hown, dr_words hta _, hbl, hlocks, va_K.moved (tp_alike hv) hK, tp_E.same hv hE, hZ.moved (tp_alike hv), fun _ h => h, Nat.not_le.mpr hbl, fun _ h => h⟩ hL (va_X.moved (tp_alike hv) hX) ls (fun k q h => by simp at h) ⟨fun i j p q h => by simp at h, fun k q h => by simp at h⟩ va_S.rf hl

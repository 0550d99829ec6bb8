theorem tw_501 : Cond.constantLong RX8 258 (58038) ∈ tp_all := tp_mem 501 (by decide +kernel) rfl
theorem tw_374 : Cond.code yX8_clock cX8_clock 1 (some .int) ∈ tp_all := tp_mem 374 (by decide +kernel) rfl
theorem tw_503 : Cond.methodLink RX8 262 yX8_clock ∈ tp_all := tp_mem 503 (by decide +kernel) rfl
theorem tw_372 : Cond.instanceMethod yX8_clock ∈ tp_all := tp_mem 372 (by decide +kernel) rfl
theorem tw_373 : Cond.selects RX8 yX8_clock yX8_clock ∈ tp_all := tp_mem 373 (by decide +kernel) rfl
theorem tw_520 : Cond.code yX8_digestNodes cX8_digestNodes 7 (some .long) ∈ tp_all := tp_mem 520 (by decide +kernel) rfl
theorem tw_517 : Cond.methodLink RX8 273 yX8_digestNodes ∈ tp_all := tp_mem 517 (by decide +kernel) rfl
theorem tw_519 : Cond.instanceMethod yX8_digestNodes ∈ tp_all := tp_mem 519 (by decide +kernel) rfl
theorem tw_14 : Cond.selects RX8 yX8_digestNodes yX8_digestNodes ∈ tp_all := tp_mem 14 (by decide +kernel) rfl
theorem tw_543 : Cond.code yX8_digestLinks cX8_digestLinks 7 (some .long) ∈ tp_all := tp_mem 543 (by decide +kernel) rfl
theorem tw_540 : Cond.methodLink RX8 277 yX8_digestLinks ∈ tp_all := tp_mem 540 (by decide +kernel) rfl
theorem tw_542 : Cond.instanceMethod yX8_digestLinks ∈ tp_all := tp_mem 542 (by decide +kernel) rfl
theorem tw_15 : Cond.selects RX8 yX8_digestLinks yX8_digestLinks ∈ tp_all := tp_mem 15 (by decide +kernel) rfl
theorem tw_564 : Cond.code yX8_digestFlows cX8_digestFlows 7 (some .long) ∈ tp_all := tp_mem 564 (by decide +kernel) rfl
theorem tw_561 : Cond.methodLink RX8 280 yX8_digestFlows ∈ tp_all := tp_mem 561 (by decide +kernel) rfl
theorem tw_563 : Cond.instanceMethod yX8_digestFlows ∈ tp_all := tp_mem 563 (by decide +kernel) rfl
theorem tw_16 : Cond.selects RX8 yX8_digestFlows yX8_digestFlows ∈ tp_all := tp_mem 16 (by decide +kernel) rfl
theorem tw_569 : Cond.code yX8_digestVehicles cX8_digestVehicles 6 (some .long) ∈ tp_all := tp_mem 569 (by decide +kernel) rfl
theorem tw_566 : Cond.methodLink RX8 283 yX8_digestVehicles ∈ tp_all := tp_mem 566 (by decide +kernel) rfl
theorem tw_568 : Cond.instanceMethod yX8_digestVehicles ∈ tp_all := tp_mem 568 (by decide +kernel) rfl
theorem tw_17 : Cond.selects RX8 yX8_digestVehicles yX8_digestVehicles ∈ tp_all := tp_mem 17 (by decide +kernel) rfl
theorem dX8_digest_0 : decode cX8_digest 0 = .ok (.ldc2_w 258, 3) := by decide +kernel
theorem dX8_digest_3 : decode cX8_digest 3 = .ok (.lstore_n 1, 1) := by decide +kernel
theorem dX8_digest_4 : decode cX8_digest 4 = .ok (.lload_n 1, 1) := by decide +kernel
theorem dX8_digest_5 : decode cX8_digest 5 = .ok (.ldc2_w 260, 3) := by decide +kernel
theorem dX8_digest_8 : decode cX8_digest 8 = .ok (.lmul, 1) := by decide +kernel
theorem dX8_digest_9 : decode cX8_digest 9 = .ok (.aload_n 0, 1) := by decide +kernel
theorem dX8_digest_10 : decode cX8_digest 10 = .ok (.invokevirtual 262, 3) := by decide +kernel
theorem dX8_digest_13 : decode cX8_digest 13 = .ok (.i2l, 1) := by decide +kernel
theorem dX8_digest_14 : decode cX8_digest 14 = .ok (.ladd, 1) := by decide +kernel
theorem dX8_digest_15 : decode cX8_digest 15 = .ok (.lstore_n 1, 1) := by decide +kernel
theorem dX8_digest_16 : decode cX8_digest 16 = .ok (.lload_n 1, 1) := by decide +kernel
theorem dX8_digest_17 : decode cX8_digest 17 = .ok (.ldc2_w 260, 3) := by decide +kernel
theorem dX8_digest_20 : decode cX8_digest 20 = .ok (.lmul, 1) := by decide +kernel
theorem dX8_digest_21 : decode cX8_digest 21 = .ok (.aload_n 0, 1) := by decide +kernel
theorem dX8_digest_22 : decode cX8_digest 22 = .ok (.invokevirtual 265, 3) := by decide +kernel
theorem dX8_digest_25 : decode cX8_digest 25 = .ok (.i2l, 1) := by decide +kernel
theorem dX8_digest_26 : decode cX8_digest 26 = .ok (.ladd, 1) := by decide +kernel
theorem dX8_digest_27 : decode cX8_digest 27 = .ok (.lstore_n 1, 1) := by decide +kernel
theorem dX8_digest_28 : decode cX8_digest 28 = .ok (.lload_n 1, 1) := by decide +kernel
theorem dX8_digest_29 : decode cX8_digest 29 = .ok (.ldc2_w 260, 3) := by decide +kernel
theorem dX8_digest_32 : decode cX8_digest 32 = .ok (.lmul, 1) := by decide +kernel
theorem dX8_digest_33 : decode cX8_digest 33 = .ok (.aload_n 0, 1) := by decide +kernel
theorem dX8_digest_34 : decode cX8_digest 34 = .ok (.invokevirtual 267, 3) := by decide +kernel
theorem dX8_digest_37 : decode cX8_digest 37 = .ok (.i2l, 1) := by decide +kernel
theorem dX8_digest_38 : decode cX8_digest 38 = .ok (.ladd, 1) := by decide +kernel
theorem dX8_digest_39 : decode cX8_digest 39 = .ok (.lstore_n 1, 1) := by decide +kernel
theorem dX8_digest_40 : decode cX8_digest 40 = .ok (.lload_n 1, 1) := by decide +kernel
theorem dX8_digest_41 : decode cX8_digest 41 = .ok (.ldc2_w 260, 3) := by decide +kernel
theorem dX8_digest_44 : decode cX8_digest 44 = .ok (.lmul, 1) := by decide +kernel
theorem dX8_digest_45 : decode cX8_digest 45 = .ok (.aload_n 0, 1) := by decide +kernel
theorem dX8_digest_46 : decode cX8_digest 46 = .ok (.invokevirtual 269, 3) := by decide +kernel
theorem dX8_digest_49 : decode cX8_digest 49 = .ok (.i2l, 1) := by decide +kernel
theorem dX8_digest_50 : decode cX8_digest 50 = .ok (.ladd, 1) := by decide +kernel
theorem dX8_digest_51 : decode cX8_digest 51 = .ok (.lstore_n 1, 1) := by decide +kernel
theorem dX8_digest_52 : decode cX8_digest 52 = .ok (.lload_n 1, 1) := by decide +kernel
theorem dX8_digest_53 : decode cX8_digest 53 = .ok (.ldc2_w 260, 3) := by decide +kernel
theorem dX8_digest_56 : decode cX8_digest 56 = .ok (.lmul, 1) := by decide +kernel
theorem dX8_digest_57 : decode cX8_digest 57 = .ok (.aload_n 0, 1) := by decide +kernel
theorem dX8_digest_58 : decode cX8_digest 58 = .ok (.invokevirtual 271, 3) := by decide +kernel
theorem dX8_digest_61 : decode cX8_digest 61 = .ok (.i2l, 1) := by decide +kernel
theorem dX8_digest_62 : decode cX8_digest 62 = .ok (.ladd, 1) := by decide +kernel
theorem dX8_digest_63 : decode cX8_digest 63 = .ok (.lstore_n 1, 1) := by decide +kernel
theorem dX8_digest_64 : decode cX8_digest 64 = .ok (.aload_n 0, 1) := by decide +kernel
theorem dX8_digest_65 : decode cX8_digest 65 = .ok (.lload_n 1, 1) := by decide +kernel
theorem dX8_digest_66 : decode cX8_digest 66 = .ok (.invokevirtual 273, 3) := by decide +kernel
theorem dX8_digest_69 : decode cX8_digest 69 = .ok (.lstore_n 1, 1) := by decide +kernel
theorem dX8_digest_70 : decode cX8_digest 70 = .ok (.aload_n 0, 1) := by decide +kernel
theorem dX8_digest_71 : decode cX8_digest 71 = .ok (.lload_n 1, 1) := by decide +kernel
theorem dX8_digest_72 : decode cX8_digest 72 = .ok (.invokevirtual 277, 3) := by decide +kernel
theorem dX8_digest_75 : decode cX8_digest 75 = .ok (.lstore_n 1, 1) := by decide +kernel
theorem dX8_digest_76 : decode cX8_digest 76 = .ok (.aload_n 0, 1) := by decide +kernel
theorem dX8_digest_77 : decode cX8_digest 77 = .ok (.lload_n 1, 1) := by decide +kernel
theorem dX8_digest_78 : decode cX8_digest 78 = .ok (.invokevirtual 280, 3) := by decide +kernel
theorem dX8_digest_81 : decode cX8_digest 81 = .ok (.lstore_n 1, 1) := by decide +kernel
theorem dX8_digest_82 : decode cX8_digest 82 = .ok (.aload_n 0, 1) := by decide +kernel
theorem dX8_digest_83 : decode cX8_digest 83 = .ok (.lload_n 1, 1) := by decide +kernel
theorem dX8_digest_84 : decode cX8_digest 84 = .ok (.invokevirtual 283, 3) := by decide +kernel
theorem dX8_digest_87 : decode cX8_digest 87 = .ok (.lreturn, 1) := by decide +kernel
set_option maxRecDepth 100000 in
set_option maxHeartbeats 4000000 in
/-- digest -/
theorem c_digest (l : Launch) (dC : Nat → ClassId) (dI : Nat → Nat → Nat) (cy : Nat → ClassId) (L : Lay) (tr : Option Nat) (a : St) (κ : Kap) (τ : Tau) (ob : Nat) (tp : Nat) (M : Nat) (sz : Nat) (hT : TL L tr τ) (hw : Wf M a) (hsh : ∀ i, i < 24 → a 2 i 7 = 0 ∨ a 2 i 7 = 1) (hκ : CV a κ) : Met l yX8_digest (tp_w yX8_digest cX8_digest 3 (some .long)) ({ frames := 5, cells := 0, slots := 0, locals := 125 }) (va_Pc [.ref ob] (mPre dC dI cy (fun q e => TW cy L tr a κ τ q e ∨ oW ob (L 0 0) tp q e) sz)) (va_Ql (fun (r u : Int64) => r = u) (fun (u : Int64) (t : State) => ∃ (κ2 : Kap), (u = D_all a) ∧ (CV a κ2) ∧ mw (dC, dI) vwCl (mA (fun q e => TW cy L tr a κ τ q e ∨ oW ob (L 0 0) tp q e) sz) (fun q e => TW cy L tr a κ2 τ q e ∨ oW ob (L 0 0) tp q e) t.heap) (mA (fun q e => TW cy L tr a κ τ q e ∨ oW ob (L 0 0) tp q e) sz)) (0) (0) (mA (fun q e => TW cy L tr a κ τ q e ∨ oW ob (L 0 0) tp q e) sz) := by
  refine Met.ofW (cc := cX8_digest) (maxL := 3) (ret := (some .long)) (by decide) rfl ?_
  intro p e s m args below meth c s₁ B hml hv
  obtain ⟨rfl, hsz, hP, hK, hE⟩ := hv
  have hx := B.exec
  have hb := B.bytes
  have hr := B.returns
  have hts0 := atoms_spec (ws := tp_w yX8_digest cX8_digest 3 (some .long)) B.pre
  have hts : ∀ w ∈ tp_all, w.before _ s = true := fun w h => hts0 w (List.mem_cons_of_mem _ h)
  have hown : s.vm.findClass RX8 = some m.cls := findClass_of_methodNamed B.named
  have hlocks := B.notSynchronized
  subst hsz
  have hP := hP.self s.heap.size
  generalize hAe : mA (fun q e => TW cy L tr a κ τ q e ∨ oW ob (L 0 0) tp q e) s.heap.size = A at hP ⊢
  have hA : ∀ q : Nat, s.heap.size ≤ q → A q := fun q h => by rw [← hAe]; exact Or.inr h
  have hS : va_S A s.heap s.heap [] := va_S.rf
  have hl9 := lv_entry ([.ref ob]) (n := 3) (Nat.le_of_ble_eq_true rfl)
  rw [lg_entry_eq]
  generalize (lg_sl ([.ref ob]) ++ List.replicate (3 - (lg_sl ([.ref ob])).length) Slot.unset).toArray = ls at hl9 ⊢
  have hl : lv_has ls 3 [(0, .ref ob)] := hl9
  refine lv_ldc2 (v := 58038) hx hb hown (hts _ tw_501) dX8_digest_0 ?_
  refine lv_lstore_n (lv' := [(1, .long 58038), (0, .ref ob)]) hx hb dX8_digest_3 rfl hl (by decide) rfl (fun ls hl => ?_)
  refine lv_lload_n hx hb dX8_digest_4 rfl (lv_at hl 0 rfl) ?_
  refine lv_ldc2 (v := 31) hx hb hown (hts _ tw_502) dX8_digest_5 ?_
  refine lv_lmul hx hb dX8_digest_8 ?_
  refine lv_aload_n hx hb dX8_digest_9 rfl (lv_at hl 1 rfl) ?_
  have hFc := m_free (C := (fun q e => TW cy L tr a κ τ q e ∨ oW ob (L 0 0) tp q e)) hP hS hA (fun _ _ h => h)
  refine va_calli (va_runV (As := []) (rest := [.long (58038 * 31)]) ⟨hx, hb, hml, hown, hts⟩ (c_clock l dC dI cy L tr a κ τ ob tp s.heap.size hT) (tp_cwV 0 hts tw_503 tw_372 tw_373 tw_20 tw_374 rfl rfl (by decide +kernel) ⟨Nat.le_of_ble_eq_true rfl, Nat.le_of_ble_eq_true rfl⟩) ⟨m_blind, va_recv hK (hP.one (e := .inr (8, [.ref (L 0 0), .ref tp])) (Or.inr oW_mem)) (ci := 8) (q0 := 0) rfl rfl, fun U hU hW => ⟨rfl, m_pay hK hP hE (fun _ _ h => h) U hU hW⟩⟩ rfl rfl hl.1 rfl (lv_room (Nat.le_of_ble_eq_true rfl)) dX8_digest_10 ⟨(Nat.le_of_ble_eq_true rfl), (Nat.le_of_ble_eq_true rfl)⟩) hS (fun q _ h => hFc q h) hFc (fun r_1 u t H1 locs ht hvm hpo hB hz1 hk1 hS => ?_)
  obtain rfl := hpo
  obtain ⟨f_1, hP1⟩ := hB
  subst f_1
  rw [ht] at hP1
  have hP : mw (dC, dI) vwCl A (fun q e => TW cy L tr a κ τ q e ∨ oW ob (L 0 0) tp q e) H1 := hP.join (fun _ _ h => h) hk1 hFc hP1 (fun _ _ h => Or.inl h)
  generalize H1 = H at hP hS ⊢
  clear hP1 hk1 hFc
  refine lv_i2l (v := (a 0 0 0).toInt64) hx hb dX8_digest_13 rfl ?_
  refine lv_ladd hx hb dX8_digest_14 ?_
  refine lv_lstore_n (lv' := [(1, .long ((58038 * 31) + ((a 0 0 0).toInt64))), (0, .ref ob)]) hx hb dX8_digest_15 rfl hl (by decide) rfl (fun ls hl => ?_)
  refine lv_lload_n hx hb dX8_digest_16 rfl (lv_at hl 0 rfl) ?_
  refine lv_ldc2 (v := 31) hx hb hown (hts _ tw_502) dX8_digest_17 ?_
  refine lv_lmul hx hb dX8_digest_20 ?_
  refine lv_aload_n hx hb dX8_digest_21 rfl (lv_at hl 1 rfl) ?_
  have hFc := m_free (C := (fun q e => TW cy L tr a κ τ q e ∨ oW ob (L 0 0) tp q e)) hP hS hA (fun _ _ h => h)
  refine va_calli (va_runV (As := []) (rest := [.long (((58038 * 31) + ((a 0 0 0).toInt64)) * 31)]) ⟨hx, hb, hml, hown, hts⟩ (c_nodes l dC dI cy L tr a κ τ ob tp H.size hT) (tp_cwV 0 hts tw_504 tw_505 tw_506 tw_20 tw_507 rfl rfl (by decide +kernel) ⟨Nat.le_of_ble_eq_true rfl, Nat.le_of_ble_eq_true rfl⟩) ⟨m_blind, va_recv hK (hP.one (e := .inr (8, [.ref (L 0 0), .ref tp])) (Or.inr oW_mem)) (ci := 8) (q0 := 0) rfl rfl, fun U hU hW => ⟨rfl, m_pay hK hP hE (fun _ _ h => h) U hU hW⟩⟩ rfl rfl hl.1 rfl (lv_room (Nat.le_of_ble_eq_true rfl)) dX8_digest_22 ⟨(Nat.le_of_ble_eq_true rfl), (Nat.le_of_ble_eq_true rfl)⟩) hS (fun q _ h => hFc q h) hFc (fun r_2 u t H1 locs ht hvm hpo hB hz1 hk1 hS => ?_)
  obtain rfl := hpo
  obtain ⟨f_2, hP1⟩ := hB
  subst f_2
  rw [ht] at hP1
  have hP : mw (dC, dI) vwCl A (fun q e => TW cy L tr a κ τ q e ∨ oW ob (L 0 0) tp q e) H1 := hP.join (fun _ _ h => h) hk1 hFc hP1 (fun _ _ h => Or.inl h)
  generalize H1 = H at hP hS ⊢
  clear hP1 hk1 hFc
  refine lv_i2l (v := (a 0 0 2).toInt64) hx hb dX8_digest_25 rfl ?_
  refine lv_ladd hx hb dX8_digest_26 ?_
  refine lv_lstore_n (lv' := [(1, .long ((((58038 * 31) + ((a 0 0 0).toInt64)) * 31) + ((a 0 0 2).toInt64))), (0, .ref ob)]) hx hb dX8_digest_27 rfl hl (by decide) rfl (fun ls hl => ?_)
  refine lv_lload_n hx hb dX8_digest_28 rfl (lv_at hl 0 rfl) ?_
  refine lv_ldc2 (v := 31) hx hb hown (hts _ tw_502) dX8_digest_29 ?_
  refine lv_lmul hx hb dX8_digest_32 ?_
  refine lv_aload_n hx hb dX8_digest_33 rfl (lv_at hl 1 rfl) ?_
  have hFc := m_free (C := (fun q e => TW cy L tr a κ τ q e ∨ oW ob (L 0 0) tp q e)) hP hS hA (fun _ _ h => h)
  refine va_calli (va_runV (As := []) (rest := [.long (((((58038 * 31) + ((a 0 0 0).toInt64)) * 31) + ((a 0 0 2).toInt64)) * 31)]) ⟨hx, hb, hml, hown, hts⟩ (c_links l dC dI cy L tr a κ τ ob tp H.size hT) (tp_cwV 0 hts tw_508 tw_509 tw_510 tw_20 tw_511 rfl rfl (by decide +kernel) ⟨Nat.le_of_ble_eq_true rfl, Nat.le_of_ble_eq_true rfl⟩) ⟨m_blind, va_recv hK (hP.one (e := .inr (8, [.ref (L 0 0), .ref tp])) (Or.inr oW_mem)) (ci := 8) (q0 := 0) rfl rfl, fun U hU hW => ⟨rfl, m_pay hK hP hE (fun _ _ h => h) U hU hW⟩⟩ rfl rfl hl.1 rfl (lv_room (Nat.le_of_ble_eq_true rfl)) dX8_digest_34 ⟨(Nat.le_of_ble_eq_true rfl), (Nat.le_of_ble_eq_true rfl)⟩) hS (fun q _ h => hFc q h) hFc (fun r_3 u t H1 locs ht hvm hpo hB hz1 hk1 hS => ?_)
  obtain rfl := hpo
  obtain ⟨f_3, hP1⟩ := hB
  subst f_3
  rw [ht] at hP1
  have hP : mw (dC, dI) vwCl A (fun q e => TW cy L tr a κ τ q e ∨ oW ob (L 0 0) tp q e) H1 := hP.join (fun _ _ h => h) hk1 hFc hP1 (fun _ _ h => Or.inl h)
  generalize H1 = H at hP hS ⊢
  clear hP1 hk1 hFc
  refine lv_i2l (v := (a 1 0 0).toInt64) hx hb dX8_digest_37 rfl ?_
  refine lv_ladd hx hb dX8_digest_38 ?_
  refine lv_lstore_n (lv' := [(1, .long ((((((58038 * 31) + ((a 0 0 0).toInt64)) * 31) + ((a 0 0 2).toInt64)) * 31) + ((a 1 0 0).toInt64))), (0, .ref ob)]) hx hb dX8_digest_39 rfl hl (by decide) rfl (fun ls hl => ?_)
  refine lv_lload_n hx hb dX8_digest_40 rfl (lv_at hl 0 rfl) ?_
  refine lv_ldc2 (v := 31) hx hb hown (hts _ tw_502) dX8_digest_41 ?_
  refine lv_lmul hx hb dX8_digest_44 ?_
  refine lv_aload_n hx hb dX8_digest_45 rfl (lv_at hl 1 rfl) ?_
  have hFc := m_free (C := (fun q e => TW cy L tr a κ τ q e ∨ oW ob (L 0 0) tp q e)) hP hS hA (fun _ _ h => h)
  refine va_calli (va_runV (As := []) (rest := [.long (((((((58038 * 31) + ((a 0 0 0).toInt64)) * 31) + ((a 0 0 2).toInt64)) * 31) + ((a 1 0 0).toInt64)) * 31)]) ⟨hx, hb, hml, hown, hts⟩ (c_flows l dC dI cy L tr a κ τ ob tp H.size hT) (tp_cwV 0 hts tw_512 tw_513 tw_514 tw_20 tw_515 rfl rfl (by decide +kernel) ⟨Nat.le_of_ble_eq_true rfl, Nat.le_of_ble_eq_true rfl⟩) ⟨m_blind, va_recv hK (hP.one (e := .inr (8, [.ref (L 0 0), .ref tp])) (Or.inr oW_mem)) (ci := 8) (q0 := 0) rfl rfl, fun U hU hW => ⟨rfl, m_pay hK hP hE (fun _ _ h => h) U hU hW⟩⟩ rfl rfl hl.1 rfl (lv_room (Nat.le_of_ble_eq_true rfl)) dX8_digest_46 ⟨(Nat.le_of_ble_eq_true rfl), (Nat.le_of_ble_eq_true rfl)⟩) hS (fun q _ h => hFc q h) hFc (fun r_4 u t H1 locs ht hvm hpo hB hz1 hk1 hS => ?_)
  obtain rfl := hpo
  obtain ⟨f_4, hP1⟩ := hB
  subst f_4
  rw [ht] at hP1
  have hP : mw (dC, dI) vwCl A (fun q e => TW cy L tr a κ τ q e ∨ oW ob (L 0 0) tp q e) H1 := hP.join (fun _ _ h => h) hk1 hFc hP1 (fun _ _ h => Or.inl h)
  generalize H1 = H at hP hS ⊢
  clear hP1 hk1 hFc
  refine lv_i2l (v := (a 0 0 3).toInt64) hx hb dX8_digest_49 rfl ?_
  refine lv_ladd hx hb dX8_digest_50 ?_
  refine lv_lstore_n (lv' := [(1, .long ((((((((58038 * 31) + ((a 0 0 0).toInt64)) * 31) + ((a 0 0 2).toInt64)) * 31) + ((a 1 0 0).toInt64)) * 31) + ((a 0 0 3).toInt64))), (0, .ref ob)]) hx hb dX8_digest_51 rfl hl (by decide) rfl (fun ls hl => ?_)
  refine lv_lload_n hx hb dX8_digest_52 rfl (lv_at hl 0 rfl) ?_
  refine lv_ldc2 (v := 31) hx hb hown (hts _ tw_502) dX8_digest_53 ?_
  refine lv_lmul hx hb dX8_digest_56 ?_
  refine lv_aload_n hx hb dX8_digest_57 rfl (lv_at hl 1 rfl) ?_
  have hFc := m_free (C := (fun q e => TW cy L tr a κ τ q e ∨ oW ob (L 0 0) tp q e)) hP hS hA (fun _ _ h => h)
  refine va_calli (va_runV (As := []) (rest := [.long (((((((((58038 * 31) + ((a 0 0 0).toInt64)) * 31) + ((a 0 0 2).toInt64)) * 31) + ((a 1 0 0).toInt64)) * 31) + ((a 0 0 3).toInt64)) * 31)]) ⟨hx, hb, hml, hown, hts⟩ (c_vehicles l dC dI cy L tr a κ τ ob tp H.size hT) (tp_cwV 0 hts tw_516 tw_380 tw_381 tw_20 tw_382 rfl rfl (by decide +kernel) ⟨Nat.le_of_ble_eq_true rfl, Nat.le_of_ble_eq_true rfl⟩) ⟨m_blind, va_recv hK (hP.one (e := .inr (8, [.ref (L 0 0), .ref tp])) (Or.inr oW_mem)) (ci := 8) (q0 := 0) rfl rfl, fun U hU hW => ⟨rfl, m_pay hK hP hE (fun _ _ h => h) U hU hW⟩⟩ rfl rfl hl.1 rfl (lv_room (Nat.le_of_ble_eq_true rfl)) dX8_digest_58 ⟨(Nat.le_of_ble_eq_true rfl), (Nat.le_of_ble_eq_true rfl)⟩) hS (fun q _ h => hFc q h) hFc (fun r_5 u t H1 locs ht hvm hpo hB hz1 hk1 hS => ?_)
  obtain rfl := hpo
  obtain ⟨f_5, hP1⟩ := hB
  subst f_5
  rw [ht] at hP1
  have hP : mw (dC, dI) vwCl A (fun q e => TW cy L tr a κ τ q e ∨ oW ob (L 0 0) tp q e) H1 := hP.join (fun _ _ h => h) hk1 hFc hP1 (fun _ _ h => Or.inl h)
  generalize H1 = H at hP hS ⊢
  clear hP1 hk1 hFc
  refine lv_i2l (v := (a 0 0 4).toInt64) hx hb dX8_digest_61 rfl ?_
  refine lv_ladd hx hb dX8_digest_62 ?_
  refine lv_lstore_n (lv' := [(1, .long ((((((((((58038 * 31) + ((a 0 0 0).toInt64)) * 31) + ((a 0 0 2).toInt64)) * 31) + ((a 1 0 0).toInt64)) * 31) + ((a 0 0 3).toInt64)) * 31) + ((a 0 0 4).toInt64))), (0, .ref ob)]) hx hb dX8_digest_63 rfl hl (by decide) rfl (fun ls hl => ?_)
  refine lv_aload_n hx hb dX8_digest_64 rfl (lv_at hl 1 rfl) ?_
  refine lv_lload_n hx hb dX8_digest_65 rfl (lv_at hl 0 rfl) ?_
  have hFc := m_free (C := (fun q e => TW cy L tr a κ τ q e ∨ oW ob (L 0 0) tp q e)) hP hS hA (fun _ _ h => h)
  refine va_calll (va_runV (As := [.long ((((((((((58038 * 31) + ((a 0 0 0).toInt64)) * 31) + ((a 0 0 2).toInt64)) * 31) + ((a 1 0 0).toInt64)) * 31) + ((a 0 0 3).toInt64)) * 31) + ((a 0 0 4).toInt64))]) (rest := []) ⟨hx, hb, hml, hown, hts⟩ (c_digestNodes l dC dI cy L tr a κ τ ob tp M ((((((((((58038 * 31) + ((a 0 0 0).toInt64)) * 31) + ((a 0 0 2).toInt64)) * 31) + ((a 1 0 0).toInt64)) * 31) + ((a 0 0 3).toInt64)) * 31) + ((a 0 0 4).toInt64)) H.size hT hw hsh hκ) (tp_cwV 1 hts tw_517 tw_519 tw_14 tw_20 tw_520 rfl rfl (by decide +kernel) ⟨Nat.le_of_ble_eq_true rfl, Nat.le_of_ble_eq_true rfl⟩) ⟨m_blind, va_recv hK (hP.one (e := .inr (8, [.ref (L 0 0), .ref tp])) (Or.inr oW_mem)) (ci := 8) (q0 := 0) rfl rfl, fun U hU hW => ⟨rfl, m_pay hK hP hE (fun _ _ h => h) U hU hW⟩⟩ rfl rfl hl.1 rfl (lv_room (Nat.le_of_ble_eq_true rfl)) dX8_digest_66 ⟨(Nat.le_of_ble_eq_true rfl), (Nat.le_of_ble_eq_true rfl)⟩) hS (fun q _ h => hFc q h) hFc (fun r_6 u t H1 locs ht hvm hpo hB hz1 hk1 hS => ?_)
  obtain rfl := hpo
  obtain ⟨z_1, f_6, f_7, hP1⟩ := hB
  subst f_6
  rw [ht] at hP1
  have hP : mw (dC, dI) vwCl A (fun q e => TW cy L tr a z_1 τ q e ∨ oW ob (L 0 0) tp q e) H1 := hP.join (fun _ _ h => h) hk1 hFc hP1 (fun _ _ h => Or.inl h)
  generalize H1 = H at hP hS ⊢
  clear hP1 hk1 hFc
  refine lv_lstore_n (lv' := [(1, .long (D_nodes a ((((((((((58038 * 31) + ((a 0 0 0).toInt64)) * 31) + ((a 0 0 2).toInt64)) * 31) + ((a 1 0 0).toInt64)) * 31) + ((a 0 0 3).toInt64)) * 31) + ((a 0 0 4).toInt64)))), (0, .ref ob)]) hx hb dX8_digest_69 rfl hl (by decide) rfl (fun ls hl => ?_)
  refine lv_aload_n hx hb dX8_digest_70 rfl (lv_at hl 1 rfl) ?_
  refine lv_lload_n hx hb dX8_digest_71 rfl (lv_at hl 0 rfl) ?_
  have hFc := m_free (C := (fun q e => TW cy L tr a z_1 τ q e ∨ oW ob (L 0 0) tp q e)) hP hS hA (fun _ _ h => h)
  refine va_calll (va_runV (As := [.long (D_nodes a ((((((((((58038 * 31) + ((a 0 0 0).toInt64)) * 31) + ((a 0 0 2).toInt64)) * 31) + ((a 1 0 0).toInt64)) * 31) + ((a 0 0 3).toInt64)) * 31) + ((a 0 0 4).toInt64)))]) (rest := []) ⟨hx, hb, hml, hown, hts⟩ (c_digestLinks l dC dI cy L tr a z_1 τ ob tp M (D_nodes a ((((((((((58038 * 31) + ((a 0 0 0).toInt64)) * 31) + ((a 0 0 2).toInt64)) * 31) + ((a 1 0 0).toInt64)) * 31) + ((a 0 0 3).toInt64)) * 31) + ((a 0 0 4).toInt64))) H.size hT hw hsh f_7) (tp_cwV 1 hts tw_540 tw_542 tw_15 tw_20 tw_543 rfl rfl (by decide +kernel) ⟨Nat.le_of_ble_eq_true rfl, Nat.le_of_ble_eq_true rfl⟩) ⟨m_blind, va_recv hK (hP.one (e := .inr (8, [.ref (L 0 0), .ref tp])) (Or.inr oW_mem)) (ci := 8) (q0 := 0) rfl rfl, fun U hU hW => ⟨rfl, m_pay hK hP hE (fun _ _ h => h) U hU hW⟩⟩ rfl rfl hl.1 rfl (lv_room (Nat.le_of_ble_eq_true rfl)) dX8_digest_72 ⟨(Nat.le_of_ble_eq_true rfl), (Nat.le_of_ble_eq_true rfl)⟩) hS (fun q _ h => hFc q h) hFc (fun r_7 u t H1 locs ht hvm hpo hB hz1 hk1 hS => ?_)
  obtain rfl := hpo
  obtain ⟨z_2, f_8, f_9, hP1⟩ := hB
  subst f_8
  rw [ht] at hP1
  have hP : mw (dC, dI) vwCl A (fun q e => TW cy L tr a z_2 τ q e ∨ oW ob (L 0 0) tp q e) H1 := hP.join (fun _ _ h => h) hk1 hFc hP1 (fun _ _ h => Or.inl h)
  generalize H1 = H at hP hS ⊢
  clear hP1 hk1 hFc
  refine lv_lstore_n (lv' := [(1, .long (D_links a (D_nodes a ((((((((((58038 * 31) + ((a 0 0 0).toInt64)) * 31) + ((a 0 0 2).toInt64)) * 31) + ((a 1 0 0).toInt64)) * 31) + ((a 0 0 3).toInt64)) * 31) + ((a 0 0 4).toInt64))))), (0, .ref ob)]) hx hb dX8_digest_75 rfl hl (by decide) rfl (fun ls hl => ?_)
  refine lv_aload_n hx hb dX8_digest_76 rfl (lv_at hl 1 rfl) ?_
  refine lv_lload_n hx hb dX8_digest_77 rfl (lv_at hl 0 rfl) ?_
  have hFc := m_free (C := (fun q e => TW cy L tr a z_2 τ q e ∨ oW ob (L 0 0) tp q e)) hP hS hA (fun _ _ h => h)
  refine va_calll (va_runV (As := [.long (D_links a (D_nodes a ((((((((((58038 * 31) + ((a 0 0 0).toInt64)) * 31) + ((a 0 0 2).toInt64)) * 31) + ((a 1 0 0).toInt64)) * 31) + ((a 0 0 3).toInt64)) * 31) + ((a 0 0 4).toInt64))))]) (rest := []) ⟨hx, hb, hml, hown, hts⟩ (c_digestFlows l dC dI cy L tr a z_2 τ ob tp M (D_links a (D_nodes a ((((((((((58038 * 31) + ((a 0 0 0).toInt64)) * 31) + ((a 0 0 2).toInt64)) * 31) + ((a 1 0 0).toInt64)) * 31) + ((a 0 0 3).toInt64)) * 31) + ((a 0 0 4).toInt64)))) H.size hT hw hsh f_9) (tp_cwV 1 hts tw_561 tw_563 tw_16 tw_20 tw_564 rfl rfl (by decide +kernel) ⟨Nat.le_of_ble_eq_true rfl, Nat.le_of_ble_eq_true rfl⟩) ⟨m_blind, va_recv hK (hP.one (e := .inr (8, [.ref (L 0 0), .ref tp])) (Or.inr oW_mem)) (ci := 8) (q0 := 0) rfl rfl, fun U hU hW => ⟨rfl, m_pay hK hP hE (fun _ _ h => h) U hU hW⟩⟩ rfl rfl hl.1 rfl (lv_room (Nat.le_of_ble_eq_true rfl)) dX8_digest_78 ⟨(Nat.le_of_ble_eq_true rfl), (Nat.le_of_ble_eq_true rfl)⟩) hS (fun q _ h => hFc q h) hFc (fun r_8 u t H1 locs ht hvm hpo hB hz1 hk1 hS => ?_)
  obtain rfl := hpo
  obtain ⟨z_3, f_10, f_11, hP1⟩ := hB
  subst f_10
  rw [ht] at hP1
  have hP : mw (dC, dI) vwCl A (fun q e => TW cy L tr a z_3 τ q e ∨ oW ob (L 0 0) tp q e) H1 := hP.join (fun _ _ h => h) hk1 hFc hP1 (fun _ _ h => Or.inl h)
  generalize H1 = H at hP hS ⊢
  clear hP1 hk1 hFc
  refine lv_lstore_n (lv' := [(1, .long (D_flows a (D_links a (D_nodes a ((((((((((58038 * 31) + ((a 0 0 0).toInt64)) * 31) + ((a 0 0 2).toInt64)) * 31) + ((a 1 0 0).toInt64)) * 31) + ((a 0 0 3).toInt64)) * 31) + ((a 0 0 4).toInt64)))))), (0, .ref ob)]) hx hb dX8_digest_81 rfl hl (by decide) rfl (fun ls hl => ?_)
  refine lv_aload_n hx hb dX8_digest_82 rfl (lv_at hl 1 rfl) ?_
  refine lv_lload_n hx hb dX8_digest_83 rfl (lv_at hl 0 rfl) ?_
  have hFc := m_free (C := (fun q e => TW cy L tr a z_3 τ q e ∨ oW ob (L 0 0) tp q e)) hP hS hA (fun _ _ h => h)
  refine va_calll (va_runV (As := [.long (D_flows a (D_links a (D_nodes a ((((((((((58038 * 31) + ((a 0 0 0).toInt64)) * 31) + ((a 0 0 2).toInt64)) * 31) + ((a 1 0 0).toInt64)) * 31) + ((a 0 0 3).toInt64)) * 31) + ((a 0 0 4).toInt64)))))]) (rest := []) ⟨hx, hb, hml, hown, hts⟩ (c_digestVehicles l dC dI cy L tr a z_3 τ ob tp M (D_flows a (D_links a (D_nodes a ((((((((((58038 * 31) + ((a 0 0 0).toInt64)) * 31) + ((a 0 0 2).toInt64)) * 31) + ((a 1 0 0).toInt64)) * 31) + ((a 0 0 3).toInt64)) * 31) + ((a 0 0 4).toInt64))))) H.size hT hw hsh f_11) (tp_cwV 1 hts tw_566 tw_568 tw_17 tw_20 tw_569 rfl rfl (by decide +kernel) ⟨Nat.le_of_ble_eq_true rfl, Nat.le_of_ble_eq_true rfl⟩) ⟨m_blind, va_recv hK (hP.one (e := .inr (8, [.ref (L 0 0), .ref tp])) (Or.inr oW_mem)) (ci := 8) (q0 := 0) rfl rfl, fun U hU hW => ⟨rfl, m_pay hK hP hE (fun _ _ h => h) U hU hW⟩⟩ rfl rfl hl.1 rfl (lv_room (Nat.le_of_ble_eq_true rfl)) dX8_digest_84 ⟨(Nat.le_of_ble_eq_true rfl), (Nat.le_of_ble_eq_true rfl)⟩) hS (fun q _ h => hFc q h) hFc (fun r_9 u t H1 locs ht hvm hpo hB hz1 hk1 hS => ?_)
  obtain rfl := hpo
  obtain ⟨z_4, f_12, f_13, hP1⟩ := hB
  subst f_12
  rw [ht] at hP1
  have hP : mw (dC, dI) vwCl A (fun q e => TW cy L tr a z_4 τ q e ∨ oW ob (L 0 0) tp q e) H1 := hP.join (fun _ _ h => h) hk1 hFc hP1 (fun _ _ h => Or.inl h)
  generalize H1 = H at hP hS ⊢
  clear hP1 hk1 hFc
  refine W.widen (k := 0) (n := 0) (Nat.le_of_ble_eq_true rfl) (Nat.le_of_ble_eq_true rfl) ?_
  have g_1 : (D_vehs a (D_flows a (D_links a (D_nodes a ((((((((((58038 * 31) + ((a 0 0 0).toInt64)) * 31) + ((a 0 0 2).toInt64)) * 31) + ((a 1 0 0).toInt64)) * 31) + ((a 0 0 3).toInt64)) * 31) + ((a 0 0 4).toInt64)))))) = D_all a := by
    rfl
  have g_2 : CV a z_4 := by
    exact f_13
  exact W.lret (v := D_vehs a (D_flows a (D_links a (D_nodes a ((((((((((58038 * 31) + ((a 0 0 0).toInt64)) * 31) + ((a 0 0 2).toInt64)) * 31) + ((a 1 0 0).toInt64)) * 31) + ((a 0 0 3).toInt64)) * 31) + ((a 0 0 4).toInt64)))))) hx hb hr (fun t ht hW => ⟨⟨(D_vehs a (D_flows a (D_links a (D_nodes a ((((((((((58038 * 31) + ((a 0 0 0).toInt64)) * 31) + ((a 0 0 2).toInt64)) * 31) + ((a 1 0 0).toInt64)) * 31) + ((a 0 0 3).toInt64)) * 31) + ((a 0 0 4).toInt64)))))), (D_vehs a (D_flows a (D_links a (D_nodes a ((((((((((58038 * 31) + ((a 0 0 0).toInt64)) * 31) + ((a 0 0 2).toInt64)) * 31) + ((a 1 0 0).toInt64)) * 31) + ((a 0 0 3).toInt64)) * 31) + ((a 0 0 4).toInt64)))))), rfl, rfl, ⟨z_4, g_1, g_2, by show mw _ _ _ _ t.heap; rw [ht]; exact hP⟩⟩, hS.F ht⟩) hS.2.2 dX8_digest_87

theorem tw_515 : Cond.code yX8_flows cX8_flows 1 (some .int) ∈ tp_all := tp_mem 515 (by decide +kernel) rfl
theorem tw_512 : Cond.methodLink RX8 269 yX8_flows ∈ tp_all := tp_mem 512 (by decide +kernel) rfl
theorem tw_513 : Cond.instanceMethod yX8_flows ∈ tp_all := tp_mem 513 (by decide +kernel) rfl
theorem tw_514 : Cond.selects RX8 yX8_flows yX8_flows ∈ tp_all := tp_mem 514 (by decide +kernel) rfl
theorem tw_454 : Cond.code yX8_ofFlow cX8_ofFlow 4 (some .int) ∈ tp_all := tp_mem 454 (by decide +kernel) rfl
theorem tw_565 : Cond.methodLink RX8 326 yX8_ofFlow ∈ tp_all := tp_mem 565 (by decide +kernel) rfl
theorem tw_452 : Cond.instanceMethod yX8_ofFlow ∈ tp_all := tp_mem 452 (by decide +kernel) rfl
theorem tw_453 : Cond.selects RX8 yX8_ofFlow yX8_ofFlow ∈ tp_all := tp_mem 453 (by decide +kernel) rfl
theorem tw_382 : Cond.code yX8_vehicles cX8_vehicles 1 (some .int) ∈ tp_all := tp_mem 382 (by decide +kernel) rfl
theorem tw_516 : Cond.methodLink RX8 271 yX8_vehicles ∈ tp_all := tp_mem 516 (by decide +kernel) rfl
theorem tw_380 : Cond.instanceMethod yX8_vehicles ∈ tp_all := tp_mem 380 (by decide +kernel) rfl
theorem tw_381 : Cond.selects RX8 yX8_vehicles yX8_vehicles ∈ tp_all := tp_mem 381 (by decide +kernel) rfl
theorem tw_386 : Cond.code yX8_stateOf cX8_stateOf 2 (some .int) ∈ tp_all := tp_mem 386 (by decide +kernel) rfl
theorem tw_570 : Cond.methodLink RX8 329 yX8_stateOf ∈ tp_all := tp_mem 570 (by decide +kernel) rfl
theorem tw_384 : Cond.instanceMethod yX8_stateOf ∈ tp_all := tp_mem 384 (by decide +kernel) rfl
theorem tw_385 : Cond.selects RX8 yX8_stateOf yX8_stateOf ∈ tp_all := tp_mem 385 (by decide +kernel) rfl
theorem tw_396 : Cond.code yX8_linkOf cX8_linkOf 2 (some .int) ∈ tp_all := tp_mem 396 (by decide +kernel) rfl
theorem tw_571 : Cond.methodLink RX8 332 yX8_linkOf ∈ tp_all := tp_mem 571 (by decide +kernel) rfl
theorem tw_394 : Cond.instanceMethod yX8_linkOf ∈ tp_all := tp_mem 394 (by decide +kernel) rfl
theorem tw_395 : Cond.selects RX8 yX8_linkOf yX8_linkOf ∈ tp_all := tp_mem 395 (by decide +kernel) rfl
theorem tw_400 : Cond.code yX8_endOf cX8_endOf 2 (some .int) ∈ tp_all := tp_mem 400 (by decide +kernel) rfl
theorem tw_572 : Cond.methodLink RX8 335 yX8_endOf ∈ tp_all := tp_mem 572 (by decide +kernel) rfl
theorem tw_398 : Cond.instanceMethod yX8_endOf ∈ tp_all := tp_mem 398 (by decide +kernel) rfl
theorem tw_399 : Cond.selects RX8 yX8_endOf yX8_endOf ∈ tp_all := tp_mem 399 (by decide +kernel) rfl
theorem tw_404 : Cond.code yX8_linksOf cX8_linksOf 2 (some .int) ∈ tp_all := tp_mem 404 (by decide +kernel) rfl
theorem tw_573 : Cond.methodLink RX8 338 yX8_linksOf ∈ tp_all := tp_mem 573 (by decide +kernel) rfl
theorem tw_402 : Cond.instanceMethod yX8_linksOf ∈ tp_all := tp_mem 402 (by decide +kernel) rfl
theorem tw_403 : Cond.selects RX8 yX8_linksOf yX8_linksOf ∈ tp_all := tp_mem 403 (by decide +kernel) rfl
theorem tw_417 : Cond.code yX8_tripOf cX8_tripOf 2 (some .int) ∈ tp_all := tp_mem 417 (by decide +kernel) rfl
theorem tw_574 : Cond.methodLink RX8 341 yX8_tripOf ∈ tp_all := tp_mem 574 (by decide +kernel) rfl
theorem tw_415 : Cond.instanceMethod yX8_tripOf ∈ tp_all := tp_mem 415 (by decide +kernel) rfl
theorem tw_416 : Cond.selects RX8 yX8_tripOf yX8_tripOf ∈ tp_all := tp_mem 416 (by decide +kernel) rfl
theorem tw_421 : Cond.code yX8_delayOf cX8_delayOf 2 (some .int) ∈ tp_all := tp_mem 421 (by decide +kernel) rfl
theorem tw_575 : Cond.methodLink RX8 344 yX8_delayOf ∈ tp_all := tp_mem 575 (by decide +kernel) rfl
theorem tw_419 : Cond.instanceMethod yX8_delayOf ∈ tp_all := tp_mem 419 (by decide +kernel) rfl
theorem tw_420 : Cond.selects RX8 yX8_delayOf yX8_delayOf ∈ tp_all := tp_mem 420 (by decide +kernel) rfl
theorem dX8_digestFlows_0 : decode cX8_digestFlows 0 = .ok (.lload_n 1, 1) := by decide +kernel
theorem dX8_digestFlows_1 : decode cX8_digestFlows 1 = .ok (.lstore_n 3, 1) := by decide +kernel
theorem dX8_digestFlows_2 : decode cX8_digestFlows 2 = .ok (.iconst 0, 1) := by decide +kernel
theorem dX8_digestFlows_3 : decode cX8_digestFlows 3 = .ok (.istore 5, 2) := by decide +kernel
theorem dX8_digestFlows_5 : decode cX8_digestFlows 5 = .ok (.iload 5, 2) := by decide +kernel
theorem dX8_digestFlows_7 : decode cX8_digestFlows 7 = .ok (.aload_n 0, 1) := by decide +kernel
theorem dX8_digestFlows_8 : decode cX8_digestFlows 8 = .ok (.invokevirtual 269, 3) := by decide +kernel
theorem dX8_digestFlows_11 : decode cX8_digestFlows 11 = .ok (.if_icmp .ge 40, 3) := by decide +kernel
theorem dX8_digestFlows_51 : decode cX8_digestFlows 51 = .ok (.lload_n 3, 1) := by decide +kernel
theorem dX8_digestFlows_52 : decode cX8_digestFlows 52 = .ok (.lreturn, 1) := by decide +kernel
theorem dX8_digestFlows_14 : decode cX8_digestFlows 14 = .ok (.iconst 0, 1) := by decide +kernel
theorem dX8_digestFlows_15 : decode cX8_digestFlows 15 = .ok (.istore 6, 2) := by decide +kernel
theorem dX8_digestFlows_17 : decode cX8_digestFlows 17 = .ok (.iload 6, 2) := by decide +kernel
theorem dX8_digestFlows_19 : decode cX8_digestFlows 19 = .ok (.iconst 5, 1) := by decide +kernel
theorem dX8_digestFlows_20 : decode cX8_digestFlows 20 = .ok (.if_icmp .gt 25, 3) := by decide +kernel
theorem dX8_digestFlows_45 : decode cX8_digestFlows 45 = .ok (.iinc 5 1, 3) := by decide +kernel
theorem dX8_digestFlows_48 : decode cX8_digestFlows 48 = .ok (.goto (-43), 3) := by decide +kernel
theorem dX8_digestFlows_23 : decode cX8_digestFlows 23 = .ok (.lload_n 3, 1) := by decide +kernel
theorem dX8_digestFlows_24 : decode cX8_digestFlows 24 = .ok (.ldc2_w 260, 3) := by decide +kernel
theorem dX8_digestFlows_27 : decode cX8_digestFlows 27 = .ok (.lmul, 1) := by decide +kernel
theorem dX8_digestFlows_28 : decode cX8_digestFlows 28 = .ok (.aload_n 0, 1) := by decide +kernel
theorem dX8_digestFlows_29 : decode cX8_digestFlows 29 = .ok (.iload 5, 2) := by decide +kernel
theorem dX8_digestFlows_31 : decode cX8_digestFlows 31 = .ok (.iload 6, 2) := by decide +kernel
theorem dX8_digestFlows_33 : decode cX8_digestFlows 33 = .ok (.invokevirtual 326, 3) := by decide +kernel
theorem dX8_digestFlows_36 : decode cX8_digestFlows 36 = .ok (.i2l, 1) := by decide +kernel
theorem dX8_digestFlows_37 : decode cX8_digestFlows 37 = .ok (.ladd, 1) := by decide +kernel
theorem dX8_digestFlows_38 : decode cX8_digestFlows 38 = .ok (.lstore_n 3, 1) := by decide +kernel
theorem dX8_digestFlows_39 : decode cX8_digestFlows 39 = .ok (.iinc 6 1, 3) := by decide +kernel
theorem dX8_digestFlows_42 : decode cX8_digestFlows 42 = .ok (.goto (-25), 3) := by decide +kernel
theorem dX8_digestVehicles_0 : decode cX8_digestVehicles 0 = .ok (.lload_n 1, 1) := by decide +kernel
theorem dX8_digestVehicles_1 : decode cX8_digestVehicles 1 = .ok (.lstore_n 3, 1) := by decide +kernel
theorem dX8_digestVehicles_2 : decode cX8_digestVehicles 2 = .ok (.iconst 0, 1) := by decide +kernel
theorem dX8_digestVehicles_3 : decode cX8_digestVehicles 3 = .ok (.istore 5, 2) := by decide +kernel
theorem dX8_digestVehicles_5 : decode cX8_digestVehicles 5 = .ok (.iload 5, 2) := by decide +kernel
theorem dX8_digestVehicles_7 : decode cX8_digestVehicles 7 = .ok (.aload_n 0, 1) := by decide +kernel
theorem dX8_digestVehicles_8 : decode cX8_digestVehicles 8 = .ok (.invokevirtual 271, 3) := by decide +kernel
theorem dX8_digestVehicles_11 : decode cX8_digestVehicles 11 = .ok (.if_icmp .ge 93, 3) := by decide +kernel
theorem dX8_digestVehicles_104 : decode cX8_digestVehicles 104 = .ok (.lload_n 3, 1) := by decide +kernel
theorem dX8_digestVehicles_105 : decode cX8_digestVehicles 105 = .ok (.lreturn, 1) := by decide +kernel
theorem dX8_digestVehicles_14 : decode cX8_digestVehicles 14 = .ok (.lload_n 3, 1) := by decide +kernel
theorem dX8_digestVehicles_15 : decode cX8_digestVehicles 15 = .ok (.ldc2_w 260, 3) := by decide +kernel
theorem dX8_digestVehicles_18 : decode cX8_digestVehicles 18 = .ok (.lmul, 1) := by decide +kernel
theorem dX8_digestVehicles_19 : decode cX8_digestVehicles 19 = .ok (.aload_n 0, 1) := by decide +kernel
theorem dX8_digestVehicles_20 : decode cX8_digestVehicles 20 = .ok (.iload 5, 2) := by decide +kernel
theorem dX8_digestVehicles_22 : decode cX8_digestVehicles 22 = .ok (.invokevirtual 329, 3) := by decide +kernel
theorem dX8_digestVehicles_25 : decode cX8_digestVehicles 25 = .ok (.i2l, 1) := by decide +kernel
theorem dX8_digestVehicles_26 : decode cX8_digestVehicles 26 = .ok (.ladd, 1) := by decide +kernel
theorem dX8_digestVehicles_27 : decode cX8_digestVehicles 27 = .ok (.lstore_n 3, 1) := by decide +kernel
theorem dX8_digestVehicles_28 : decode cX8_digestVehicles 28 = .ok (.lload_n 3, 1) := by decide +kernel
theorem dX8_digestVehicles_29 : decode cX8_digestVehicles 29 = .ok (.ldc2_w 260, 3) := by decide +kernel
theorem dX8_digestVehicles_32 : decode cX8_digestVehicles 32 = .ok (.lmul, 1) := by decide +kernel
theorem dX8_digestVehicles_33 : decode cX8_digestVehicles 33 = .ok (.aload_n 0, 1) := by decide +kernel
theorem dX8_digestVehicles_34 : decode cX8_digestVehicles 34 = .ok (.iload 5, 2) := by decide +kernel
theorem dX8_digestVehicles_36 : decode cX8_digestVehicles 36 = .ok (.invokevirtual 332, 3) := by decide +kernel
theorem dX8_digestVehicles_39 : decode cX8_digestVehicles 39 = .ok (.i2l, 1) := by decide +kernel
theorem dX8_digestVehicles_40 : decode cX8_digestVehicles 40 = .ok (.ladd, 1) := by decide +kernel
theorem dX8_digestVehicles_41 : decode cX8_digestVehicles 41 = .ok (.lstore_n 3, 1) := by decide +kernel
theorem dX8_digestVehicles_42 : decode cX8_digestVehicles 42 = .ok (.lload_n 3, 1) := by decide +kernel
theorem dX8_digestVehicles_43 : decode cX8_digestVehicles 43 = .ok (.ldc2_w 260, 3) := by decide +kernel
theorem dX8_digestVehicles_46 : decode cX8_digestVehicles 46 = .ok (.lmul, 1) := by decide +kernel
theorem dX8_digestVehicles_47 : decode cX8_digestVehicles 47 = .ok (.aload_n 0, 1) := by decide +kernel
theorem dX8_digestVehicles_48 : decode cX8_digestVehicles 48 = .ok (.iload 5, 2) := by decide +kernel
theorem dX8_digestVehicles_50 : decode cX8_digestVehicles 50 = .ok (.invokevirtual 335, 3) := by decide +kernel
theorem dX8_digestVehicles_53 : decode cX8_digestVehicles 53 = .ok (.i2l, 1) := by decide +kernel
theorem dX8_digestVehicles_54 : decode cX8_digestVehicles 54 = .ok (.ladd, 1) := by decide +kernel
theorem dX8_digestVehicles_55 : decode cX8_digestVehicles 55 = .ok (.lstore_n 3, 1) := by decide +kernel
theorem dX8_digestVehicles_56 : decode cX8_digestVehicles 56 = .ok (.lload_n 3, 1) := by decide +kernel
theorem dX8_digestVehicles_57 : decode cX8_digestVehicles 57 = .ok (.ldc2_w 260, 3) := by decide +kernel
theorem dX8_digestVehicles_60 : decode cX8_digestVehicles 60 = .ok (.lmul, 1) := by decide +kernel
theorem dX8_digestVehicles_61 : decode cX8_digestVehicles 61 = .ok (.aload_n 0, 1) := by decide +kernel
theorem dX8_digestVehicles_62 : decode cX8_digestVehicles 62 = .ok (.iload 5, 2) := by decide +kernel
theorem dX8_digestVehicles_64 : decode cX8_digestVehicles 64 = .ok (.invokevirtual 338, 3) := by decide +kernel
theorem dX8_digestVehicles_67 : decode cX8_digestVehicles 67 = .ok (.i2l, 1) := by decide +kernel
theorem dX8_digestVehicles_68 : decode cX8_digestVehicles 68 = .ok (.ladd, 1) := by decide +kernel
theorem dX8_digestVehicles_69 : decode cX8_digestVehicles 69 = .ok (.lstore_n 3, 1) := by decide +kernel
theorem dX8_digestVehicles_70 : decode cX8_digestVehicles 70 = .ok (.lload_n 3, 1) := by decide +kernel
theorem dX8_digestVehicles_71 : decode cX8_digestVehicles 71 = .ok (.ldc2_w 260, 3) := by decide +kernel
theorem dX8_digestVehicles_74 : decode cX8_digestVehicles 74 = .ok (.lmul, 1) := by decide +kernel
theorem dX8_digestVehicles_75 : decode cX8_digestVehicles 75 = .ok (.aload_n 0, 1) := by decide +kernel
theorem dX8_digestVehicles_76 : decode cX8_digestVehicles 76 = .ok (.iload 5, 2) := by decide +kernel
theorem dX8_digestVehicles_78 : decode cX8_digestVehicles 78 = .ok (.invokevirtual 341, 3) := by decide +kernel
theorem dX8_digestVehicles_81 : decode cX8_digestVehicles 81 = .ok (.i2l, 1) := by decide +kernel
theorem dX8_digestVehicles_82 : decode cX8_digestVehicles 82 = .ok (.ladd, 1) := by decide +kernel
theorem dX8_digestVehicles_83 : decode cX8_digestVehicles 83 = .ok (.lstore_n 3, 1) := by decide +kernel
theorem dX8_digestVehicles_84 : decode cX8_digestVehicles 84 = .ok (.lload_n 3, 1) := by decide +kernel
theorem dX8_digestVehicles_85 : decode cX8_digestVehicles 85 = .ok (.ldc2_w 260, 3) := by decide +kernel
theorem dX8_digestVehicles_88 : decode cX8_digestVehicles 88 = .ok (.lmul, 1) := by decide +kernel
theorem dX8_digestVehicles_89 : decode cX8_digestVehicles 89 = .ok (.aload_n 0, 1) := by decide +kernel
theorem dX8_digestVehicles_90 : decode cX8_digestVehicles 90 = .ok (.iload 5, 2) := by decide +kernel
theorem dX8_digestVehicles_92 : decode cX8_digestVehicles 92 = .ok (.invokevirtual 344, 3) := by decide +kernel
theorem dX8_digestVehicles_95 : decode cX8_digestVehicles 95 = .ok (.i2l, 1) := by decide +kernel
theorem dX8_digestVehicles_96 : decode cX8_digestVehicles 96 = .ok (.ladd, 1) := by decide +kernel
theorem dX8_digestVehicles_97 : decode cX8_digestVehicles 97 = .ok (.lstore_n 3, 1) := by decide +kernel
theorem dX8_digestVehicles_98 : decode cX8_digestVehicles 98 = .ok (.iinc 5 1, 3) := by decide +kernel
theorem dX8_digestVehicles_101 : decode cX8_digestVehicles 101 = .ok (.goto (-96), 3) := by decide +kernel
set_option maxRecDepth 100000 in
set_option maxHeartbeats 4000000 in
/-- digestFlows -/
theorem c_digestFlows (l : Launch) (dC : Nat → ClassId) (dI : Nat → Nat → Nat) (cy : Nat → ClassId) (L : Lay) (tr : Option Nat) (a : St) (κ : Kap) (τ : Tau) (ob : Nat) (tp : Nat) (M : Nat) (d0 : Int64) (sz : Nat) (hT : TL L tr τ) (hw : Wf M a) (hsh : ∀ i, i < 24 → a 2 i 7 = 0 ∨ a 2 i 7 = 1) (hκ : CV a κ) : Met l yX8_digestFlows (tp_w yX8_digestFlows cX8_digestFlows 7 (some .long)) ({ frames := 1, cells := 0, slots := 0, locals := 23 }) (va_Pc [.ref ob, .long d0] (mPre dC dI cy (fun q e => TW cy L tr a κ τ q e ∨ oW ob (L 0 0) tp q e) sz)) (va_Ql (fun (r u : Int64) => r = u) (fun (u : Int64) (t : State) => ∃ (κ2 : Kap), (u = D_flows a d0) ∧ (CV a κ2) ∧ mw (dC, dI) vwCl (mA (fun q e => TW cy L tr a κ τ q e ∨ oW ob (L 0 0) tp q e) sz) (fun q e => TW cy L tr a κ2 τ q e ∨ oW ob (L 0 0) tp q e) t.heap) (mA (fun q e => TW cy L tr a κ τ q e ∨ oW ob (L 0 0) tp q e) sz)) (0) (0) (mA (fun q e => TW cy L tr a κ τ q e ∨ oW ob (L 0 0) tp q e) sz) := by
  refine Met.ofW (cc := cX8_digestFlows) (maxL := 7) (ret := (some .long)) (by decide) rfl ?_
  intro p e s m args below meth c s₁ B hml hv
  obtain ⟨rfl, hsz, hP, hK, hE⟩ := hv
  have hx := B.exec
  have hb := B.bytes
  have hr := B.returns
  have hts0 := atoms_spec (ws := tp_w yX8_digestFlows cX8_digestFlows 7 (some .long)) B.pre
  have hts : ∀ w ∈ tp_all, w.before _ s = true := fun w h => hts0 w (List.mem_cons_of_mem _ h)
  have hown : s.vm.findClass RX8 = some m.cls := findClass_of_methodNamed B.named
  have hlocks := B.notSynchronized
  subst hsz
  have hP := hP.self s.heap.size
  generalize hAe : mA (fun q e => TW cy L tr a κ τ q e ∨ oW ob (L 0 0) tp q e) s.heap.size = A at hP ⊢
  have hA : ∀ q : Nat, s.heap.size ≤ q → A q := fun q h => by rw [← hAe]; exact Or.inr h
  have hS : va_S A s.heap s.heap [] := va_S.rf
  have hl9 := lv_entry ([.ref ob, .long d0]) (n := 7) (Nat.le_of_ble_eq_true rfl)
  rw [lg_entry_eq]
  generalize (lg_sl ([.ref ob, .long d0]) ++ List.replicate (7 - (lg_sl ([.ref ob, .long d0])).length) Slot.unset).toArray = ls at hl9 ⊢
  have hl : lv_has ls 7 [(0, .ref ob), (1, .long d0)] := hl9
  refine lv_lload_n hx hb dX8_digestFlows_0 rfl (lv_at hl 1 rfl) ?_
  refine lv_lstore_n (lv' := [(3, .long d0), (0, .ref ob), (1, .long d0)]) hx hb dX8_digestFlows_1 rfl hl (by decide) rfl (fun ls hl => ?_)
  refine lv_iconst (v := 0) hx hb dX8_digestFlows_2 (by decide) ?_
  refine lv_istore (lv' := [(5, .int 0), (3, .long d0), (0, .ref ob), (1, .long d0)]) hx hb dX8_digestFlows_3 hl (by decide) rfl (fun ls hl => ?_)
  have hN_1 : nFl a ≤ 10 := in_le hw.1.2.2.1
  refine W.widen (k := (fun _ => 0) 0) (n := (fun _ => 0) 0) (Nat.le_refl _) (Nat.le_refl _) ?_
  refine tp_for (σ := Kap) (nFl a) (fun _ => 0) (fun _ => 0) (fun (i : Nat) (y : Kap) (H : Heap) (locs : List Loc) (ls : Array Slot) => CV a y ∧ mw (dC, dI) vwCl A (fun q e => TW cy L tr a y τ q e ∨ oW ob (L 0 0) tp q e) H ∧ va_S A s.heap H locs ∧ lv_has ls 7 [(5, .int (nI i)), (3, .long (itL (D_f a) i (d0))), (0, .ref ob), (1, .long d0)]) ?_ ?_ (nFl a) 0 (Nat.zero_add _) κ _ _ ls ⟨hκ, hP, hS, lv_sub hl [0, 1, 2, 3] rfl⟩
  · rintro κ_1 H locs ls ⟨hc_1, hP, hS, hl⟩
    have hl : lv_has ls 7 [(5, .int (nI (nFl a))), (3, .long (itL (D_f a) (nFl a) (d0))), (0, .ref ob), (1, .long d0)] := hl
    have hP : mw (dC, dI) vwCl A (fun q e => TW cy L tr a κ_1 τ q e ∨ oW ob (L 0 0) tp q e) H := hP
    show W _ _ _ _ _ _ _ _ _ _ _ _ (0) (0) _ _
    refine lv_iload hx hb dX8_digestFlows_5 (lv_at hl 0 rfl) ?_
    refine lv_aload_n hx hb dX8_digestFlows_7 rfl (lv_at hl 2 rfl) ?_
    have hFc := m_free (C := (fun q e => TW cy L tr a κ_1 τ q e ∨ oW ob (L 0 0) tp q e)) hP hS hA (fun _ _ h => h)
    refine va_calli (va_runV (As := []) (rest := [.int (nI (nFl a))]) ⟨hx, hb, hml, hown, hts⟩ (c_flows l dC dI cy L tr a κ_1 τ ob tp H.size hT) (tp_cwV 0 hts tw_512 tw_513 tw_514 tw_20 tw_515 rfl rfl (by decide +kernel) ⟨Nat.le_of_ble_eq_true rfl, Nat.le_of_ble_eq_true rfl⟩) ⟨m_blind, va_recv hK (hP.one (e := .inr (8, [.ref (L 0 0), .ref tp])) (Or.inr oW_mem)) (ci := 8) (q0 := 0) rfl rfl, fun U hU hW => ⟨rfl, m_pay hK hP hE (fun _ _ h => h) U hU hW⟩⟩ rfl rfl hl.1 rfl (lv_room (Nat.le_of_ble_eq_true rfl)) dX8_digestFlows_8 ⟨(Nat.le_of_ble_eq_true rfl), (Nat.le_of_ble_eq_true rfl)⟩) hS (fun q _ h => hFc q h) hFc (fun r_1 u t H1 locs ht hvm hpo hB hz1 hk1 hS => ?_)
    obtain rfl := hpo
    obtain ⟨f_1, hP1⟩ := hB
    subst f_1
    rw [ht] at hP1
    have hP : mw (dC, dI) vwCl A (fun q e => TW cy L tr a κ_1 τ q e ∨ oW ob (L 0 0) tp q e) H1 := hP.join (fun _ _ h => h) hk1 hFc hP1 (fun _ _ h => Or.inl h)
    generalize H1 = H at hP hS ⊢
    clear hP1 hk1 hFc
    refine W.eq (g2 := F0 m 11 ls [.int (nI (nFl a)), .int (nI (nFl a))]) (by rw [in_nI hw.1.2.2.1]) ?_
    refine lv_icmp_ge (tgt := 51) hx hb dX8_digestFlows_11 (by decide) (fun _ => ?_) (fun c_1 => absurd (Int32.le_refl _) c_1)
    refine lv_lload_n hx hb dX8_digestFlows_51 rfl (lv_at hl 1 rfl) ?_
    refine W.widen (k := 0) (n := 0) (Nat.le_of_ble_eq_true rfl) (Nat.le_of_ble_eq_true rfl) ?_
    have g_1 : (itL (D_f a) (nFl a) (d0)) = D_flows a d0 := by
      rfl
    have g_2 : CV a κ_1 := by
      exact hc_1
    exact W.lret (v := itL (D_f a) (nFl a) (d0)) hx hb hr (fun t ht hW => ⟨⟨(itL (D_f a) (nFl a) (d0)), (itL (D_f a) (nFl a) (d0)), rfl, rfl, ⟨κ_1, g_1, g_2, by show mw _ _ _ _ t.heap; rw [ht]; exact hP⟩⟩, hS.F ht⟩) hS.2.2 dX8_digestFlows_52
  · rintro i κ_1 H locs ls hi_1 ⟨hc_1, hP, hS, hl⟩ ih_1
    have hl : lv_has ls 7 [(5, .int (nI i)), (3, .long (itL (D_f a) i (d0))), (0, .ref ob), (1, .long d0)] := hl
    have hP : mw (dC, dI) vwCl A (fun q e => TW cy L tr a κ_1 τ q e ∨ oW ob (L 0 0) tp q e) H := hP
    show W _ _ _ _ _ _ _ _ _ _ _ _ (0) (0) _ _
    refine lv_iload hx hb dX8_digestFlows_5 (lv_at hl 0 rfl) ?_
    refine lv_aload_n hx hb dX8_digestFlows_7 rfl (lv_at hl 2 rfl) ?_
    have hFc := m_free (C := (fun q e => TW cy L tr a κ_1 τ q e ∨ oW ob (L 0 0) tp q e)) hP hS hA (fun _ _ h => h)
    refine va_calli (va_runV (As := []) (rest := [.int (nI i)]) ⟨hx, hb, hml, hown, hts⟩ (c_flows l dC dI cy L tr a κ_1 τ ob tp H.size hT) (tp_cwV 0 hts tw_512 tw_513 tw_514 tw_20 tw_515 rfl rfl (by decide +kernel) ⟨Nat.le_of_ble_eq_true rfl, Nat.le_of_ble_eq_true rfl⟩) ⟨m_blind, va_recv hK (hP.one (e := .inr (8, [.ref (L 0 0), .ref tp])) (Or.inr oW_mem)) (ci := 8) (q0 := 0) rfl rfl, fun U hU hW => ⟨rfl, m_pay hK hP hE (fun _ _ h => h) U hU hW⟩⟩ rfl rfl hl.1 rfl (lv_room (Nat.le_of_ble_eq_true rfl)) dX8_digestFlows_8 ⟨(Nat.le_of_ble_eq_true rfl), (Nat.le_of_ble_eq_true rfl)⟩) hS (fun q _ h => hFc q h) hFc (fun r_2 u t H1 locs ht hvm hpo hB hz1 hk1 hS => ?_)
    obtain rfl := hpo
    obtain ⟨f_2, hP1⟩ := hB
    subst f_2
    rw [ht] at hP1
    have hP : mw (dC, dI) vwCl A (fun q e => TW cy L tr a κ_1 τ q e ∨ oW ob (L 0 0) tp q e) H1 := hP.join (fun _ _ h => h) hk1 hFc hP1 (fun _ _ h => Or.inl h)
    generalize H1 = H at hP hS ⊢
    clear hP1 hk1 hFc
    refine W.eq (g2 := F0 m 11 ls [.int (nI (nFl a)), .int (nI i)]) (by rw [in_nI hw.1.2.2.1]) ?_
    refine lv_icmp_ge (tgt := 51) hx hb dX8_digestFlows_11 (by decide) (fun c_2 => absurd c_2 (nI_ge hi_1 (by omega))) (fun _ => ?_)
    refine lv_iconst (v := 0) hx hb dX8_digestFlows_14 (by decide) ?_
    refine lv_istore (lv' := [(6, .int 0), (5, .int (nI i)), (3, .long (itL (D_f a) i (d0))), (0, .ref ob), (1, .long d0)]) hx hb dX8_digestFlows_15 hl (by decide) rfl (fun ls hl => ?_)
    have hN_2 : 6 ≤ 6 := (Nat.le_refl _)
    refine W.widen (k := (fun _ => (0 + 0)) 0) (n := (fun _ => (0 + 0)) 0) (Nat.le_refl _) (Nat.le_refl _) ?_
    refine tp_for (σ := Kap) 6 (fun _ => (0 + 0)) (fun _ => (0 + 0)) (fun (j : Nat) (y : Kap) (H : Heap) (locs : List Loc) (ls : Array Slot) => CV a y ∧ mw (dC, dI) vwCl A (fun q e => TW cy L tr a y τ q e ∨ oW ob (L 0 0) tp q e) H ∧ va_S A s.heap H locs ∧ lv_has ls 7 [(6, .int (nI j)), (3, .long (itL (D_f1 a i) j (itL (D_f a) i (d0)))), (5, .int (nI i)), (0, .ref ob), (1, .long d0)]) ?_ ?_ 6 0 (Nat.zero_add _) κ_1 _ _ ls ⟨hc_1, hP, hS, lv_sub hl [0, 2, 1, 3, 4] rfl⟩
    · rintro κ_2 H locs ls ⟨hc_2, hP, hS, hl⟩
      have hl : lv_has ls 7 [(6, .int (nI 6)), (3, .long (itL (D_f1 a i) 6 (itL (D_f a) i (d0)))), (5, .int (nI i)), (0, .ref ob), (1, .long d0)] := hl
      have hP : mw (dC, dI) vwCl A (fun q e => TW cy L tr a κ_2 τ q e ∨ oW ob (L 0 0) tp q e) H := hP
      show W _ _ _ _ _ _ _ _ _ _ _ _ (0 + 0) (0 + 0) _ _
      refine lv_iload hx hb dX8_digestFlows_17 (lv_at hl 0 rfl) ?_
      refine lv_iconst (v := 5) hx hb dX8_digestFlows_19 (by decide) ?_
      refine lv_icmp_gt (tgt := 45) hx hb dX8_digestFlows_20 (by decide) (fun _ => ?_) (fun c_3 => absurd (by decide) c_3)
      refine lv_iinc (v := nI (i + 1)) (lv' := [(5, .int (nI (i + 1))), (6, .int (nI 6)), (3, .long (itL (D_f1 a i) 6 (itL (D_f a) i (d0)))), (0, .ref ob), (1, .long d0)]) hx hb dX8_digestFlows_45 hl (k := 2) rfl (nI_1 i) (by decide) rfl (fun ls hl => ?_)
      refine lv_goto (tgt := 5) hx hb dX8_digestFlows_48 (by decide) ?_
      exact ih_1 κ_2 _ _ ls ⟨hc_2, hP, hS, lv_sub hl [0, 2, 3, 4] rfl⟩
    · rintro j κ_2 H locs ls hi_2 ⟨hc_2, hP, hS, hl⟩ ih_2
      have hl : lv_has ls 7 [(6, .int (nI j)), (3, .long (itL (D_f1 a i) j (itL (D_f a) i (d0)))), (5, .int (nI i)), (0, .ref ob), (1, .long d0)] := hl
      have hP : mw (dC, dI) vwCl A (fun q e => TW cy L tr a κ_2 τ q e ∨ oW ob (L 0 0) tp q e) H := hP
      show W _ _ _ _ _ _ _ _ _ _ _ _ (0 + 0) (0 + 0) _ _
      refine lv_iload hx hb dX8_digestFlows_17 (lv_at hl 0 rfl) ?_
      refine lv_iconst (v := 5) hx hb dX8_digestFlows_19 (by decide) ?_
      refine lv_icmp_gt (tgt := 45) hx hb dX8_digestFlows_20 (by decide) (fun c_4 => absurd c_4 (nI_nlt (a := 5) (b := j) (by omega) (by decide))) (fun _ => ?_)
      refine lv_lload_n hx hb dX8_digestFlows_23 rfl (lv_at hl 1 rfl) ?_
      refine lv_ldc2 (v := 31) hx hb hown (hts _ tw_502) dX8_digestFlows_24 ?_
      refine lv_lmul hx hb dX8_digestFlows_27 ?_
      refine lv_aload_n hx hb dX8_digestFlows_28 rfl (lv_at hl 3 rfl) ?_
      refine lv_iload hx hb dX8_digestFlows_29 (lv_at hl 2 rfl) ?_
      refine lv_iload hx hb dX8_digestFlows_31 (lv_at hl 0 rfl) ?_
      have hFc := m_free (C := (fun q e => TW cy L tr a κ_2 τ q e ∨ oW ob (L 0 0) tp q e)) hP hS hA (fun _ _ h => h)
      refine va_calli (va_runV (As := [.int (nI i), .int (nI j)]) (rest := [.long ((itL (D_f1 a i) j (itL (D_f a) i (d0))) * 31)]) ⟨hx, hb, hml, hown, hts⟩ (c_ofFlow l dC dI cy L tr a κ_2 τ ob tp M (nI i) j H.size hT hw (nI_fno hw hi_1) hi_2) (tp_cwV 2 hts tw_565 tw_452 tw_453 tw_20 tw_454 rfl rfl (by decide +kernel) ⟨Nat.le_of_ble_eq_true rfl, Nat.le_of_ble_eq_true rfl⟩) ⟨m_blind, va_recv hK (hP.one (e := .inr (8, [.ref (L 0 0), .ref tp])) (Or.inr oW_mem)) (ci := 8) (q0 := 0) rfl rfl, fun U hU hW => ⟨rfl, m_pay hK hP hE (fun _ _ h => h) U hU hW⟩⟩ rfl rfl hl.1 rfl (lv_room (Nat.le_of_ble_eq_true rfl)) dX8_digestFlows_33 ⟨(Nat.le_of_ble_eq_true rfl), (Nat.le_of_ble_eq_true rfl)⟩) hS (fun q _ h => hFc q h) hFc (fun r_3 u t H1 locs ht hvm hpo hB hz1 hk1 hS => ?_)
      obtain rfl := hpo
      obtain ⟨f_3, hP1⟩ := hB
      subst f_3
      rw [ht] at hP1
      have hP : mw (dC, dI) vwCl A (fun q e => TW cy L tr a κ_2 τ q e ∨ oW ob (L 0 0) tp q e) H1 := hP.join (fun _ _ h => h) hk1 hFc hP1 (fun _ _ h => Or.inl h)
      generalize H1 = H at hP hS ⊢
      clear hP1 hk1 hFc
      refine lv_i2l (v := (a 14 (nI i).toNatClampNeg (6 + j)).toInt64) hx hb dX8_digestFlows_36 rfl ?_
      refine lv_ladd hx hb dX8_digestFlows_37 ?_
      refine lv_lstore_n (lv' := [(3, .long (((itL (D_f1 a i) j (itL (D_f a) i (d0))) * 31) + ((a 14 (nI i).toNatClampNeg (6 + j)).toInt64))), (6, .int (nI j)), (5, .int (nI i)), (0, .ref ob), (1, .long d0)]) hx hb dX8_digestFlows_38 rfl hl (by decide) rfl (fun ls hl => ?_)
      refine lv_iinc (v := nI (j + 1)) (lv' := [(6, .int (nI (j + 1))), (3, .long (((itL (D_f1 a i) j (itL (D_f a) i (d0))) * 31) + ((a 14 (nI i).toNatClampNeg (6 + j)).toInt64))), (5, .int (nI i)), (0, .ref ob), (1, .long d0)]) hx hb dX8_digestFlows_39 hl (k := 1) rfl (nI_1 j) (by decide) rfl (fun ls hl => ?_)
      refine lv_goto (tgt := 17) hx hb dX8_digestFlows_42 (by decide) ?_
      exact ih_2 κ_2 _ _ ls ⟨hc_2, hP, hS, lv_sub hl [0, 1, 2, 3, 4] rfl⟩
set_option maxRecDepth 100000 in
set_option maxHeartbeats 4000000 in
/-- digestVehicles -/
theorem c_digestVehicles (l : Launch) (dC : Nat → ClassId) (dI : Nat → Nat → Nat) (cy : Nat → ClassId) (L : Lay) (tr : Option Nat) (a : St) (κ : Kap) (τ : Tau) (ob : Nat) (tp : Nat) (M : Nat) (d0 : Int64) (sz : Nat) (hT : TL L tr τ) (hw : Wf M a) (hsh : ∀ i, i < 24 → a 2 i 7 = 0 ∨ a 2 i 7 = 1) (hκ : CV a κ) : Met l yX8_digestVehicles (tp_w yX8_digestVehicles cX8_digestVehicles 6 (some .long)) ({ frames := 3, cells := 0, slots := 0, locals := 64 }) (va_Pc [.ref ob, .long d0] (mPre dC dI cy (fun q e => TW cy L tr a κ τ q e ∨ oW ob (L 0 0) tp q e) sz)) (va_Ql (fun (r u : Int64) => r = u) (fun (u : Int64) (t : State) => ∃ (κ2 : Kap), (u = D_vehs a d0) ∧ (CV a κ2) ∧ mw (dC, dI) vwCl (mA (fun q e => TW cy L tr a κ τ q e ∨ oW ob (L 0 0) tp q e) sz) (fun q e => TW cy L tr a κ2 τ q e ∨ oW ob (L 0 0) tp q e) t.heap) (mA (fun q e => TW cy L tr a κ τ q e ∨ oW ob (L 0 0) tp q e) sz)) (0) (0) (mA (fun q e => TW cy L tr a κ τ q e ∨ oW ob (L 0 0) tp q e) sz) := by
  refine Met.ofW (cc := cX8_digestVehicles) (maxL := 6) (ret := (some .long)) (by decide) rfl ?_
  intro p e s m args below meth c s₁ B hml hv
  obtain ⟨rfl, hsz, hP, hK, hE⟩ := hv
  have hx := B.exec
  have hb := B.bytes
  have hr := B.returns
  have hts0 := atoms_spec (ws := tp_w yX8_digestVehicles cX8_digestVehicles 6 (some .long)) B.pre
  have hts : ∀ w ∈ tp_all, w.before _ s = true := fun w h => hts0 w (List.mem_cons_of_mem _ h)
  have hown : s.vm.findClass RX8 = some m.cls := findClass_of_methodNamed B.named
  have hlocks := B.notSynchronized
  subst hsz
  have hP := hP.self s.heap.size
  generalize hAe : mA (fun q e => TW cy L tr a κ τ q e ∨ oW ob (L 0 0) tp q e) s.heap.size = A at hP ⊢
  have hA : ∀ q : Nat, s.heap.size ≤ q → A q := fun q h => by rw [← hAe]; exact Or.inr h
  have hS : va_S A s.heap s.heap [] := va_S.rf
  have hl9 := lv_entry ([.ref ob, .long d0]) (n := 6) (Nat.le_of_ble_eq_true rfl)
  rw [lg_entry_eq]
  generalize (lg_sl ([.ref ob, .long d0]) ++ List.replicate (6 - (lg_sl ([.ref ob, .long d0])).length) Slot.unset).toArray = ls at hl9 ⊢
  have hl : lv_has ls 6 [(0, .ref ob), (1, .long d0)] := hl9
  refine lv_lload_n hx hb dX8_digestVehicles_0 rfl (lv_at hl 1 rfl) ?_
  refine lv_lstore_n (lv' := [(3, .long d0), (0, .ref ob), (1, .long d0)]) hx hb dX8_digestVehicles_1 rfl hl (by decide) rfl (fun ls hl => ?_)
  refine lv_iconst (v := 0) hx hb dX8_digestVehicles_2 (by decide) ?_
  refine lv_istore (lv' := [(5, .int 0), (3, .long d0), (0, .ref ob), (1, .long d0)]) hx hb dX8_digestVehicles_3 hl (by decide) rfl (fun ls hl => ?_)
  have hN_1 : nV a ≤ 200 := in_le hw.1.2.2.2
  refine W.widen (k := (fun _ => 0) 0) (n := (fun _ => 0) 0) (Nat.le_refl _) (Nat.le_refl _) ?_
  refine tp_for (σ := Kap) (nV a) (fun _ => 0) (fun _ => 0) (fun (i : Nat) (y : Kap) (H : Heap) (locs : List Loc) (ls : Array Slot) => CV a y ∧ mw (dC, dI) vwCl A (fun q e => TW cy L tr a y τ q e ∨ oW ob (L 0 0) tp q e) H ∧ va_S A s.heap H locs ∧ lv_has ls 6 [(5, .int (nI i)), (3, .long (itL (D_v a) i (d0))), (0, .ref ob), (1, .long d0)]) ?_ ?_ (nV a) 0 (Nat.zero_add _) κ _ _ ls ⟨hκ, hP, hS, lv_sub hl [0, 1, 2, 3] rfl⟩
  · rintro κ_1 H locs ls ⟨hc_1, hP, hS, hl⟩
    have hl : lv_has ls 6 [(5, .int (nI (nV a))), (3, .long (itL (D_v a) (nV a) (d0))), (0, .ref ob), (1, .long d0)] := hl
    have hP : mw (dC, dI) vwCl A (fun q e => TW cy L tr a κ_1 τ q e ∨ oW ob (L 0 0) tp q e) H := hP
    show W _ _ _ _ _ _ _ _ _ _ _ _ (0) (0) _ _
    refine lv_iload hx hb dX8_digestVehicles_5 (lv_at hl 0 rfl) ?_
    refine lv_aload_n hx hb dX8_digestVehicles_7 rfl (lv_at hl 2 rfl) ?_
    have hFc := m_free (C := (fun q e => TW cy L tr a κ_1 τ q e ∨ oW ob (L 0 0) tp q e)) hP hS hA (fun _ _ h => h)
    refine va_calli (va_runV (As := []) (rest := [.int (nI (nV a))]) ⟨hx, hb, hml, hown, hts⟩ (c_vehicles l dC dI cy L tr a κ_1 τ ob tp H.size hT) (tp_cwV 0 hts tw_516 tw_380 tw_381 tw_20 tw_382 rfl rfl (by decide +kernel) ⟨Nat.le_of_ble_eq_true rfl, Nat.le_of_ble_eq_true rfl⟩) ⟨m_blind, va_recv hK (hP.one (e := .inr (8, [.ref (L 0 0), .ref tp])) (Or.inr oW_mem)) (ci := 8) (q0 := 0) rfl rfl, fun U hU hW => ⟨rfl, m_pay hK hP hE (fun _ _ h => h) U hU hW⟩⟩ rfl rfl hl.1 rfl (lv_room (Nat.le_of_ble_eq_true rfl)) dX8_digestVehicles_8 ⟨(Nat.le_of_ble_eq_true rfl), (Nat.le_of_ble_eq_true rfl)⟩) hS (fun q _ h => hFc q h) hFc (fun r_1 u t H1 locs ht hvm hpo hB hz1 hk1 hS => ?_)
    obtain rfl := hpo
    obtain ⟨f_1, hP1⟩ := hB
    subst f_1
    rw [ht] at hP1
    have hP : mw (dC, dI) vwCl A (fun q e => TW cy L tr a κ_1 τ q e ∨ oW ob (L 0 0) tp q e) H1 := hP.join (fun _ _ h => h) hk1 hFc hP1 (fun _ _ h => Or.inl h)
    generalize H1 = H at hP hS ⊢
    clear hP1 hk1 hFc
    refine W.eq (g2 := F0 m 11 ls [.int (nI (nV a)), .int (nI (nV a))]) (by rw [in_nI hw.1.2.2.2]) ?_
    refine lv_icmp_ge (tgt := 104) hx hb dX8_digestVehicles_11 (by decide) (fun _ => ?_) (fun c_1 => absurd (Int32.le_refl _) c_1)
    refine lv_lload_n hx hb dX8_digestVehicles_104 rfl (lv_at hl 1 rfl) ?_
    refine W.widen (k := 0) (n := 0) (Nat.le_of_ble_eq_true rfl) (Nat.le_of_ble_eq_true rfl) ?_
    have g_1 : (itL (D_v a) (nV a) (d0)) = D_vehs a d0 := by
      rfl
    have g_2 : CV a κ_1 := by
      exact hc_1
    exact W.lret (v := itL (D_v a) (nV a) (d0)) hx hb hr (fun t ht hW => ⟨⟨(itL (D_v a) (nV a) (d0)), (itL (D_v a) (nV a) (d0)), rfl, rfl, ⟨κ_1, g_1, g_2, by show mw _ _ _ _ t.heap; rw [ht]; exact hP⟩⟩, hS.F ht⟩) hS.2.2 dX8_digestVehicles_105
  · rintro i κ_1 H locs ls hi_1 ⟨hc_1, hP, hS, hl⟩ ih_1
    have hl : lv_has ls 6 [(5, .int (nI i)), (3, .long (itL (D_v a) i (d0))), (0, .ref ob), (1, .long d0)] := hl
    have hP : mw (dC, dI) vwCl A (fun q e => TW cy L tr a κ_1 τ q e ∨ oW ob (L 0 0) tp q e) H := hP
    show W _ _ _ _ _ _ _ _ _ _ _ _ (0) (0) _ _
    refine lv_iload hx hb dX8_digestVehicles_5 (lv_at hl 0 rfl) ?_
    refine lv_aload_n hx hb dX8_digestVehicles_7 rfl (lv_at hl 2 rfl) ?_
    have hFc := m_free (C := (fun q e => TW cy L tr a κ_1 τ q e ∨ oW ob (L 0 0) tp q e)) hP hS hA (fun _ _ h => h)
    refine va_calli (va_runV (As := []) (rest := [.int (nI i)]) ⟨hx, hb, hml, hown, hts⟩ (c_vehicles l dC dI cy L tr a κ_1 τ ob tp H.size hT) (tp_cwV 0 hts tw_516 tw_380 tw_381 tw_20 tw_382 rfl rfl (by decide +kernel) ⟨Nat.le_of_ble_eq_true rfl, Nat.le_of_ble_eq_true rfl⟩) ⟨m_blind, va_recv hK (hP.one (e := .inr (8, [.ref (L 0 0), .ref tp])) (Or.inr oW_mem)) (ci := 8) (q0 := 0) rfl rfl, fun U hU hW => ⟨rfl, m_pay hK hP hE (fun _ _ h => h) U hU hW⟩⟩ rfl rfl hl.1 rfl (lv_room (Nat.le_of_ble_eq_true rfl)) dX8_digestVehicles_8 ⟨(Nat.le_of_ble_eq_true rfl), (Nat.le_of_ble_eq_true rfl)⟩) hS (fun q _ h => hFc q h) hFc (fun r_2 u t H1 locs ht hvm hpo hB hz1 hk1 hS => ?_)
    obtain rfl := hpo
    obtain ⟨f_2, hP1⟩ := hB
    subst f_2
    rw [ht] at hP1
    have hP : mw (dC, dI) vwCl A (fun q e => TW cy L tr a κ_1 τ q e ∨ oW ob (L 0 0) tp q e) H1 := hP.join (fun _ _ h => h) hk1 hFc hP1 (fun _ _ h => Or.inl h)
    generalize H1 = H at hP hS ⊢
    clear hP1 hk1 hFc
    refine W.eq (g2 := F0 m 11 ls [.int (nI (nV a)), .int (nI i)]) (by rw [in_nI hw.1.2.2.2]) ?_
    refine lv_icmp_ge (tgt := 104) hx hb dX8_digestVehicles_11 (by decide) (fun c_2 => absurd c_2 (nI_ge hi_1 (by omega))) (fun _ => ?_)
    refine lv_lload_n hx hb dX8_digestVehicles_14 rfl (lv_at hl 1 rfl) ?_
    refine lv_ldc2 (v := 31) hx hb hown (hts _ tw_502) dX8_digestVehicles_15 ?_
    refine lv_lmul hx hb dX8_digestVehicles_18 ?_
    refine lv_aload_n hx hb dX8_digestVehicles_19 rfl (lv_at hl 2 rfl) ?_
    refine lv_iload hx hb dX8_digestVehicles_20 (lv_at hl 0 rfl) ?_
    have hFc := m_free (C := (fun q e => TW cy L tr a κ_1 τ q e ∨ oW ob (L 0 0) tp q e)) hP hS hA (fun _ _ h => h)
    refine va_calli (va_runV (As := [.int (nI i)]) (rest := [.long ((itL (D_v a) i (d0)) * 31)]) ⟨hx, hb, hml, hown, hts⟩ (c_stateOf l dC dI cy L tr a κ_1 τ ob tp M (nI i) H.size hT hw (nI_vno hw hi_1)) (tp_cwV 1 hts tw_570 tw_384 tw_385 tw_20 tw_386 rfl rfl (by decide +kernel) ⟨Nat.le_of_ble_eq_true rfl, Nat.le_of_ble_eq_true rfl⟩) ⟨m_blind, va_recv hK (hP.one (e := .inr (8, [.ref (L 0 0), .ref tp])) (Or.inr oW_mem)) (ci := 8) (q0 := 0) rfl rfl, fun U hU hW => ⟨rfl, m_pay hK hP hE (fun _ _ h => h) U hU hW⟩⟩ rfl rfl hl.1 rfl (lv_room (Nat.le_of_ble_eq_true rfl)) dX8_digestVehicles_22 ⟨(Nat.le_of_ble_eq_true rfl), (Nat.le_of_ble_eq_true rfl)⟩) hS (fun q _ h => hFc q h) hFc (fun r_3 u t H1 locs ht hvm hpo hB hz1 hk1 hS => ?_)
    obtain rfl := hpo
    obtain ⟨f_3, hP1⟩ := hB
    subst f_3
    rw [ht] at hP1
    have hP : mw (dC, dI) vwCl A (fun q e => TW cy L tr a κ_1 τ q e ∨ oW ob (L 0 0) tp q e) H1 := hP.join (fun _ _ h => h) hk1 hFc hP1 (fun _ _ h => Or.inl h)
    generalize H1 = H at hP hS ⊢
    clear hP1 hk1 hFc
    refine lv_i2l (v := (a 15 (nI i).toNatClampNeg 3).toInt64) hx hb dX8_digestVehicles_25 rfl ?_
    refine lv_ladd hx hb dX8_digestVehicles_26 ?_
    refine lv_lstore_n (lv' := [(3, .long (((itL (D_v a) i (d0)) * 31) + ((a 15 (nI i).toNatClampNeg 3).toInt64))), (5, .int (nI i)), (0, .ref ob), (1, .long d0)]) hx hb dX8_digestVehicles_27 rfl hl (by decide) rfl (fun ls hl => ?_)
    refine lv_lload_n hx hb dX8_digestVehicles_28 rfl (lv_at hl 0 rfl) ?_
    refine lv_ldc2 (v := 31) hx hb hown (hts _ tw_502) dX8_digestVehicles_29 ?_
    refine lv_lmul hx hb dX8_digestVehicles_32 ?_
    refine lv_aload_n hx hb dX8_digestVehicles_33 rfl (lv_at hl 2 rfl) ?_
    refine lv_iload hx hb dX8_digestVehicles_34 (lv_at hl 1 rfl) ?_
    have hFc := m_free (C := (fun q e => TW cy L tr a κ_1 τ q e ∨ oW ob (L 0 0) tp q e)) hP hS hA (fun _ _ h => h)
    refine va_calli (va_runV (As := [.int (nI i)]) (rest := [.long ((((itL (D_v a) i (d0)) * 31) + ((a 15 (nI i).toNatClampNeg 3).toInt64)) * 31)]) ⟨hx, hb, hml, hown, hts⟩ (c_linkOf l dC dI cy L tr a κ_1 τ ob tp M (nI i) H.size hT hw (nI_vno hw hi_1)) (tp_cwV 1 hts tw_571 tw_394 tw_395 tw_20 tw_396 rfl rfl (by decide +kernel) ⟨Nat.le_of_ble_eq_true rfl, Nat.le_of_ble_eq_true rfl⟩) ⟨m_blind, va_recv hK (hP.one (e := .inr (8, [.ref (L 0 0), .ref tp])) (Or.inr oW_mem)) (ci := 8) (q0 := 0) rfl rfl, fun U hU hW => ⟨rfl, m_pay hK hP hE (fun _ _ h => h) U hU hW⟩⟩ rfl rfl hl.1 rfl (lv_room (Nat.le_of_ble_eq_true rfl)) dX8_digestVehicles_36 ⟨(Nat.le_of_ble_eq_true rfl), (Nat.le_of_ble_eq_true rfl)⟩) hS (fun q _ h => hFc q h) hFc (fun r_4 u t H1 locs ht hvm hpo hB hz1 hk1 hS => ?_)
    obtain rfl := hpo
    obtain ⟨f_4, hP1⟩ := hB
    subst f_4
    rw [ht] at hP1
    have hP : mw (dC, dI) vwCl A (fun q e => TW cy L tr a κ_1 τ q e ∨ oW ob (L 0 0) tp q e) H1 := hP.join (fun _ _ h => h) hk1 hFc hP1 (fun _ _ h => Or.inl h)
    generalize H1 = H at hP hS ⊢
    clear hP1 hk1 hFc
    refine lv_i2l (v := (a 15 (nI i).toNatClampNeg 5).toInt64) hx hb dX8_digestVehicles_39 rfl ?_
    refine lv_ladd hx hb dX8_digestVehicles_40 ?_
    refine lv_lstore_n (lv' := [(3, .long (((((itL (D_v a) i (d0)) * 31) + ((a 15 (nI i).toNatClampNeg 3).toInt64)) * 31) + ((a 15 (nI i).toNatClampNeg 5).toInt64))), (5, .int (nI i)), (0, .ref ob), (1, .long d0)]) hx hb dX8_digestVehicles_41 rfl hl (by decide) rfl (fun ls hl => ?_)
    refine lv_lload_n hx hb dX8_digestVehicles_42 rfl (lv_at hl 0 rfl) ?_
    refine lv_ldc2 (v := 31) hx hb hown (hts _ tw_502) dX8_digestVehicles_43 ?_
    refine lv_lmul hx hb dX8_digestVehicles_46 ?_
    refine lv_aload_n hx hb dX8_digestVehicles_47 rfl (lv_at hl 2 rfl) ?_
    refine lv_iload hx hb dX8_digestVehicles_48 (lv_at hl 1 rfl) ?_
    have hFc := m_free (C := (fun q e => TW cy L tr a κ_1 τ q e ∨ oW ob (L 0 0) tp q e)) hP hS hA (fun _ _ h => h)
    refine va_calli (va_runV (As := [.int (nI i)]) (rest := [.long ((((((itL (D_v a) i (d0)) * 31) + ((a 15 (nI i).toNatClampNeg 3).toInt64)) * 31) + ((a 15 (nI i).toNatClampNeg 5).toInt64)) * 31)]) ⟨hx, hb, hml, hown, hts⟩ (c_endOf l dC dI cy L tr a κ_1 τ ob tp M (nI i) H.size hT hw (nI_vno hw hi_1)) (tp_cwV 1 hts tw_572 tw_398 tw_399 tw_20 tw_400 rfl rfl (by decide +kernel) ⟨Nat.le_of_ble_eq_true rfl, Nat.le_of_ble_eq_true rfl⟩) ⟨m_blind, va_recv hK (hP.one (e := .inr (8, [.ref (L 0 0), .ref tp])) (Or.inr oW_mem)) (ci := 8) (q0 := 0) rfl rfl, fun U hU hW => ⟨rfl, m_pay hK hP hE (fun _ _ h => h) U hU hW⟩⟩ rfl rfl hl.1 rfl (lv_room (Nat.le_of_ble_eq_true rfl)) dX8_digestVehicles_50 ⟨(Nat.le_of_ble_eq_true rfl), (Nat.le_of_ble_eq_true rfl)⟩) hS (fun q _ h => hFc q h) hFc (fun r_5 u t H1 locs ht hvm hpo hB hz1 hk1 hS => ?_)
    obtain rfl := hpo
    obtain ⟨f_5, hP1⟩ := hB
    subst f_5
    rw [ht] at hP1
    have hP : mw (dC, dI) vwCl A (fun q e => TW cy L tr a κ_1 τ q e ∨ oW ob (L 0 0) tp q e) H1 := hP.join (fun _ _ h => h) hk1 hFc hP1 (fun _ _ h => Or.inl h)
    generalize H1 = H at hP hS ⊢
    clear hP1 hk1 hFc
    refine lv_i2l (v := (a 15 (nI i).toNatClampNeg 6).toInt64) hx hb dX8_digestVehicles_53 rfl ?_
    refine lv_ladd hx hb dX8_digestVehicles_54 ?_
    refine lv_lstore_n (lv' := [(3, .long (((((((itL (D_v a) i (d0)) * 31) + ((a 15 (nI i).toNatClampNeg 3).toInt64)) * 31) + ((a 15 (nI i).toNatClampNeg 5).toInt64)) * 31) + ((a 15 (nI i).toNatClampNeg 6).toInt64))), (5, .int (nI i)), (0, .ref ob), (1, .long d0)]) hx hb dX8_digestVehicles_55 rfl hl (by decide) rfl (fun ls hl => ?_)
    refine lv_lload_n hx hb dX8_digestVehicles_56 rfl (lv_at hl 0 rfl) ?_
    refine lv_ldc2 (v := 31) hx hb hown (hts _ tw_502) dX8_digestVehicles_57 ?_
    refine lv_lmul hx hb dX8_digestVehicles_60 ?_
    refine lv_aload_n hx hb dX8_digestVehicles_61 rfl (lv_at hl 2 rfl) ?_
    refine lv_iload hx hb dX8_digestVehicles_62 (lv_at hl 1 rfl) ?_
    have hFc := m_free (C := (fun q e => TW cy L tr a κ_1 τ q e ∨ oW ob (L 0 0) tp q e)) hP hS hA (fun _ _ h => h)
    refine va_calli (va_runV (As := [.int (nI i)]) (rest := [.long ((((((((itL (D_v a) i (d0)) * 31) + ((a 15 (nI i).toNatClampNeg 3).toInt64)) * 31) + ((a 15 (nI i).toNatClampNeg 5).toInt64)) * 31) + ((a 15 (nI i).toNatClampNeg 6).toInt64)) * 31)]) ⟨hx, hb, hml, hown, hts⟩ (c_linksOf l dC dI cy L tr a κ_1 τ ob tp M (nI i) H.size hT hw (nI_vno hw hi_1)) (tp_cwV 1 hts tw_573 tw_402 tw_403 tw_20 tw_404 rfl rfl (by decide +kernel) ⟨Nat.le_of_ble_eq_true rfl, Nat.le_of_ble_eq_true rfl⟩) ⟨m_blind, va_recv hK (hP.one (e := .inr (8, [.ref (L 0 0), .ref tp])) (Or.inr oW_mem)) (ci := 8) (q0 := 0) rfl rfl, fun U hU hW => ⟨rfl, m_pay hK hP hE (fun _ _ h => h) U hU hW⟩⟩ rfl rfl hl.1 rfl (lv_room (Nat.le_of_ble_eq_true rfl)) dX8_digestVehicles_64 ⟨(Nat.le_of_ble_eq_true rfl), (Nat.le_of_ble_eq_true rfl)⟩) hS (fun q _ h => hFc q h) hFc (fun r_6 u t H1 locs ht hvm hpo hB hz1 hk1 hS => ?_)
    obtain rfl := hpo
    obtain ⟨f_6, hP1⟩ := hB
    subst f_6
    rw [ht] at hP1
    have hP : mw (dC, dI) vwCl A (fun q e => TW cy L tr a κ_1 τ q e ∨ oW ob (L 0 0) tp q e) H1 := hP.join (fun _ _ h => h) hk1 hFc hP1 (fun _ _ h => Or.inl h)
    generalize H1 = H at hP hS ⊢
    clear hP1 hk1 hFc
    refine lv_i2l (v := (a 15 (nI i).toNatClampNeg 7).toInt64) hx hb dX8_digestVehicles_67 rfl ?_
    refine lv_ladd hx hb dX8_digestVehicles_68 ?_
    refine lv_lstore_n (lv' := [(3, .long (((((((((itL (D_v a) i (d0)) * 31) + ((a 15 (nI i).toNatClampNeg 3).toInt64)) * 31) + ((a 15 (nI i).toNatClampNeg 5).toInt64)) * 31) + ((a 15 (nI i).toNatClampNeg 6).toInt64)) * 31) + ((a 15 (nI i).toNatClampNeg 7).toInt64))), (5, .int (nI i)), (0, .ref ob), (1, .long d0)]) hx hb dX8_digestVehicles_69 rfl hl (by decide) rfl (fun ls hl => ?_)
    refine lv_lload_n hx hb dX8_digestVehicles_70 rfl (lv_at hl 0 rfl) ?_
    refine lv_ldc2 (v := 31) hx hb hown (hts _ tw_502) dX8_digestVehicles_71 ?_
    refine lv_lmul hx hb dX8_digestVehicles_74 ?_
    refine lv_aload_n hx hb dX8_digestVehicles_75 rfl (lv_at hl 2 rfl) ?_
    refine lv_iload hx hb dX8_digestVehicles_76 (lv_at hl 1 rfl) ?_
    have hFc := m_free (C := (fun q e => TW cy L tr a κ_1 τ q e ∨ oW ob (L 0 0) tp q e)) hP hS hA (fun _ _ h => h)
    refine va_calli (va_runV (As := [.int (nI i)]) (rest := [.long ((((((((((itL (D_v a) i (d0)) * 31) + ((a 15 (nI i).toNatClampNeg 3).toInt64)) * 31) + ((a 15 (nI i).toNatClampNeg 5).toInt64)) * 31) + ((a 15 (nI i).toNatClampNeg 6).toInt64)) * 31) + ((a 15 (nI i).toNatClampNeg 7).toInt64)) * 31)]) ⟨hx, hb, hml, hown, hts⟩ (c_tripOf l dC dI cy L tr a κ_1 τ ob tp M (nI i) H.size hT hw (nI_vno hw hi_1)) (tp_cwV 1 hts tw_574 tw_415 tw_416 tw_20 tw_417 rfl rfl (by decide +kernel) ⟨Nat.le_of_ble_eq_true rfl, Nat.le_of_ble_eq_true rfl⟩) ⟨m_blind, va_recv hK (hP.one (e := .inr (8, [.ref (L 0 0), .ref tp])) (Or.inr oW_mem)) (ci := 8) (q0 := 0) rfl rfl, fun U hU hW => ⟨rfl, m_pay hK hP hE (fun _ _ h => h) U hU hW⟩⟩ rfl rfl hl.1 rfl (lv_room (Nat.le_of_ble_eq_true rfl)) dX8_digestVehicles_78 ⟨(Nat.le_of_ble_eq_true rfl), (Nat.le_of_ble_eq_true rfl)⟩) hS (fun q _ h => hFc q h) hFc (fun r_7 u t H1 locs ht hvm hpo hB hz1 hk1 hS => ?_)
    obtain rfl := hpo
    obtain ⟨f_7, hP1⟩ := hB
    subst f_7
    rw [ht] at hP1
    have hP : mw (dC, dI) vwCl A (fun q e => TW cy L tr a κ_1 τ q e ∨ oW ob (L 0 0) tp q e) H1 := hP.join (fun _ _ h => h) hk1 hFc hP1 (fun _ _ h => Or.inl h)
    generalize H1 = H at hP hS ⊢
    clear hP1 hk1 hFc
    refine lv_i2l (v := (a 15 (nI i).toNatClampNeg 9).toInt64) hx hb dX8_digestVehicles_81 rfl ?_
    refine lv_ladd hx hb dX8_digestVehicles_82 ?_
    refine lv_lstore_n (lv' := [(3, .long (((((((((((itL (D_v a) i (d0)) * 31) + ((a 15 (nI i).toNatClampNeg 3).toInt64)) * 31) + ((a 15 (nI i).toNatClampNeg 5).toInt64)) * 31) + ((a 15 (nI i).toNatClampNeg 6).toInt64)) * 31) + ((a 15 (nI i).toNatClampNeg 7).toInt64)) * 31) + ((a 15 (nI i).toNatClampNeg 9).toInt64))), (5, .int (nI i)), (0, .ref ob), (1, .long d0)]) hx hb dX8_digestVehicles_83 rfl hl (by decide) rfl (fun ls hl => ?_)
    refine lv_lload_n hx hb dX8_digestVehicles_84 rfl (lv_at hl 0 rfl) ?_
    refine lv_ldc2 (v := 31) hx hb hown (hts _ tw_502) dX8_digestVehicles_85 ?_
    refine lv_lmul hx hb dX8_digestVehicles_88 ?_
    refine lv_aload_n hx hb dX8_digestVehicles_89 rfl (lv_at hl 2 rfl) ?_
    refine lv_iload hx hb dX8_digestVehicles_90 (lv_at hl 1 rfl) ?_
    have hFc := m_free (C := (fun q e => TW cy L tr a κ_1 τ q e ∨ oW ob (L 0 0) tp q e)) hP hS hA (fun _ _ h => h)
    refine va_calli (va_runV (As := [.int (nI i)]) (rest := [.long ((((((((((((itL (D_v a) i (d0)) * 31) + ((a 15 (nI i).toNatClampNeg 3).toInt64)) * 31) + ((a 15 (nI i).toNatClampNeg 5).toInt64)) * 31) + ((a 15 (nI i).toNatClampNeg 6).toInt64)) * 31) + ((a 15 (nI i).toNatClampNeg 7).toInt64)) * 31) + ((a 15 (nI i).toNatClampNeg 9).toInt64)) * 31)]) ⟨hx, hb, hml, hown, hts⟩ (c_delayOf l dC dI cy L tr a κ_1 τ ob tp M (nI i) H.size hT hw (nI_vno hw hi_1)) (tp_cwV 1 hts tw_575 tw_419 tw_420 tw_20 tw_421 rfl rfl (by decide +kernel) ⟨Nat.le_of_ble_eq_true rfl, Nat.le_of_ble_eq_true rfl⟩) ⟨m_blind, va_recv hK (hP.one (e := .inr (8, [.ref (L 0 0), .ref tp])) (Or.inr oW_mem)) (ci := 8) (q0 := 0) rfl rfl, fun U hU hW => ⟨rfl, m_pay hK hP hE (fun _ _ h => h) U hU hW⟩⟩ rfl rfl hl.1 rfl (lv_room (Nat.le_of_ble_eq_true rfl)) dX8_digestVehicles_92 ⟨(Nat.le_of_ble_eq_true rfl), (Nat.le_of_ble_eq_true rfl)⟩) hS (fun q _ h => hFc q h) hFc (fun r_8 u t H1 locs ht hvm hpo hB hz1 hk1 hS => ?_)
    obtain rfl := hpo
    obtain ⟨f_8, hP1⟩ := hB
    subst f_8
    rw [ht] at hP1
    have hP : mw (dC, dI) vwCl A (fun q e => TW cy L tr a κ_1 τ q e ∨ oW ob (L 0 0) tp q e) H1 := hP.join (fun _ _ h => h) hk1 hFc hP1 (fun _ _ h => Or.inl h)
    generalize H1 = H at hP hS ⊢
    clear hP1 hk1 hFc
    refine lv_i2l (v := (a 15 (nI i).toNatClampNeg 10).toInt64) hx hb dX8_digestVehicles_95 rfl ?_
    refine lv_ladd hx hb dX8_digestVehicles_96 ?_
    refine lv_lstore_n (lv' := [(3, .long (((((((((((((itL (D_v a) i (d0)) * 31) + ((a 15 (nI i).toNatClampNeg 3).toInt64)) * 31) + ((a 15 (nI i).toNatClampNeg 5).toInt64)) * 31) + ((a 15 (nI i).toNatClampNeg 6).toInt64)) * 31) + ((a 15 (nI i).toNatClampNeg 7).toInt64)) * 31) + ((a 15 (nI i).toNatClampNeg 9).toInt64)) * 31) + ((a 15 (nI i).toNatClampNeg 10).toInt64))), (5, .int (nI i)), (0, .ref ob), (1, .long d0)]) hx hb dX8_digestVehicles_97 rfl hl (by decide) rfl (fun ls hl => ?_)
    refine lv_iinc (v := nI (i + 1)) (lv' := [(5, .int (nI (i + 1))), (3, .long (((((((((((((itL (D_v a) i (d0)) * 31) + ((a 15 (nI i).toNatClampNeg 3).toInt64)) * 31) + ((a 15 (nI i).toNatClampNeg 5).toInt64)) * 31) + ((a 15 (nI i).toNatClampNeg 6).toInt64)) * 31) + ((a 15 (nI i).toNatClampNeg 7).toInt64)) * 31) + ((a 15 (nI i).toNatClampNeg 9).toInt64)) * 31) + ((a 15 (nI i).toNatClampNeg 10).toInt64))), (0, .ref ob), (1, .long d0)]) hx hb dX8_digestVehicles_98 hl (k := 1) rfl (nI_1 i) (by decide) rfl (fun ls hl => ?_)
    refine lv_goto (tgt := 5) hx hb dX8_digestVehicles_101 (by decide) ?_
    exact ih_1 κ_1 _ _ ls ⟨hc_1, hP, hS, lv_sub hl [0, 1, 2, 3] rfl⟩

theorem tw_507 : Cond.code yX8_nodes cX8_nodes 1 (some .int) ∈ tp_all := tp_mem 507 (by decide +kernel) rfl
theorem tw_504 : Cond.methodLink RX8 265 yX8_nodes ∈ tp_all := tp_mem 504 (by decide +kernel) rfl
theorem tw_505 : Cond.instanceMethod yX8_nodes ∈ tp_all := tp_mem 505 (by decide +kernel) rfl
theorem tw_506 : Cond.selects RX8 yX8_nodes yX8_nodes ∈ tp_all := tp_mem 506 (by decide +kernel) rfl
theorem tw_502 : Cond.constantLong RX8 260 (31) ∈ tp_all := tp_mem 502 (by decide +kernel) rfl
theorem tw_524 : Cond.code yX8_phaseOf cX8_phaseOf 2 (some .int) ∈ tp_all := tp_mem 524 (by decide +kernel) rfl
theorem tw_521 : Cond.methodLink RX8 286 yX8_phaseOf ∈ tp_all := tp_mem 521 (by decide +kernel) rfl
theorem tw_522 : Cond.instanceMethod yX8_phaseOf ∈ tp_all := tp_mem 522 (by decide +kernel) rfl
theorem tw_523 : Cond.selects RX8 yX8_phaseOf yX8_phaseOf ∈ tp_all := tp_mem 523 (by decide +kernel) rfl
theorem tw_528 : Cond.code yX8_phaseTicks cX8_phaseTicks 2 (some .int) ∈ tp_all := tp_mem 528 (by decide +kernel) rfl
theorem tw_525 : Cond.methodLink RX8 289 yX8_phaseTicks ∈ tp_all := tp_mem 525 (by decide +kernel) rfl
theorem tw_526 : Cond.instanceMethod yX8_phaseTicks ∈ tp_all := tp_mem 526 (by decide +kernel) rfl
theorem tw_527 : Cond.selects RX8 yX8_phaseTicks yX8_phaseTicks ∈ tp_all := tp_mem 527 (by decide +kernel) rfl
theorem tw_425 : Cond.code yX8_waiting cX8_waiting 2 (some .int) ∈ tp_all := tp_mem 425 (by decide +kernel) rfl
theorem tw_529 : Cond.methodLink RX8 292 yX8_waiting ∈ tp_all := tp_mem 529 (by decide +kernel) rfl
theorem tw_423 : Cond.instanceMethod yX8_waiting ∈ tp_all := tp_mem 423 (by decide +kernel) rfl
theorem tw_424 : Cond.selects RX8 yX8_waiting yX8_waiting ∈ tp_all := tp_mem 424 (by decide +kernel) rfl
theorem tw_533 : Cond.code yX8_distance cX8_distance 3 (some .int) ∈ tp_all := tp_mem 533 (by decide +kernel) rfl
theorem tw_530 : Cond.methodLink RX8 295 yX8_distance ∈ tp_all := tp_mem 530 (by decide +kernel) rfl
theorem tw_531 : Cond.instanceMethod yX8_distance ∈ tp_all := tp_mem 531 (by decide +kernel) rfl
theorem tw_532 : Cond.selects RX8 yX8_distance yX8_distance ∈ tp_all := tp_mem 532 (by decide +kernel) rfl
theorem tw_538 : Cond.code yX8_nextLink cX8_nextLink 3 (some .int) ∈ tp_all := tp_mem 538 (by decide +kernel) rfl
theorem tw_535 : Cond.methodLink RX8 298 yX8_nextLink ∈ tp_all := tp_mem 535 (by decide +kernel) rfl
theorem tw_536 : Cond.instanceMethod yX8_nextLink ∈ tp_all := tp_mem 536 (by decide +kernel) rfl
theorem tw_537 : Cond.selects RX8 yX8_nextLink yX8_nextLink ∈ tp_all := tp_mem 537 (by decide +kernel) rfl
theorem dX8_digestNodes_0 : decode cX8_digestNodes 0 = .ok (.lload_n 1, 1) := by decide +kernel
theorem dX8_digestNodes_1 : decode cX8_digestNodes 1 = .ok (.lstore_n 3, 1) := by decide +kernel
theorem dX8_digestNodes_2 : decode cX8_digestNodes 2 = .ok (.iconst 0, 1) := by decide +kernel
theorem dX8_digestNodes_3 : decode cX8_digestNodes 3 = .ok (.istore 5, 2) := by decide +kernel
theorem dX8_digestNodes_5 : decode cX8_digestNodes 5 = .ok (.iload 5, 2) := by decide +kernel
theorem dX8_digestNodes_7 : decode cX8_digestNodes 7 = .ok (.aload_n 0, 1) := by decide +kernel
theorem dX8_digestNodes_8 : decode cX8_digestNodes 8 = .ok (.invokevirtual 265, 3) := by decide +kernel
theorem dX8_digestNodes_11 : decode cX8_digestNodes 11 = .ok (.if_icmp .ge 101, 3) := by decide +kernel
theorem dX8_digestNodes_112 : decode cX8_digestNodes 112 = .ok (.lload_n 3, 1) := by decide +kernel
theorem dX8_digestNodes_113 : decode cX8_digestNodes 113 = .ok (.lreturn, 1) := by decide +kernel
theorem dX8_digestNodes_14 : decode cX8_digestNodes 14 = .ok (.lload_n 3, 1) := by decide +kernel
theorem dX8_digestNodes_15 : decode cX8_digestNodes 15 = .ok (.ldc2_w 260, 3) := by decide +kernel
theorem dX8_digestNodes_18 : decode cX8_digestNodes 18 = .ok (.lmul, 1) := by decide +kernel
theorem dX8_digestNodes_19 : decode cX8_digestNodes 19 = .ok (.aload_n 0, 1) := by decide +kernel
theorem dX8_digestNodes_20 : decode cX8_digestNodes 20 = .ok (.iload 5, 2) := by decide +kernel
theorem dX8_digestNodes_22 : decode cX8_digestNodes 22 = .ok (.invokevirtual 286, 3) := by decide +kernel
theorem dX8_digestNodes_25 : decode cX8_digestNodes 25 = .ok (.i2l, 1) := by decide +kernel
theorem dX8_digestNodes_26 : decode cX8_digestNodes 26 = .ok (.ladd, 1) := by decide +kernel
theorem dX8_digestNodes_27 : decode cX8_digestNodes 27 = .ok (.lstore_n 3, 1) := by decide +kernel
theorem dX8_digestNodes_28 : decode cX8_digestNodes 28 = .ok (.lload_n 3, 1) := by decide +kernel
theorem dX8_digestNodes_29 : decode cX8_digestNodes 29 = .ok (.ldc2_w 260, 3) := by decide +kernel
theorem dX8_digestNodes_32 : decode cX8_digestNodes 32 = .ok (.lmul, 1) := by decide +kernel
theorem dX8_digestNodes_33 : decode cX8_digestNodes 33 = .ok (.aload_n 0, 1) := by decide +kernel
theorem dX8_digestNodes_34 : decode cX8_digestNodes 34 = .ok (.iload 5, 2) := by decide +kernel
theorem dX8_digestNodes_36 : decode cX8_digestNodes 36 = .ok (.invokevirtual 289, 3) := by decide +kernel
theorem dX8_digestNodes_39 : decode cX8_digestNodes 39 = .ok (.i2l, 1) := by decide +kernel
theorem dX8_digestNodes_40 : decode cX8_digestNodes 40 = .ok (.ladd, 1) := by decide +kernel
theorem dX8_digestNodes_41 : decode cX8_digestNodes 41 = .ok (.lstore_n 3, 1) := by decide +kernel
theorem dX8_digestNodes_42 : decode cX8_digestNodes 42 = .ok (.lload_n 3, 1) := by decide +kernel
theorem dX8_digestNodes_43 : decode cX8_digestNodes 43 = .ok (.ldc2_w 260, 3) := by decide +kernel
theorem dX8_digestNodes_46 : decode cX8_digestNodes 46 = .ok (.lmul, 1) := by decide +kernel
theorem dX8_digestNodes_47 : decode cX8_digestNodes 47 = .ok (.aload_n 0, 1) := by decide +kernel
theorem dX8_digestNodes_48 : decode cX8_digestNodes 48 = .ok (.iload 5, 2) := by decide +kernel
theorem dX8_digestNodes_50 : decode cX8_digestNodes 50 = .ok (.invokevirtual 292, 3) := by decide +kernel
theorem dX8_digestNodes_53 : decode cX8_digestNodes 53 = .ok (.i2l, 1) := by decide +kernel
theorem dX8_digestNodes_54 : decode cX8_digestNodes 54 = .ok (.ladd, 1) := by decide +kernel
theorem dX8_digestNodes_55 : decode cX8_digestNodes 55 = .ok (.lstore_n 3, 1) := by decide +kernel
theorem dX8_digestNodes_56 : decode cX8_digestNodes 56 = .ok (.iconst 0, 1) := by decide +kernel
theorem dX8_digestNodes_57 : decode cX8_digestNodes 57 = .ok (.istore 6, 2) := by decide +kernel
theorem dX8_digestNodes_59 : decode cX8_digestNodes 59 = .ok (.iload 6, 2) := by decide +kernel
theorem dX8_digestNodes_61 : decode cX8_digestNodes 61 = .ok (.aload_n 0, 1) := by decide +kernel
theorem dX8_digestNodes_62 : decode cX8_digestNodes 62 = .ok (.invokevirtual 265, 3) := by decide +kernel
theorem dX8_digestNodes_65 : decode cX8_digestNodes 65 = .ok (.if_icmp .ge 41, 3) := by decide +kernel
theorem dX8_digestNodes_106 : decode cX8_digestNodes 106 = .ok (.iinc 5 1, 3) := by decide +kernel
theorem dX8_digestNodes_109 : decode cX8_digestNodes 109 = .ok (.goto (-104), 3) := by decide +kernel
theorem dX8_digestNodes_68 : decode cX8_digestNodes 68 = .ok (.lload_n 3, 1) := by decide +kernel
theorem dX8_digestNodes_69 : decode cX8_digestNodes 69 = .ok (.ldc2_w 260, 3) := by decide +kernel
theorem dX8_digestNodes_72 : decode cX8_digestNodes 72 = .ok (.lmul, 1) := by decide +kernel
theorem dX8_digestNodes_73 : decode cX8_digestNodes 73 = .ok (.aload_n 0, 1) := by decide +kernel
theorem dX8_digestNodes_74 : decode cX8_digestNodes 74 = .ok (.iload 5, 2) := by decide +kernel
theorem dX8_digestNodes_76 : decode cX8_digestNodes 76 = .ok (.iload 6, 2) := by decide +kernel
theorem dX8_digestNodes_78 : decode cX8_digestNodes 78 = .ok (.invokevirtual 295, 3) := by decide +kernel
theorem dX8_digestNodes_81 : decode cX8_digestNodes 81 = .ok (.i2l, 1) := by decide +kernel
theorem dX8_digestNodes_82 : decode cX8_digestNodes 82 = .ok (.ladd, 1) := by decide +kernel
theorem dX8_digestNodes_83 : decode cX8_digestNodes 83 = .ok (.lstore_n 3, 1) := by decide +kernel
theorem dX8_digestNodes_84 : decode cX8_digestNodes 84 = .ok (.lload_n 3, 1) := by decide +kernel
theorem dX8_digestNodes_85 : decode cX8_digestNodes 85 = .ok (.ldc2_w 260, 3) := by decide +kernel
theorem dX8_digestNodes_88 : decode cX8_digestNodes 88 = .ok (.lmul, 1) := by decide +kernel
theorem dX8_digestNodes_89 : decode cX8_digestNodes 89 = .ok (.aload_n 0, 1) := by decide +kernel
theorem dX8_digestNodes_90 : decode cX8_digestNodes 90 = .ok (.iload 5, 2) := by decide +kernel
theorem dX8_digestNodes_92 : decode cX8_digestNodes 92 = .ok (.iload 6, 2) := by decide +kernel
theorem dX8_digestNodes_94 : decode cX8_digestNodes 94 = .ok (.invokevirtual 298, 3) := by decide +kernel
theorem dX8_digestNodes_97 : decode cX8_digestNodes 97 = .ok (.i2l, 1) := by decide +kernel
theorem dX8_digestNodes_98 : decode cX8_digestNodes 98 = .ok (.ladd, 1) := by decide +kernel
theorem dX8_digestNodes_99 : decode cX8_digestNodes 99 = .ok (.lstore_n 3, 1) := by decide +kernel
theorem dX8_digestNodes_100 : decode cX8_digestNodes 100 = .ok (.iinc 6 1, 3) := by decide +kernel
theorem dX8_digestNodes_103 : decode cX8_digestNodes 103 = .ok (.goto (-44), 3) := by decide +kernel
set_option maxRecDepth 100000 in
set_option maxHeartbeats 4000000 in
/-- digestNodes -/
theorem c_digestNodes (l : Launch) (dC : Nat → ClassId) (dI : Nat → Nat → Nat) (cy : Nat → ClassId) (L : Lay) (tr : Option Nat) (a : St) (κ : Kap) (τ : Tau) (ob : Nat) (tp : Nat) (M : Nat) (d0 : Int64) (sz : Nat) (hT : TL L tr τ) (hw : Wf M a) (hsh : ∀ i, i < 24 → a 2 i 7 = 0 ∨ a 2 i 7 = 1) (hκ : CV a κ) : Met l yX8_digestNodes (tp_w yX8_digestNodes cX8_digestNodes 7 (some .long)) ({ frames := 4, cells := 0, slots := 0, locals := 99 }) (va_Pc [.ref ob, .long d0] (mPre dC dI cy (fun q e => TW cy L tr a κ τ q e ∨ oW ob (L 0 0) tp q e) sz)) (va_Ql (fun (r u : Int64) => r = u) (fun (u : Int64) (t : State) => ∃ (κ2 : Kap), (u = D_nodes a d0) ∧ (CV a κ2) ∧ mw (dC, dI) vwCl (mA (fun q e => TW cy L tr a κ τ q e ∨ oW ob (L 0 0) tp q e) sz) (fun q e => TW cy L tr a κ2 τ q e ∨ oW ob (L 0 0) tp q e) t.heap) (mA (fun q e => TW cy L tr a κ τ q e ∨ oW ob (L 0 0) tp q e) sz)) (0) (0) (mA (fun q e => TW cy L tr a κ τ q e ∨ oW ob (L 0 0) tp q e) sz) := by
  refine Met.ofW (cc := cX8_digestNodes) (maxL := 7) (ret := (some .long)) (by decide) rfl ?_
  intro p e s m args below meth c s₁ B hml hv
  obtain ⟨rfl, hsz, hP, hK, hE⟩ := hv
  have hx := B.exec
  have hb := B.bytes
  have hr := B.returns
  have hts0 := atoms_spec (ws := tp_w yX8_digestNodes cX8_digestNodes 7 (some .long)) B.pre
  have hts : ∀ w ∈ tp_all, w.before _ s = true := fun w h => hts0 w (List.mem_cons_of_mem _ h)
  have hown : s.vm.findClass RX8 = some m.cls := findClass_of_methodNamed B.named
  have hlocks := B.notSynchronized
  subst hsz
  have hP := hP.self s.heap.size
  generalize hAe : mA (fun q e => TW cy L tr a κ τ q e ∨ oW ob (L 0 0) tp q e) s.heap.size = A at hP ⊢
  have hA : ∀ q : Nat, s.heap.size ≤ q → A q := fun q h => by rw [← hAe]; exact Or.inr h
  have hS : va_S A s.heap s.heap [] := va_S.rf
  have hl9 := lv_entry ([.ref ob, .long d0]) (n := 7) (Nat.le_of_ble_eq_true rfl)
  rw [lg_entry_eq]
  generalize (lg_sl ([.ref ob, .long d0]) ++ List.replicate (7 - (lg_sl ([.ref ob, .long d0])).length) Slot.unset).toArray = ls at hl9 ⊢
  have hl : lv_has ls 7 [(0, .ref ob), (1, .long d0)] := hl9
  refine lv_lload_n hx hb dX8_digestNodes_0 rfl (lv_at hl 1 rfl) ?_
  refine lv_lstore_n (lv' := [(3, .long d0), (0, .ref ob), (1, .long d0)]) hx hb dX8_digestNodes_1 rfl hl (by decide) rfl (fun ls hl => ?_)
  refine lv_iconst (v := 0) hx hb dX8_digestNodes_2 (by decide) ?_
  refine lv_istore (lv' := [(5, .int 0), (3, .long d0), (0, .ref ob), (1, .long d0)]) hx hb dX8_digestNodes_3 hl (by decide) rfl (fun ls hl => ?_)
  have hN_1 : nN a ≤ 12 := in_le hw.1.2.1
  refine W.widen (k := (fun _ => 0) 0) (n := (fun _ => 0) 0) (Nat.le_refl _) (Nat.le_refl _) ?_
  refine tp_for (σ := Kap) (nN a) (fun _ => 0) (fun _ => 0) (fun (i : Nat) (y : Kap) (H : Heap) (locs : List Loc) (ls : Array Slot) => CV a y ∧ mw (dC, dI) vwCl A (fun q e => TW cy L tr a y τ q e ∨ oW ob (L 0 0) tp q e) H ∧ va_S A s.heap H locs ∧ lv_has ls 7 [(5, .int (nI i)), (3, .long (itL (D_n a) i (d0))), (0, .ref ob), (1, .long d0)]) ?_ ?_ (nN a) 0 (Nat.zero_add _) κ _ _ ls ⟨hκ, hP, hS, lv_sub hl [0, 1, 2, 3] rfl⟩
  · rintro κ_1 H locs ls ⟨hc_1, hP, hS, hl⟩
    have hl : lv_has ls 7 [(5, .int (nI (nN a))), (3, .long (itL (D_n a) (nN a) (d0))), (0, .ref ob), (1, .long d0)] := hl
    have hP : mw (dC, dI) vwCl A (fun q e => TW cy L tr a κ_1 τ q e ∨ oW ob (L 0 0) tp q e) H := hP
    show W _ _ _ _ _ _ _ _ _ _ _ _ (0) (0) _ _
    refine lv_iload hx hb dX8_digestNodes_5 (lv_at hl 0 rfl) ?_
    refine lv_aload_n hx hb dX8_digestNodes_7 rfl (lv_at hl 2 rfl) ?_
    have hFc := m_free (C := (fun q e => TW cy L tr a κ_1 τ q e ∨ oW ob (L 0 0) tp q e)) hP hS hA (fun _ _ h => h)
    refine va_calli (va_runV (As := []) (rest := [.int (nI (nN a))]) ⟨hx, hb, hml, hown, hts⟩ (c_nodes l dC dI cy L tr a κ_1 τ ob tp H.size hT) (tp_cwV 0 hts tw_504 tw_505 tw_506 tw_20 tw_507 rfl rfl (by decide +kernel) ⟨Nat.le_of_ble_eq_true rfl, Nat.le_of_ble_eq_true rfl⟩) ⟨m_blind, va_recv hK (hP.one (e := .inr (8, [.ref (L 0 0), .ref tp])) (Or.inr oW_mem)) (ci := 8) (q0 := 0) rfl rfl, fun U hU hW => ⟨rfl, m_pay hK hP hE (fun _ _ h => h) U hU hW⟩⟩ rfl rfl hl.1 rfl (lv_room (Nat.le_of_ble_eq_true rfl)) dX8_digestNodes_8 ⟨(Nat.le_of_ble_eq_true rfl), (Nat.le_of_ble_eq_true rfl)⟩) hS (fun q _ h => hFc q h) hFc (fun r_1 u t H1 locs ht hvm hpo hB hz1 hk1 hS => ?_)
    obtain rfl := hpo
    obtain ⟨f_1, hP1⟩ := hB
    subst f_1
    rw [ht] at hP1
    have hP : mw (dC, dI) vwCl A (fun q e => TW cy L tr a κ_1 τ q e ∨ oW ob (L 0 0) tp q e) H1 := hP.join (fun _ _ h => h) hk1 hFc hP1 (fun _ _ h => Or.inl h)
    generalize H1 = H at hP hS ⊢
    clear hP1 hk1 hFc
    refine W.eq (g2 := F0 m 11 ls [.int (nI (nN a)), .int (nI (nN a))]) (by rw [in_nI hw.1.2.1]) ?_
    refine lv_icmp_ge (tgt := 112) hx hb dX8_digestNodes_11 (by decide) (fun _ => ?_) (fun c_1 => absurd (Int32.le_refl _) c_1)
    refine lv_lload_n hx hb dX8_digestNodes_112 rfl (lv_at hl 1 rfl) ?_
    refine W.widen (k := 0) (n := 0) (Nat.le_of_ble_eq_true rfl) (Nat.le_of_ble_eq_true rfl) ?_
    have g_1 : (itL (D_n a) (nN a) (d0)) = D_nodes a d0 := by
      rfl
    have g_2 : CV a κ_1 := by
      exact hc_1
    exact W.lret (v := itL (D_n a) (nN a) (d0)) hx hb hr (fun t ht hW => ⟨⟨(itL (D_n a) (nN a) (d0)), (itL (D_n a) (nN a) (d0)), rfl, rfl, ⟨κ_1, g_1, g_2, by show mw _ _ _ _ t.heap; rw [ht]; exact hP⟩⟩, hS.F ht⟩) hS.2.2 dX8_digestNodes_113
  · rintro i κ_1 H locs ls hi_1 ⟨hc_1, hP, hS, hl⟩ ih_1
    have hl : lv_has ls 7 [(5, .int (nI i)), (3, .long (itL (D_n a) i (d0))), (0, .ref ob), (1, .long d0)] := hl
    have hP : mw (dC, dI) vwCl A (fun q e => TW cy L tr a κ_1 τ q e ∨ oW ob (L 0 0) tp q e) H := hP
    show W _ _ _ _ _ _ _ _ _ _ _ _ (0) (0) _ _
    refine lv_iload hx hb dX8_digestNodes_5 (lv_at hl 0 rfl) ?_
    refine lv_aload_n hx hb dX8_digestNodes_7 rfl (lv_at hl 2 rfl) ?_
    have hFc := m_free (C := (fun q e => TW cy L tr a κ_1 τ q e ∨ oW ob (L 0 0) tp q e)) hP hS hA (fun _ _ h => h)
    refine va_calli (va_runV (As := []) (rest := [.int (nI i)]) ⟨hx, hb, hml, hown, hts⟩ (c_nodes l dC dI cy L tr a κ_1 τ ob tp H.size hT) (tp_cwV 0 hts tw_504 tw_505 tw_506 tw_20 tw_507 rfl rfl (by decide +kernel) ⟨Nat.le_of_ble_eq_true rfl, Nat.le_of_ble_eq_true rfl⟩) ⟨m_blind, va_recv hK (hP.one (e := .inr (8, [.ref (L 0 0), .ref tp])) (Or.inr oW_mem)) (ci := 8) (q0 := 0) rfl rfl, fun U hU hW => ⟨rfl, m_pay hK hP hE (fun _ _ h => h) U hU hW⟩⟩ rfl rfl hl.1 rfl (lv_room (Nat.le_of_ble_eq_true rfl)) dX8_digestNodes_8 ⟨(Nat.le_of_ble_eq_true rfl), (Nat.le_of_ble_eq_true rfl)⟩) hS (fun q _ h => hFc q h) hFc (fun r_2 u t H1 locs ht hvm hpo hB hz1 hk1 hS => ?_)
    obtain rfl := hpo
    obtain ⟨f_2, hP1⟩ := hB
    subst f_2
    rw [ht] at hP1
    have hP : mw (dC, dI) vwCl A (fun q e => TW cy L tr a κ_1 τ q e ∨ oW ob (L 0 0) tp q e) H1 := hP.join (fun _ _ h => h) hk1 hFc hP1 (fun _ _ h => Or.inl h)
    generalize H1 = H at hP hS ⊢
    clear hP1 hk1 hFc
    refine W.eq (g2 := F0 m 11 ls [.int (nI (nN a)), .int (nI i)]) (by rw [in_nI hw.1.2.1]) ?_
    refine lv_icmp_ge (tgt := 112) hx hb dX8_digestNodes_11 (by decide) (fun c_2 => absurd c_2 (nI_ge hi_1 (by omega))) (fun _ => ?_)
    refine lv_lload_n hx hb dX8_digestNodes_14 rfl (lv_at hl 1 rfl) ?_
    refine lv_ldc2 (v := 31) hx hb hown (hts _ tw_502) dX8_digestNodes_15 ?_
    refine lv_lmul hx hb dX8_digestNodes_18 ?_
    refine lv_aload_n hx hb dX8_digestNodes_19 rfl (lv_at hl 2 rfl) ?_
    refine lv_iload hx hb dX8_digestNodes_20 (lv_at hl 0 rfl) ?_
    have hFc := m_free (C := (fun q e => TW cy L tr a κ_1 τ q e ∨ oW ob (L 0 0) tp q e)) hP hS hA (fun _ _ h => h)
    refine va_calli (va_runV (As := [.int (nI i)]) (rest := [.long ((itL (D_n a) i (d0)) * 31)]) ⟨hx, hb, hml, hown, hts⟩ (c_phaseOf l dC dI cy L tr a κ_1 τ ob tp M (nI i) H.size hT hw (nI_nno hw hi_1)) (tp_cwV 1 hts tw_521 tw_522 tw_523 tw_20 tw_524 rfl rfl (by decide +kernel) ⟨Nat.le_of_ble_eq_true rfl, Nat.le_of_ble_eq_true rfl⟩) ⟨m_blind, va_recv hK (hP.one (e := .inr (8, [.ref (L 0 0), .ref tp])) (Or.inr oW_mem)) (ci := 8) (q0 := 0) rfl rfl, fun U hU hW => ⟨rfl, m_pay hK hP hE (fun _ _ h => h) U hU hW⟩⟩ rfl rfl hl.1 rfl (lv_room (Nat.le_of_ble_eq_true rfl)) dX8_digestNodes_22 ⟨(Nat.le_of_ble_eq_true rfl), (Nat.le_of_ble_eq_true rfl)⟩) hS (fun q _ h => hFc q h) hFc (fun r_3 u t H1 locs ht hvm hpo hB hz1 hk1 hS => ?_)
    obtain rfl := hpo
    obtain ⟨f_3, hP1⟩ := hB
    subst f_3
    rw [ht] at hP1
    have hP : mw (dC, dI) vwCl A (fun q e => TW cy L tr a κ_1 τ q e ∨ oW ob (L 0 0) tp q e) H1 := hP.join (fun _ _ h => h) hk1 hFc hP1 (fun _ _ h => Or.inl h)
    generalize H1 = H at hP hS ⊢
    clear hP1 hk1 hFc
    refine lv_i2l (v := (a 8 (nI i).toNatClampNeg 1).toInt64) hx hb dX8_digestNodes_25 rfl ?_
    refine lv_ladd hx hb dX8_digestNodes_26 ?_
    refine lv_lstore_n (lv' := [(3, .long (((itL (D_n a) i (d0)) * 31) + ((a 8 (nI i).toNatClampNeg 1).toInt64))), (5, .int (nI i)), (0, .ref ob), (1, .long d0)]) hx hb dX8_digestNodes_27 rfl hl (by decide) rfl (fun ls hl => ?_)
    refine lv_lload_n hx hb dX8_digestNodes_28 rfl (lv_at hl 0 rfl) ?_
    refine lv_ldc2 (v := 31) hx hb hown (hts _ tw_502) dX8_digestNodes_29 ?_
    refine lv_lmul hx hb dX8_digestNodes_32 ?_
    refine lv_aload_n hx hb dX8_digestNodes_33 rfl (lv_at hl 2 rfl) ?_
    refine lv_iload hx hb dX8_digestNodes_34 (lv_at hl 1 rfl) ?_
    have hFc := m_free (C := (fun q e => TW cy L tr a κ_1 τ q e ∨ oW ob (L 0 0) tp q e)) hP hS hA (fun _ _ h => h)
    refine va_calli (va_runV (As := [.int (nI i)]) (rest := [.long ((((itL (D_n a) i (d0)) * 31) + ((a 8 (nI i).toNatClampNeg 1).toInt64)) * 31)]) ⟨hx, hb, hml, hown, hts⟩ (c_phaseTicks l dC dI cy L tr a κ_1 τ ob tp M (nI i) H.size hT hw (nI_nno hw hi_1)) (tp_cwV 1 hts tw_525 tw_526 tw_527 tw_20 tw_528 rfl rfl (by decide +kernel) ⟨Nat.le_of_ble_eq_true rfl, Nat.le_of_ble_eq_true rfl⟩) ⟨m_blind, va_recv hK (hP.one (e := .inr (8, [.ref (L 0 0), .ref tp])) (Or.inr oW_mem)) (ci := 8) (q0 := 0) rfl rfl, fun U hU hW => ⟨rfl, m_pay hK hP hE (fun _ _ h => h) U hU hW⟩⟩ rfl rfl hl.1 rfl (lv_room (Nat.le_of_ble_eq_true rfl)) dX8_digestNodes_36 ⟨(Nat.le_of_ble_eq_true rfl), (Nat.le_of_ble_eq_true rfl)⟩) hS (fun q _ h => hFc q h) hFc (fun r_4 u t H1 locs ht hvm hpo hB hz1 hk1 hS => ?_)
    obtain rfl := hpo
    obtain ⟨f_4, hP1⟩ := hB
    subst f_4
    rw [ht] at hP1
    have hP : mw (dC, dI) vwCl A (fun q e => TW cy L tr a κ_1 τ q e ∨ oW ob (L 0 0) tp q e) H1 := hP.join (fun _ _ h => h) hk1 hFc hP1 (fun _ _ h => Or.inl h)
    generalize H1 = H at hP hS ⊢
    clear hP1 hk1 hFc
    refine lv_i2l (v := (a 8 (nI i).toNatClampNeg 2).toInt64) hx hb dX8_digestNodes_39 rfl ?_
    refine lv_ladd hx hb dX8_digestNodes_40 ?_
    refine lv_lstore_n (lv' := [(3, .long (((((itL (D_n a) i (d0)) * 31) + ((a 8 (nI i).toNatClampNeg 1).toInt64)) * 31) + ((a 8 (nI i).toNatClampNeg 2).toInt64))), (5, .int (nI i)), (0, .ref ob), (1, .long d0)]) hx hb dX8_digestNodes_41 rfl hl (by decide) rfl (fun ls hl => ?_)
    refine lv_lload_n hx hb dX8_digestNodes_42 rfl (lv_at hl 0 rfl) ?_
    refine lv_ldc2 (v := 31) hx hb hown (hts _ tw_502) dX8_digestNodes_43 ?_
    refine lv_lmul hx hb dX8_digestNodes_46 ?_
    refine lv_aload_n hx hb dX8_digestNodes_47 rfl (lv_at hl 2 rfl) ?_
    refine lv_iload hx hb dX8_digestNodes_48 (lv_at hl 1 rfl) ?_
    have hFc := m_free (C := (fun q e => TW cy L tr a κ_1 τ q e ∨ oW ob (L 0 0) tp q e)) hP hS hA (fun _ _ h => h)
    refine va_calli (va_runV (As := [.int (nI i)]) (rest := [.long ((((((itL (D_n a) i (d0)) * 31) + ((a 8 (nI i).toNatClampNeg 1).toInt64)) * 31) + ((a 8 (nI i).toNatClampNeg 2).toInt64)) * 31)]) ⟨hx, hb, hml, hown, hts⟩ (c_waiting l dC dI cy L tr a κ_1 τ ob tp M (nI i) H.size hT hw (nI_nno hw hi_1)) (tp_cwV 1 hts tw_529 tw_423 tw_424 tw_20 tw_425 rfl rfl (by decide +kernel) ⟨Nat.le_of_ble_eq_true rfl, Nat.le_of_ble_eq_true rfl⟩) ⟨m_blind, va_recv hK (hP.one (e := .inr (8, [.ref (L 0 0), .ref tp])) (Or.inr oW_mem)) (ci := 8) (q0 := 0) rfl rfl, fun U hU hW => ⟨rfl, m_pay hK hP hE (fun _ _ h => h) U hU hW⟩⟩ rfl rfl hl.1 rfl (lv_room (Nat.le_of_ble_eq_true rfl)) dX8_digestNodes_50 ⟨(Nat.le_of_ble_eq_true rfl), (Nat.le_of_ble_eq_true rfl)⟩) hS (fun q _ h => hFc q h) hFc (fun r_5 u t H1 locs ht hvm hpo hB hz1 hk1 hS => ?_)
    obtain rfl := hpo
    obtain ⟨f_5, hP1⟩ := hB
    subst f_5
    rw [ht] at hP1
    have hP : mw (dC, dI) vwCl A (fun q e => TW cy L tr a κ_1 τ q e ∨ oW ob (L 0 0) tp q e) H1 := hP.join (fun _ _ h => h) hk1 hFc hP1 (fun _ _ h => Or.inl h)
    generalize H1 = H at hP hS ⊢
    clear hP1 hk1 hFc
    refine lv_i2l (v := (a 12 (nI i).toNatClampNeg 0).toInt64) hx hb dX8_digestNodes_53 rfl ?_
    refine lv_ladd hx hb dX8_digestNodes_54 ?_
    refine lv_lstore_n (lv' := [(3, .long (((((((itL (D_n a) i (d0)) * 31) + ((a 8 (nI i).toNatClampNeg 1).toInt64)) * 31) + ((a 8 (nI i).toNatClampNeg 2).toInt64)) * 31) + ((a 12 (nI i).toNatClampNeg 0).toInt64))), (5, .int (nI i)), (0, .ref ob), (1, .long d0)]) hx hb dX8_digestNodes_55 rfl hl (by decide) rfl (fun ls hl => ?_)
    refine lv_iconst (v := 0) hx hb dX8_digestNodes_56 (by decide) ?_
    refine lv_istore (lv' := [(6, .int 0), (3, .long (((((((itL (D_n a) i (d0)) * 31) + ((a 8 (nI i).toNatClampNeg 1).toInt64)) * 31) + ((a 8 (nI i).toNatClampNeg 2).toInt64)) * 31) + ((a 12 (nI i).toNatClampNeg 0).toInt64))), (5, .int (nI i)), (0, .ref ob), (1, .long d0)]) hx hb dX8_digestNodes_57 hl (by decide) rfl (fun ls hl => ?_)
    have hN_2 : nN a ≤ 12 := in_le hw.1.2.1
    refine W.widen (k := (fun _ => (0 + 0 + 0 + 0 + 0)) 0) (n := (fun _ => (0 + 0 + 0 + 0 + 0)) 0) (Nat.le_refl _) (Nat.le_refl _) ?_
    refine tp_for (σ := Kap) (nN a) (fun _ => (0 + 0 + 0 + 0 + 0)) (fun _ => (0 + 0 + 0 + 0 + 0)) (fun (j : Nat) (y : Kap) (H : Heap) (locs : List Loc) (ls : Array Slot) => CV a y ∧ mw (dC, dI) vwCl A (fun q e => TW cy L tr a y τ q e ∨ oW ob (L 0 0) tp q e) H ∧ va_S A s.heap H locs ∧ lv_has ls 7 [(6, .int (nI j)), (3, .long (itL (D_n2 a i) j (((((((itL (D_n a) i (d0)) * 31) + ((a 8 (nI i).toNatClampNeg 1).toInt64)) * 31) + ((a 8 (nI i).toNatClampNeg 2).toInt64)) * 31) + ((a 12 (nI i).toNatClampNeg 0).toInt64)))), (5, .int (nI i)), (0, .ref ob), (1, .long d0)]) ?_ ?_ (nN a) 0 (Nat.zero_add _) κ_1 _ _ ls ⟨hc_1, hP, hS, lv_sub hl [0, 1, 2, 3, 4] rfl⟩
    · rintro κ_2 H locs ls ⟨hc_2, hP, hS, hl⟩
      have hl : lv_has ls 7 [(6, .int (nI (nN a))), (3, .long (itL (D_n2 a i) (nN a) (((((((itL (D_n a) i (d0)) * 31) + ((a 8 (nI i).toNatClampNeg 1).toInt64)) * 31) + ((a 8 (nI i).toNatClampNeg 2).toInt64)) * 31) + ((a 12 (nI i).toNatClampNeg 0).toInt64)))), (5, .int (nI i)), (0, .ref ob), (1, .long d0)] := hl
      have hP : mw (dC, dI) vwCl A (fun q e => TW cy L tr a κ_2 τ q e ∨ oW ob (L 0 0) tp q e) H := hP
      show W _ _ _ _ _ _ _ _ _ _ _ _ (0 + 0 + 0 + 0 + 0) (0 + 0 + 0 + 0 + 0) _ _
      refine lv_iload hx hb dX8_digestNodes_59 (lv_at hl 0 rfl) ?_
      refine lv_aload_n hx hb dX8_digestNodes_61 rfl (lv_at hl 3 rfl) ?_
      have hFc := m_free (C := (fun q e => TW cy L tr a κ_2 τ q e ∨ oW ob (L 0 0) tp q e)) hP hS hA (fun _ _ h => h)
      refine va_calli (va_runV (As := []) (rest := [.int (nI (nN a))]) ⟨hx, hb, hml, hown, hts⟩ (c_nodes l dC dI cy L tr a κ_2 τ ob tp H.size hT) (tp_cwV 0 hts tw_504 tw_505 tw_506 tw_20 tw_507 rfl rfl (by decide +kernel) ⟨Nat.le_of_ble_eq_true rfl, Nat.le_of_ble_eq_true rfl⟩) ⟨m_blind, va_recv hK (hP.one (e := .inr (8, [.ref (L 0 0), .ref tp])) (Or.inr oW_mem)) (ci := 8) (q0 := 0) rfl rfl, fun U hU hW => ⟨rfl, m_pay hK hP hE (fun _ _ h => h) U hU hW⟩⟩ rfl rfl hl.1 rfl (lv_room (Nat.le_of_ble_eq_true rfl)) dX8_digestNodes_62 ⟨(Nat.le_of_ble_eq_true rfl), (Nat.le_of_ble_eq_true rfl)⟩) hS (fun q _ h => hFc q h) hFc (fun r_6 u t H1 locs ht hvm hpo hB hz1 hk1 hS => ?_)
      obtain rfl := hpo
      obtain ⟨f_6, hP1⟩ := hB
      subst f_6
      rw [ht] at hP1
      have hP : mw (dC, dI) vwCl A (fun q e => TW cy L tr a κ_2 τ q e ∨ oW ob (L 0 0) tp q e) H1 := hP.join (fun _ _ h => h) hk1 hFc hP1 (fun _ _ h => Or.inl h)
      generalize H1 = H at hP hS ⊢
      clear hP1 hk1 hFc
      refine W.eq (g2 := F0 m 65 ls [.int (nI (nN a)), .int (nI (nN a))]) (by rw [in_nI hw.1.2.1]) ?_
      refine lv_icmp_ge (tgt := 106) hx hb dX8_digestNodes_65 (by decide) (fun _ => ?_) (fun c_3 => absurd (Int32.le_refl _) c_3)
      refine lv_iinc (v := nI (i + 1)) (lv' := [(5, .int (nI (i + 1))), (6, .int (nI (nN a))), (3, .long (itL (D_n2 a i) (nN a) (((((((itL (D_n a) i (d0)) * 31) + ((a 8 (nI i).toNatClampNeg 1).toInt64)) * 31) + ((a 8 (nI i).toNatClampNeg 2).toInt64)) * 31) + ((a 12 (nI i).toNatClampNeg 0).toInt64)))), (0, .ref ob), (1, .long d0)]) hx hb dX8_digestNodes_106 hl (k := 2) rfl (nI_1 i) (by decide) rfl (fun ls hl => ?_)
      refine lv_goto (tgt := 5) hx hb dX8_digestNodes_109 (by decide) ?_
      exact ih_1 κ_2 _ _ ls ⟨hc_2, hP, hS, lv_sub hl [0, 2, 3, 4] rfl⟩
    · rintro j κ_2 H locs ls hi_2 ⟨hc_2, hP, hS, hl⟩ ih_2
      have hl : lv_has ls 7 [(6, .int (nI j)), (3, .long (itL (D_n2 a i) j (((((((itL (D_n a) i (d0)) * 31) + ((a 8 (nI i).toNatClampNeg 1).toInt64)) * 31) + ((a 8 (nI i).toNatClampNeg 2).toInt64)) * 31) + ((a 12 (nI i).toNatClampNeg 0).toInt64)))), (5, .int (nI i)), (0, .ref ob), (1, .long d0)] := hl
      have hP : mw (dC, dI) vwCl A (fun q e => TW cy L tr a κ_2 τ q e ∨ oW ob (L 0 0) tp q e) H := hP
      show W _ _ _ _ _ _ _ _ _ _ _ _ (0 + 0 + 0 + 0 + 0) (0 + 0 + 0 + 0 + 0) _ _
      refine lv_iload hx hb dX8_digestNodes_59 (lv_at hl 0 rfl) ?_
      refine lv_aload_n hx hb dX8_digestNodes_61 rfl (lv_at hl 3 rfl) ?_
      have hFc := m_free (C := (fun q e => TW cy L tr a κ_2 τ q e ∨ oW ob (L 0 0) tp q e)) hP hS hA (fun _ _ h => h)
      refine va_calli (va_runV (As := []) (rest := [.int (nI j)]) ⟨hx, hb, hml, hown, hts⟩ (c_nodes l dC dI cy L tr a κ_2 τ ob tp H.size hT) (tp_cwV 0 hts tw_504 tw_505 tw_506 tw_20 tw_507 rfl rfl (by decide +kernel) ⟨Nat.le_of_ble_eq_true rfl, Nat.le_of_ble_eq_true rfl⟩) ⟨m_blind, va_recv hK (hP.one (e := .inr (8, [.ref (L 0 0), .ref tp])) (Or.inr oW_mem)) (ci := 8) (q0 := 0) rfl rfl, fun U hU hW => ⟨rfl, m_pay hK hP hE (fun _ _ h => h) U hU hW⟩⟩ rfl rfl hl.1 rfl (lv_room (Nat.le_of_ble_eq_true rfl)) dX8_digestNodes_62 ⟨(Nat.le_of_ble_eq_true rfl), (Nat.le_of_ble_eq_true rfl)⟩) hS (fun q _ h => hFc q h) hFc (fun r_7 u t H1 locs ht hvm hpo hB hz1 hk1 hS => ?_)
      obtain rfl := hpo
      obtain ⟨f_7, hP1⟩ := hB
      subst f_7
      rw [ht] at hP1
      have hP : mw (dC, dI) vwCl A (fun q e => TW cy L tr a κ_2 τ q e ∨ oW ob (L 0 0) tp q e) H1 := hP.join (fun _ _ h => h) hk1 hFc hP1 (fun _ _ h => Or.inl h)
      generalize H1 = H at hP hS ⊢
      clear hP1 hk1 hFc
      refine W.eq (g2 := F0 m 65 ls [.int (nI (nN a)), .int (nI j)]) (by rw [in_nI hw.1.2.1]) ?_
      refine lv_icmp_ge (tgt := 106) hx hb dX8_digestNodes_65 (by decide) (fun c_4 => absurd c_4 (nI_ge hi_2 (by omega))) (fun _ => ?_)
      refine lv_lload_n hx hb dX8_digestNodes_68 rfl (lv_at hl 1 rfl) ?_
      refine lv_ldc2 (v := 31) hx hb hown (hts _ tw_502) dX8_digestNodes_69 ?_
      refine lv_lmul hx hb dX8_digestNodes_72 ?_
      refine lv_aload_n hx hb dX8_digestNodes_73 rfl (lv_at hl 3 rfl) ?_
      refine lv_iload hx hb dX8_digestNodes_74 (lv_at hl 2 rfl) ?_
      refine lv_iload hx hb dX8_digestNodes_76 (lv_at hl 0 rfl) ?_
      have hFc := m_free (C := (fun q e => TW cy L tr a κ_2 τ q e ∨ oW ob (L 0 0) tp q e)) hP hS hA (fun _ _ h => h)
      refine va_calli (va_runV (As := [.int (nI i), .int (nI j)]) (rest := [.long ((itL (D_n2 a i) j (((((((itL (D_n a) i (d0)) * 31) + ((a 8 (nI i).toNatClampNeg 1).toInt64)) * 31) + ((a 8 (nI i).toNatClampNeg 2).toInt64)) * 31) + ((a 12 (nI i).toNatClampNeg 0).toInt64))) * 31)]) ⟨hx, hb, hml, hown, hts⟩ (c_distance l dC dI cy L tr a κ_2 τ ob tp M (nI i) (nI j) H.size hT hw (nI_nno hw hi_1) (nI_nno hw hi_2) hc_2) (tp_cwV 2 hts tw_530 tw_531 tw_532 tw_20 tw_533 rfl rfl (by decide +kernel) ⟨Nat.le_of_ble_eq_true rfl, Nat.le_of_ble_eq_true rfl⟩) ⟨m_blind, va_recv hK (hP.one (e := .inr (8, [.ref (L 0 0), .ref tp])) (Or.inr oW_mem)) (ci := 8) (q0 := 0) rfl rfl, fun U hU hW => ⟨rfl, m_pay hK hP hE (fun _ _ h => h) U hU hW⟩⟩ rfl rfl hl.1 rfl (lv_room (Nat.le_of_ble_eq_true rfl)) dX8_digestNodes_78 ⟨(Nat.le_of_ble_eq_true rfl), (Nat.le_of_ble_eq_true rfl)⟩) hS (fun q _ h => hFc q h) hFc (fun r_8 u t H1 locs ht hvm hpo hB hz1 hk1 hS => ?_)
      obtain rfl := hpo
      obtain ⟨z_1, f_8, f_9, hP1⟩ := hB
      subst f_8
      rw [ht] at hP1
      have hP : mw (dC, dI) vwCl A (fun q e => TW cy L tr a z_1 τ q e ∨ oW ob (L 0 0) tp q e) H1 := hP.join (fun _ _ h => h) hk1 hFc hP1 (fun _ _ h => Or.inl h)
      generalize H1 = H at hP hS ⊢
      clear hP1 hk1 hFc
      refine lv_i2l (v := (bf a (nI j).toNatClampNeg (nI i).toNatClampNeg).toInt64) hx hb dX8_digestNodes_81 rfl ?_
      refine lv_ladd hx hb dX8_digestNodes_82 ?_
      refine lv_lstore_n (lv' := [(3, .long (((itL (D_n2 a i) j (((((((itL (D_n a) i (d0)) * 31) + ((a 8 (nI i).toNatClampNeg 1).toInt64)) * 31) + ((a 8 (nI i).toNatClampNeg 2).toInt64)) * 31) + ((a 12 (nI i).toNatClampNeg 0).toInt64))) * 31) + ((bf a (nI j).toNatClampNeg (nI i).toNatClampNeg).toInt64))), (6, .int (nI j)), (5, .int (nI i)), (0, .ref ob), (1, .long d0)]) hx hb dX8_digestNodes_83 rfl hl (by decide) rfl (fun ls hl => ?_)
      refine lv_lload_n hx hb dX8_digestNodes_84 rfl (lv_at hl 0 rfl) ?_
      refine lv_ldc2 (v := 31) hx hb hown (hts _ tw_502) dX8_digestNodes_85 ?_
      refine lv_lmul hx hb dX8_digestNodes_88 ?_
      refine lv_aload_n hx hb dX8_digestNodes_89 rfl (lv_at hl 3 rfl) ?_
      refine lv_iload hx hb dX8_digestNodes_90 (lv_at hl 2 rfl) ?_
      refine lv_iload hx hb dX8_digestNodes_92 (lv_at hl 1 rfl) ?_
      have hFc := m_free (C := (fun q e => TW cy L tr a z_1 τ q e ∨ oW ob (L 0 0) tp q e)) hP hS hA (fun _ _ h => h)
      refine va_calli (va_runV (As := [.int (nI i), .int (nI j)]) (rest := [.long ((((itL (D_n2 a i) j (((((((itL (D_n a) i (d0)) * 31) + ((a 8 (nI i).toNatClampNeg 1).toInt64)) * 31) + ((a 8 (nI i).toNatClampNeg 2).toInt64)) * 31) + ((a 12 (nI i).toNatClampNeg 0).toInt64))) * 31) + ((bf a (nI j).toNatClampNeg (nI i).toNatClampNeg).toInt64)) * 31)]) ⟨hx, hb, hml, hown, hts⟩ (c_nextLink l dC dI cy L tr a z_1 τ ob tp M (nI i) (nI j) H.size hT hw (nI_nno hw hi_1) (nI_nno hw hi_2) f_9) (tp_cwV 2 hts tw_535 tw_536 tw_537 tw_20 tw_538 rfl rfl (by decide +kernel) ⟨Nat.le_of_ble_eq_true rfl, Nat.le_of_ble_eq_true rfl⟩) ⟨m_blind, va_recv hK (hP.one (e := .inr (8, [.ref (L 0 0), .ref tp])) (Or.inr oW_mem)) (ci := 8) (q0 := 0) rfl rfl, fun U hU hW => ⟨rfl, m_pay hK hP hE (fun _ _ h => h) U hU hW⟩⟩ rfl rfl hl.1 rfl (lv_room (Nat.le_of_ble_eq_true rfl)) dX8_digestNodes_94 ⟨(Nat.le_of_ble_eq_true rfl), (Nat.le_of_ble_eq_true rfl)⟩) hS (fun q _ h => hFc q h) hFc (fun r_9 u t H1 locs ht hvm hpo hB hz1 hk1 hS => ?_)
      obtain rfl := hpo
      obtain ⟨z_2, f_10, f_11, hP1⟩ := hB
      subst f_10
      rw [ht] at hP1
      have hP : mw (dC, dI) vwCl A (fun q e => TW cy L tr a z_2 τ q e ∨ oW ob (L 0 0) tp q e) H1 := hP.join (fun _ _ h => h) hk1 hFc hP1 (fun _ _ h => Or.inl h)
      generalize H1 = H at hP hS ⊢
      clear hP1 hk1 hFc
      refine lv_i2l (v := (G_first a (nI i) (nI j)).toInt64) hx hb dX8_digestNodes_97 rfl ?_
      refine lv_ladd hx hb dX8_digestNodes_98 ?_
      refine lv_lstore_n (lv' := [(3, .long (((((itL (D_n2 a i) j (((((((itL (D_n a) i (d0)) * 31) + ((a 8 (nI i).toNatClampNeg 1).toInt64)) * 31) + ((a 8 (nI i).toNatClampNeg 2).toInt64)) * 31) + ((a 12 (nI i).toNatClampNeg 0).toInt64))) * 31) + ((bf a (nI j).toNatClampNeg (nI i).toNatClampNeg).toInt64)) * 31) + ((G_first a (nI i) (nI j)).toInt64))), (6, .int (nI j)), (5, .int (nI i)), (0, .ref ob), (1, .long d0)]) hx hb dX8_digestNodes_99 rfl hl (by decide) rfl (fun ls hl => ?_)
      refine lv_iinc (v := nI (j + 1)) (lv' := [(6, .int (nI (j + 1))), (3, .long (((((itL (D_n2 a i) j (((((((itL (D_n a) i (d0)) * 31) + ((a 8 (nI i).toNatClampNeg 1).toInt64)) * 31) + ((a 8 (nI i).toNatClampNeg 2).toInt64)) * 31) + ((a 12 (nI i).toNatClampNeg 0).toInt64))) * 31) + ((bf a (nI j).toNatClampNeg (nI i).toNatClampNeg).toInt64)) * 31) + ((G_first a (nI i) (nI j)).toInt64))), (5, .int (nI i)), (0, .ref ob), (1, .long d0)]) hx hb dX8_digestNodes_100 hl (k := 1) rfl (nI_1 j) (by decide) rfl (fun ls hl => ?_)
      refine lv_goto (tgt := 59) hx hb dX8_digestNodes_103 (by decide) ?_
      exact ih_2 z_2 _ _ ls ⟨f_11, hP, hS, lv_sub hl [0, 1, 2, 3, 4] rfl⟩

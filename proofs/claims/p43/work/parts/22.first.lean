theorem tw_273 : Cond.methodLink RX5 175 yX3_get ∈ tp_all := tp_mem 273 (by decide +kernel) rfl
theorem tw_277 : Cond.code yX5_find cX5_find 2 (some (.object "Turnpike$Vehicle")) ∈ tp_all := tp_mem 277 (by decide +kernel) rfl
theorem tw_274 : Cond.methodLink RX5 179 yX5_find ∈ tp_all := tp_mem 274 (by decide +kernel) rfl
theorem tw_275 : Cond.instanceMethod yX5_find ∈ tp_all := tp_mem 275 (by decide +kernel) rfl
theorem tw_276 : Cond.selects RX5 yX5_find yX5_find ∈ tp_all := tp_mem 276 (by decide +kernel) rfl
theorem tw_278 : Cond.methodLink RX5 183 yX1_hasQueueIn ∈ tp_all := tp_mem 278 (by decide +kernel) rfl
theorem tw_297 : Cond.code yX5_nextOf cX5_nextOf 3 (some .int) ∈ tp_all := tp_mem 297 (by decide +kernel) rfl
theorem tw_294 : Cond.methodLink RX5 191 yX5_nextOf ∈ tp_all := tp_mem 294 (by decide +kernel) rfl
theorem tw_296 : Cond.instanceMethod yX5_nextOf ∈ tp_all := tp_mem 296 (by decide +kernel) rfl
theorem tw_9 : Cond.selects RX5 yX5_nextOf yX5_nextOf ∈ tp_all := tp_mem 9 (by decide +kernel) rfl
theorem tw_306 : Cond.code yX5_comesOnto cX5_comesOnto 5 (some .boolean) ∈ tp_all := tp_mem 306 (by decide +kernel) rfl
theorem tw_303 : Cond.methodLink RX5 195 yX5_comesOnto ∈ tp_all := tp_mem 303 (by decide +kernel) rfl
theorem tw_305 : Cond.instanceMethod yX5_comesOnto ∈ tp_all := tp_mem 305 (by decide +kernel) rfl
theorem tw_10 : Cond.selects RX5 yX5_comesOnto yX5_comesOnto ∈ tp_all := tp_mem 10 (by decide +kernel) rfl
theorem tw_346 : Cond.code yX1_countTurn cX1_countTurn 2 none ∈ tp_all := tp_mem 346 (by decide +kernel) rfl
theorem tw_343 : Cond.methodLink RX5 199 yX1_countTurn ∈ tp_all := tp_mem 343 (by decide +kernel) rfl
theorem tw_344 : Cond.instanceMethod yX1_countTurn ∈ tp_all := tp_mem 344 (by decide +kernel) rfl
theorem tw_345 : Cond.selects RX1 yX1_countTurn yX1_countTurn ∈ tp_all := tp_mem 345 (by decide +kernel) rfl
theorem tw_350 : Cond.code yX1_letFirstGo cX1_letFirstGo 1 none ∈ tp_all := tp_mem 350 (by decide +kernel) rfl
theorem tw_347 : Cond.methodLink RX5 202 yX1_letFirstGo ∈ tp_all := tp_mem 347 (by decide +kernel) rfl
theorem tw_348 : Cond.instanceMethod yX1_letFirstGo ∈ tp_all := tp_mem 348 (by decide +kernel) rfl
theorem tw_349 : Cond.selects RX1 yX1_letFirstGo yX1_letFirstGo ∈ tp_all := tp_mem 349 (by decide +kernel) rfl
theorem tw_282 : Cond.code yX5_arrive cX5_arrive 2 none ∈ tp_all := tp_mem 282 (by decide +kernel) rfl
theorem tw_279 : Cond.methodLink RX5 187 yX5_arrive ∈ tp_all := tp_mem 279 (by decide +kernel) rfl
theorem tw_281 : Cond.instanceMethod yX5_arrive ∈ tp_all := tp_mem 281 (by decide +kernel) rfl
theorem tw_8 : Cond.selects RX5 yX5_arrive yX5_arrive ∈ tp_all := tp_mem 8 (by decide +kernel) rfl
theorem te_f17 {U : State} (h : tp_E U) : va_Nw (.fieldLinkNest "Turnpike$Traffic" 172 "Turnpike$Link" "row" "LTurnpike$Row;" "Turnpike") U := h.1 _ (List.mem_of_getElem? (i := 17) rfl)
theorem te_f4 {U : State} (h : tp_E U) : va_Nw (.fieldLinkNest "Turnpike$Traffic" 159 "Turnpike$Link" "to" "I" "Turnpike") U := h.1 _ (List.mem_of_getElem? (i := 4) rfl)
theorem dX5_firstGoesOn_0 : decode cX5_firstGoesOn 0 = .ok (.aload_n 1, 1) := by decide +kernel
theorem dX5_firstGoesOn_1 : decode cX5_firstGoesOn 1 = .ok (.getfield 172, 3) := by decide +kernel
theorem dX5_firstGoesOn_4 : decode cX5_firstGoesOn 4 = .ok (.iconst 0, 1) := by decide +kernel
theorem dX5_firstGoesOn_5 : decode cX5_firstGoesOn 5 = .ok (.invokevirtual 175, 3) := by decide +kernel
theorem dX5_firstGoesOn_8 : decode cX5_firstGoesOn 8 = .ok (.istore_n 2, 1) := by decide +kernel
theorem dX5_firstGoesOn_9 : decode cX5_firstGoesOn 9 = .ok (.aload_n 0, 1) := by decide +kernel
theorem dX5_firstGoesOn_10 : decode cX5_firstGoesOn 10 = .ok (.iload_n 2, 1) := by decide +kernel
theorem dX5_firstGoesOn_11 : decode cX5_firstGoesOn 11 = .ok (.invokevirtual 179, 3) := by decide +kernel
theorem dX5_firstGoesOn_14 : decode cX5_firstGoesOn 14 = .ok (.astore_n 3, 1) := by decide +kernel
theorem dX5_firstGoesOn_15 : decode cX5_firstGoesOn 15 = .ok (.aload_n 3, 1) := by decide +kernel
theorem dX5_firstGoesOn_16 : decode cX5_firstGoesOn 16 = .ok (.ifnull 14, 3) := by decide +kernel
theorem dX5_firstGoesOn_30 : decode cX5_firstGoesOn 30 = .ok (.iconst 0, 1) := by decide +kernel
theorem dX5_firstGoesOn_31 : decode cX5_firstGoesOn 31 = .ok (.ireturn, 1) := by decide +kernel
theorem dX5_firstGoesOn_19 : decode cX5_firstGoesOn 19 = .ok (.aload_n 1, 1) := by decide +kernel
theorem dX5_firstGoesOn_20 : decode cX5_firstGoesOn 20 = .ok (.aload_n 0, 1) := by decide +kernel
theorem dX5_firstGoesOn_21 : decode cX5_firstGoesOn 21 = .ok (.getfield 65, 3) := by decide +kernel
theorem dX5_firstGoesOn_24 : decode cX5_firstGoesOn 24 = .ok (.invokevirtual 183, 3) := by decide +kernel
theorem dX5_firstGoesOn_27 : decode cX5_firstGoesOn 27 = .ok (.ifCond .ne 5, 3) := by decide +kernel
theorem dX5_firstGoesOn_32 : decode cX5_firstGoesOn 32 = .ok (.aload_n 3, 1) := by decide +kernel
theorem dX5_firstGoesOn_33 : decode cX5_firstGoesOn 33 = .ok (.getfield 186, 3) := by decide +kernel
theorem dX5_firstGoesOn_36 : decode cX5_firstGoesOn 36 = .ok (.aload_n 1, 1) := by decide +kernel
theorem dX5_firstGoesOn_37 : decode cX5_firstGoesOn 37 = .ok (.getfield 159, 3) := by decide +kernel
theorem dX5_firstGoesOn_40 : decode cX5_firstGoesOn 40 = .ok (.if_icmp .ne 11, 3) := by decide +kernel
theorem dX5_firstGoesOn_51 : decode cX5_firstGoesOn 51 = .ok (.aload_n 0, 1) := by decide +kernel
theorem dX5_firstGoesOn_52 : decode cX5_firstGoesOn 52 = .ok (.aload_n 3, 1) := by decide +kernel
theorem dX5_firstGoesOn_53 : decode cX5_firstGoesOn 53 = .ok (.aload_n 1, 1) := by decide +kernel
theorem dX5_firstGoesOn_54 : decode cX5_firstGoesOn 54 = .ok (.getfield 159, 3) := by decide +kernel
theorem dX5_firstGoesOn_57 : decode cX5_firstGoesOn 57 = .ok (.invokevirtual 191, 3) := by decide +kernel
theorem dX5_firstGoesOn_60 : decode cX5_firstGoesOn 60 = .ok (.istore 4, 2) := by decide +kernel
theorem dX5_firstGoesOn_62 : decode cX5_firstGoesOn 62 = .ok (.aload_n 0, 1) := by decide +kernel
theorem dX5_firstGoesOn_63 : decode cX5_firstGoesOn 63 = .ok (.iload_n 2, 1) := by decide +kernel
theorem dX5_firstGoesOn_64 : decode cX5_firstGoesOn 64 = .ok (.aload_n 3, 1) := by decide +kernel
theorem dX5_firstGoesOn_65 : decode cX5_firstGoesOn 65 = .ok (.iload 4, 2) := by decide +kernel
theorem dX5_firstGoesOn_67 : decode cX5_firstGoesOn 67 = .ok (.invokevirtual 195, 3) := by decide +kernel
theorem dX5_firstGoesOn_70 : decode cX5_firstGoesOn 70 = .ok (.ifCond .ne 5, 3) := by decide +kernel
theorem dX5_firstGoesOn_75 : decode cX5_firstGoesOn 75 = .ok (.aload_n 1, 1) := by decide +kernel
theorem dX5_firstGoesOn_76 : decode cX5_firstGoesOn 76 = .ok (.iload 4, 2) := by decide +kernel
theorem dX5_firstGoesOn_78 : decode cX5_firstGoesOn 78 = .ok (.invokevirtual 199, 3) := by decide +kernel
theorem dX5_firstGoesOn_81 : decode cX5_firstGoesOn 81 = .ok (.aload_n 1, 1) := by decide +kernel
theorem dX5_firstGoesOn_82 : decode cX5_firstGoesOn 82 = .ok (.invokevirtual 202, 3) := by decide +kernel
theorem dX5_firstGoesOn_85 : decode cX5_firstGoesOn 85 = .ok (.iconst 1, 1) := by decide +kernel
theorem dX5_firstGoesOn_86 : decode cX5_firstGoesOn 86 = .ok (.ireturn, 1) := by decide +kernel
theorem dX5_firstGoesOn_73 : decode cX5_firstGoesOn 73 = .ok (.iconst 0, 1) := by decide +kernel
theorem dX5_firstGoesOn_74 : decode cX5_firstGoesOn 74 = .ok (.ireturn, 1) := by decide +kernel
theorem dX5_firstGoesOn_43 : decode cX5_firstGoesOn 43 = .ok (.aload_n 0, 1) := by decide +kernel
theorem dX5_firstGoesOn_44 : decode cX5_firstGoesOn 44 = .ok (.aload_n 3, 1) := by decide +kernel
theorem dX5_firstGoesOn_45 : decode cX5_firstGoesOn 45 = .ok (.invokevirtual 187, 3) := by decide +kernel
theorem dX5_firstGoesOn_48 : decode cX5_firstGoesOn 48 = .ok (.goto 33, 3) := by decide +kernel
set_option maxRecDepth 100000 in
set_option maxHeartbeats 4000000 in
/-- Traffic.firstGoesOn -/
theorem c_Traffic_firstGoesOn (l : Launch) (dC : Nat → ClassId) (dI : Nat → Nat → Nat) (cy : Nat → ClassId) (L : Lay) (tr : Option Nat) (a : St) (κ : Kap) (τ : Tau) (M : Nat) (Bd : Nat) (li : Nat) (sz : Nat) (hT : TL L tr τ) (hw : Wf M a) (hh : Hid L tr a κ τ) (hl0 : li < 24) (hMB : M ≤ Bd) (hB2 : Bd < 30000) : Met l yX5_firstGoesOn (tp_w yX5_firstGoesOn cX5_firstGoesOn 5 (some .boolean)) ({ frames := 4, cells := cT tr, slots := pB tr Bd, locals := 99 }) (va_Pc [.ref (L 0 0), .ref (L 2 li)] (mPre dC dI cy (TW cy L tr a κ τ) sz)) (va_Qi (fun (r u : Int32) => r = u) (fun (u : Int32) (t : State) => ∃ (κ2 : Kap), ∃ (τ2 : Tau), (u = (T_first a li).2) ∧ (Hid L tr ((T_first a li).1) κ2 τ2) ∧ mw (dC, dI) vwCl (mA (TW cy L tr a κ τ) sz) (TW cy L tr ((T_first a li).1) κ2 τ2) t.heap) (mA (TW cy L tr a κ τ) sz)) (cT tr) (pB tr Bd) (mA (TW cy L tr a κ τ) sz) := by
  refine Met.ofW (cc := cX5_firstGoesOn) (maxL := 5) (ret := (some .boolean)) (by decide) rfl ?_
  intro p e s m args below meth c s₁ B hml hv
  obtain ⟨rfl, hsz, hP, hK, hE⟩ := hv
  have hx := B.exec
  have hb := B.bytes
  have hr := B.returns
  have hts0 := atoms_spec (ws := tp_w yX5_firstGoesOn cX5_firstGoesOn 5 (some .boolean)) B.pre
  have hts : ∀ w ∈ tp_all, w.before _ s = true := fun w h => hts0 w (List.mem_cons_of_mem _ h)
  have hown : s.vm.findClass RX5 = some m.cls := findClass_of_methodNamed B.named
  have hlocks := B.notSynchronized
  subst hsz
  have hP := hP.self s.heap.size
  generalize hAe : mA (TW cy L tr a κ τ) s.heap.size = A at hP ⊢
  have hA : ∀ q : Nat, s.heap.size ≤ q → A q := fun q h => by rw [← hAe]; exact Or.inr h
  have hS : va_S A s.heap s.heap [] := va_S.rf
  have hl9 := lv_entry ([.ref (L 0 0), .ref (L 2 li)]) (n := 5) (Nat.le_of_ble_eq_true rfl)
  rw [lg_entry_eq]
  generalize (lg_sl ([.ref (L 0 0), .ref (L 2 li)]) ++ List.replicate (5 - (lg_sl ([.ref (L 0 0), .ref (L 2 li)])).length) Slot.unset).toArray = ls at hl9 ⊢
  have hl : lv_has ls 5 [(0, .ref (L 0 0)), (1, .ref (L 2 li))] := hl9
  refine lv_aload_n hx hb dX5_firstGoesOn_0 rfl (lv_at hl 1 rfl) ?_
  obtain ⟨hT_, hκ, hTR⟩ := id hh
  refine va_getN (D := (dC, dI)) (ws := [(L 2 li, .inr (1, [.int ((a 2 li) 0), .int ((a 2 li) 1), .int ((a 2 li) 2), .int ((a 2 li) 3), .int ((a 2 li) 4), .int ((a 2 li) 5), .int ((a 2 li) 6), .int ((a 2 li) 7), .int ((a 2 li) 8), .ref (L 3 li), .ref (L 5 li), .int ((a 2 li) 9), .int ((a 2 li) 10), .int ((a 2 li) 11), .int ((a 2 li) 12), .ref (L 7 li)]))]) (ci := 1) (v := .ref (L 3 li)) (C := RX1) (T := TX1) (N := 16) hx hb hts tl_X1 hown hK (hP.one (tw_mem (f := 2) (i := li) hl0 rfl)) 0 rfl rfl 9 (by decide) (va_Nw.use rfl (te_f17 hE)) (fun _ h9 => h9) rfl dX5_firstGoesOn_1 ?_
  refine lv_iconst (v := 0) hx hb dX5_firstGoesOn_4 (by decide) ?_
  have hFc := m_free (C := (TW cy L tr a κ τ)) hP hS hA (fun _ _ h => h)
  refine va_calli (va_runV (As := [.int 0]) (rest := []) ⟨hx, hb, hml, hown, hts⟩ (c_Row_get_row l dC dI cy L tr a κ τ li 0 s.heap.size hT hl0 (hw.2.1 li hl0).2.2.2.2.1.2) (tp_cwV 1 hts tw_273 tw_187 tw_188 tw_24 tw_189 rfl rfl (by decide +kernel) ⟨Nat.le_of_ble_eq_true rfl, Nat.le_of_ble_eq_true rfl⟩) ⟨m_blind, va_recv hK (hP.one (e := .inr (3, [.ref (L 4 li), .int ((a 3 li) 0)])) (tw_mem (f := 3) (i := li) hl0 rfl)) (ci := 3) (q0 := 0) rfl rfl, fun U hU hW => ⟨rfl, m_pay hK hP hE (fun _ _ h => h) U hU hW⟩⟩ rfl rfl hl.1 rfl (lv_room (Nat.le_of_ble_eq_true rfl)) dX5_firstGoesOn_5 ⟨(by show 0 + 0 ≤ cT tr; omega), (by show 0 + 0 ≤ pB tr Bd; omega)⟩) hS (fun q _ h => hFc q h) hFc (fun r_1 u t H1 locs ht hvm hpo hB hz1 hk1 hS => ?_)
  obtain rfl := hpo
  obtain ⟨f_1, hP1⟩ := hB
  subst f_1
  rw [ht] at hP1
  have hP : mw (dC, dI) vwCl A (TW cy L tr a κ τ) H1 := hP.join (fun _ _ h => h) hk1 hFc hP1 (fun _ _ h => Or.inl h)
  generalize H1 = H at hP hS ⊢
  clear hP1 hk1 hFc
  refine lv_istore_n (lv' := [(2, .int (R_get (a 3 li 0) (a 4 li) 0)), (0, .ref (L 0 0)), (1, .ref (L 2 li))]) hx hb dX5_firstGoesOn_8 rfl hl (by decide) rfl (fun ls hl => ?_)
  refine lv_aload_n hx hb dX5_firstGoesOn_9 rfl (lv_at hl 1 rfl) ?_
  refine lv_iload_n hx hb dX5_firstGoesOn_10 rfl (lv_at hl 0 rfl) ?_
  by_cases c_1 : T_no a (R_get (a 3 li 0) (a 4 li) 0)
  · have hFc := m_free (C := (TW cy L tr a κ τ)) hP hS hA (fun _ _ h => h)
    refine va_callq (va_runV (As := [.int (R_get (a 3 li 0) (a 4 li) 0)]) (rest := []) ⟨hx, hb, hml, hown, hts⟩ (c_Traffic_find_none l dC dI cy L tr a κ τ (R_get (a 3 li 0) (a 4 li) 0) H.size hT c_1) (tp_cwV 1 hts tw_274 tw_275 tw_276 tw_21 tw_277 rfl rfl (by decide +kernel) ⟨Nat.le_of_ble_eq_true rfl, Nat.le_of_ble_eq_true rfl⟩) ⟨m_blind, va_recv hK (hP.one (e := .inr (5, [.ref (L 1 0), .ref (L 20 0), .ref (L 21 0), .ref (L 22 0), .ref (L 23 0), va_rf tr, .int ((a 0 0) 0), .int ((a 0 0) 1), .int ((a 0 0) 2), .int ((a 0 0) 3), .int ((a 0 0) 4), .int ((a 0 0) 5)])) (tw_mem (f := 0) (i := 0) (by decide) rfl)) (ci := 5) (q0 := 0) rfl rfl, fun U hU hW => ⟨rfl, m_pay hK hP hE (fun _ _ h => h) U hU hW⟩⟩ rfl rfl hl.1 rfl (lv_room (Nat.le_of_ble_eq_true rfl)) dX5_firstGoesOn_11 ⟨(by show 0 + 0 + 0 ≤ cT tr; omega), (by show 0 + 0 + 0 ≤ pB tr Bd; omega)⟩) hS (fun q _ h => hFc q h) hFc (fun r_2 u t H1 locs ht hvm hpo hB hz1 hk1 hS => ?_)
    obtain rfl := hpo
    obtain ⟨f_2, hP1⟩ := hB
    subst f_2
    rw [ht] at hP1
    have hP : mw (dC, dI) vwCl A (TW cy L tr a κ τ) H1 := hP.join (fun _ _ h => h) hk1 hFc hP1 (fun _ _ h => Or.inl h)
    generalize H1 = H at hP hS ⊢
    clear hP1 hk1 hFc
    refine W.eq (g2 := F0 m 14 ls [.null]) rfl ?_
    refine lv_astore_nN (lv' := [(3, .null), (2, .int (R_get (a 3 li 0) (a 4 li) 0)), (0, .ref (L 0 0)), (1, .ref (L 2 li))]) hx hb dX5_firstGoesOn_14 rfl hl (by decide) rfl (fun ls hl => ?_)
    refine lv_aload_nN hx hb dX5_firstGoesOn_15 rfl (lv_at hl 0 rfl) ?_
    refine lv_ifnullN (tgt := 30) hx hb dX5_firstGoesOn_16 (by decide) ?_
    refine lv_iconst (v := 0) hx hb dX5_firstGoesOn_30 (by decide) ?_
    refine W.widen (k := cT tr) (n := pB tr Bd) (by show 0 + 0 + 0 + 0 ≤ cT tr; omega) (by show 0 + 0 + 0 + 0 ≤ pB tr Bd; omega) ?_
    have s_1 : a = (T_first a li).1 := by
      unfold T_first
      rw [if_pos c_1]
    rw [s_1] at hP
    have g_1 : 0 = (T_first a li).2 := by
      unfold T_first
      rw [if_pos c_1]
    have g_2 : Hid L tr ((T_first a li).1) κ τ := by
      rw [← s_1]
      exact hh
    exact W.zret (v := 0) hx hb hr rfl (fun t ht hW => ⟨⟨0, 0, rfl, rfl, ⟨κ, τ, g_1, g_2, by show mw _ _ _ _ t.heap; rw [ht]; exact hP⟩⟩, hS.F ht⟩) hS.2.2 dX5_firstGoesOn_31
  · have hFc := m_free (C := (TW cy L tr a κ τ)) hP hS hA (fun _ _ h => h)
    refine va_callr (va_runV (As := [.int (R_get (a 3 li 0) (a 4 li) 0)]) (rest := []) ⟨hx, hb, hml, hown, hts⟩ (c_Traffic_find_some l dC dI cy L tr a κ τ M (R_get (a 3 li 0) (a 4 li) 0) H.size hT hw c_1) (tp_cwV 1 hts tw_274 tw_275 tw_276 tw_21 tw_277 rfl rfl (by decide +kernel) ⟨Nat.le_of_ble_eq_true rfl, Nat.le_of_ble_eq_true rfl⟩) ⟨m_blind, va_recv hK (hP.one (e := .inr (5, [.ref (L 1 0), .ref (L 20 0), .ref (L 21 0), .ref (L 22 0), .ref (L 23 0), va_rf tr, .int ((a 0 0) 0), .int ((a 0 0) 1), .int ((a 0 0) 2), .int ((a 0 0) 3), .int ((a 0 0) 4), .int ((a 0 0) 5)])) (tw_mem (f := 0) (i := 0) (by decide) rfl)) (ci := 5) (q0 := 0) rfl rfl, fun U hU hW => ⟨rfl, m_pay hK hP hE (fun _ _ h => h) U hU hW⟩⟩ rfl rfl hl.1 rfl (lv_room (Nat.le_of_ble_eq_true rfl)) dX5_firstGoesOn_11 ⟨(by show 0 + 0 + 0 ≤ cT tr; omega), (by show 0 + 0 + 0 ≤ pB tr Bd; omega)⟩) hS (fun q _ h => hFc q h) hFc (fun u r_3 t H1 locs ht hvm hpo hB hz1 hk1 hS => ?_)
    obtain ⟨f_3, hP1⟩ := hB
    subst f_3
    rw [ht] at hP1
    have hP : mw (dC, dI) vwCl A (TW cy L tr a κ τ) H1 := hP.join (fun _ _ h => h) hk1 hFc hP1 (fun _ _ h => Or.inl h)
    generalize H1 = H at hP hS ⊢
    clear hP1 hk1 hFc
    obtain ⟨hvv, hv, hvn⟩ := T_no_in hw c_1
    refine lv_astore_n (lv' := [(3, .ref (L 15 (R_get (a 3 li 0) (a 4 li) 0).toNatClampNeg)), (2, .int (R_get (a 3 li 0) (a 4 li) 0)), (0, .ref (L 0 0)), (1, .ref (L 2 li))]) hx hb dX5_firstGoesOn_14 rfl hl (by decide) rfl (fun ls hl => ?_)
    refine lv_aload_n hx hb dX5_firstGoesOn_15 rfl (lv_at hl 0 rfl) ?_
    refine lv_ifnull hx hb dX5_firstGoesOn_16 ?_
    refine lv_aload_n hx hb dX5_firstGoesOn_19 rfl (lv_at hl 3 rfl) ?_
    refine lv_aload_n hx hb dX5_firstGoesOn_20 rfl (lv_at hl 2 rfl) ?_
    refine va_get (D := (dC, dI)) (ws := [(L 0 0, .inr (5, [.ref (L 1 0), .ref (L 20 0), .ref (L 21 0), .ref (L 22 0), .ref (L 23 0), va_rf tr, .int ((a 0 0) 0), .int ((a 0 0) 1), .int ((a 0 0) 2), .int ((a 0 0) 3), .int ((a 0 0) 4), .int ((a 0 0) 5)]))]) (ci := 5) (v := .int ((a 0 0) 0)) (C := RX5) (T := TX5) (N := 12) hx hb hts tl_X5 hown hK (hP.one (tw_mem (f := 0) (i := 0) (by decide) rfl)) 0 rfl rfl 6 (by decide) (hts _ tw_885) (fun _ h9 => h9) rfl dX5_firstGoesOn_21 ?_
    have hFc := m_free (C := (TW cy L tr a κ τ)) hP hS hA (fun _ _ h => h)
    refine va_calli (va_runV (As := [.int ((a 0 0) 0)]) (rest := []) ⟨hx, hb, hml, hown, hts⟩ (c_Link_hasQueueIn l dC dI cy L tr a κ τ li ((a 0 0) 0) H.size hT hl0 (hw.2.1 li hl0).2.2.2.2.2.2) (tp_cwV 1 hts tw_278 tw_250 tw_251 tw_23 tw_252 rfl rfl (by decide +kernel) ⟨Nat.le_of_ble_eq_true rfl, Nat.le_of_ble_eq_true rfl⟩) ⟨m_blind, va_recv hK (hP.one (e := .inr (1, [.int ((a 2 li) 0), .int ((a 2 li) 1), .int ((a 2 li) 2), .int ((a 2 li) 3), .int ((a 2 li) 4), .int ((a 2 li) 5), .int ((a 2 li) 6), .int ((a 2 li) 7), .int ((a 2 li) 8), .ref (L 3 li), .ref (L 5 li), .int ((a 2 li) 9), .int ((a 2 li) 10), .int ((a 2 li) 11), .int ((a 2 li) 12), .ref (L 7 li)])) (tw_mem (f := 2) (i := li) hl0 rfl)) (ci := 1) (q0 := 0) rfl rfl, fun U hU hW => ⟨rfl, m_pay hK hP hE (fun _ _ h => h) U hU hW⟩⟩ rfl rfl hl.1 rfl (lv_room (Nat.le_of_ble_eq_true rfl)) dX5_firstGoesOn_24 ⟨(by show 0 + 0 + 0 + 0 ≤ cT tr; omega), (by show 0 + 0 + 0 + 0 ≤ pB tr Bd; omega)⟩) hS (fun q _ h => hFc q h) hFc (fun r_4 u t H1 locs ht hvm hpo hB hz1 hk1 hS => ?_)
    obtain rfl := hpo
    obtain ⟨f_4, hP1⟩ := hB
    subst f_4
    rw [ht] at hP1
    have hP : mw (dC, dI) vwCl A (TW cy L tr a κ τ) H1 := hP.join (fun _ _ h => h) hk1 hFc hP1 (fun _ _ h => Or.inl h)
    generalize H1 = H at hP hS ⊢
    clear hP1 hk1 hFc
    refine lv_if_ne (tgt := 32) hx hb dX5_firstGoesOn_27 (by decide) (fun c_2 => ?_) (fun c_2 => ?_)
    · refine lv_aload_n hx hb dX5_firstGoesOn_32 rfl (lv_at hl 0 rfl) ?_
      refine va_getN (D := (dC, dI)) (ws := [(L 15 (R_get (a 3 li 0) (a 4 li) 0).toNatClampNeg, .inr (7, [.int ((a 15 ((R_get (a 3 li 0) (a 4 li) 0).toNatClampNeg)) 0), .int ((a 15 ((R_get (a 3 li 0) (a 4 li) 0).toNatClampNeg)) 1), .int ((a 15 ((R_get (a 3 li 0) (a 4 li) 0).toNatClampNeg)) 2), .int ((a 15 ((R_get (a 3 li 0) (a 4 li) 0).toNatClampNeg)) 3), .int ((a 15 ((R_get (a 3 li 0) (a 4 li) 0).toNatClampNeg)) 4), .int ((a 15 ((R_get (a 3 li 0) (a 4 li) 0).toNatClampNeg)) 5), .int ((a 15 ((R_get (a 3 li 0) (a 4 li) 0).toNatClampNeg)) 6), .int ((a 15 ((R_get (a 3 li 0) (a 4 li) 0).toNatClampNeg)) 7), .int ((a 15 ((R_get (a 3 li 0) (a 4 li) 0).toNatClampNeg)) 8), .int ((a 15 ((R_get (a 3 li 0) (a 4 li) 0).toNatClampNeg)) 9), .int ((a 15 ((R_get (a 3 li 0) (a 4 li) 0).toNatClampNeg)) 10), .int ((a 15 ((R_get (a 3 li 0) (a 4 li) 0).toNatClampNeg)) 11), .ref (L 16 ((R_get (a 3 li 0) (a 4 li) 0).toNatClampNeg))]))]) (ci := 7) (v := .int ((a 15 ((R_get (a 3 li 0) (a 4 li) 0).toNatClampNeg)) 1)) (C := RX7) (T := TX7) (N := 13) hx hb hts tl_X7 hown hK (hP.one (tw_mem (f := 15) (i := (R_get (a 3 li 0) (a 4 li) 0).toNatClampNeg) hv rfl)) 0 rfl rfl 1 (by decide) (va_Nw.use rfl (te_f46 hE)) (fun _ h9 => h9) rfl dX5_firstGoesOn_33 ?_
      refine lv_aload_n hx hb dX5_firstGoesOn_36 rfl (lv_at hl 3 rfl) ?_
      refine va_getN (D := (dC, dI)) (ws := [(L 2 li, .inr (1, [.int ((a 2 li) 0), .int ((a 2 li) 1), .int ((a 2 li) 2), .int ((a 2 li) 3), .int ((a 2 li) 4), .int ((a 2 li) 5), .int ((a 2 li) 6), .int ((a 2 li) 7), .int ((a 2 li) 8), .ref (L 3 li), .ref (L 5 li), .int ((a 2 li) 9), .int ((a 2 li) 10), .int ((a 2 li) 11), .int ((a 2 li) 12), .ref (L 7 li)]))]) (ci := 1) (v := .int ((a 2 li) 1)) (C := RX1) (T := TX1) (N := 16) hx hb hts tl_X1 hown hK (hP.one (tw_mem (f := 2) (i := li) hl0 rfl)) 0 rfl rfl 1 (by decide) (va_Nw.use rfl (te_f4 hE)) (fun _ h9 => h9) rfl dX5_firstGoesOn_37 ?_
      refine lv_icmp_ne (tgt := 51) hx hb dX5_firstGoesOn_40 (by decide) (fun c_3 => ?_) (fun c_3 => ?_)
      · refine lv_aload_n hx hb dX5_firstGoesOn_51 rfl (lv_at hl 2 rfl) ?_
        refine lv_aload_n hx hb dX5_firstGoesOn_52 rfl (lv_at hl 0 rfl) ?_
        refine lv_aload_n hx hb dX5_firstGoesOn_53 rfl (lv_at hl 3 rfl) ?_
        refine va_getN (D := (dC, dI)) (ws := [(L 2 li, .inr (1, [.int ((a 2 li) 0), .int ((a 2 li) 1), .int ((a 2 li) 2), .int ((a 2 li) 3), .int ((a 2 li) 4), .int ((a 2 li) 5), .int ((a 2 li) 6), .int ((a 2 li) 7), .int ((a 2 li) 8), .ref (L 3 li), .ref (L 5 li), .int ((a 2 li) 9), .int ((a 2 li) 10), .int ((a 2 li) 11), .int ((a 2 li) 12), .ref (L 7 li)]))]) (ci := 1) (v := .int ((a 2 li) 1)) (C := RX1) (T := TX1) (N := 16) hx hb hts tl_X1 hown hK (hP.one (tw_mem (f := 2) (i := li) hl0 rfl)) 0 rfl rfl 1 (by decide) (va_Nw.use rfl (te_f4 hE)) (fun _ h9 => h9) rfl dX5_firstGoesOn_54 ?_
        have hFc := m_free (C := (TW cy L tr a κ τ)) hP hS hA (fun _ _ h => h)
        refine va_calli (va_runV (As := [.ref (L 15 (R_get (a 3 li 0) (a 4 li) 0).toNatClampNeg), .int ((a 2 li) 1)]) (rest := []) ⟨hx, hb, hml, hown, hts⟩ (c_Traffic_nextOf l dC dI cy L tr a κ τ M ((R_get (a 3 li 0) (a 4 li) 0).toNatClampNeg) ((a 2 li) 1) H.size hT hw hv (hw.2.1 li hl0).2.1 hκ) (tp_cwV 2 hts tw_294 tw_296 tw_9 tw_21 tw_297 rfl rfl (by decide +kernel) ⟨Nat.le_of_ble_eq_true rfl, Nat.le_of_ble_eq_true rfl⟩) ⟨m_blind, va_recv hK (hP.one (e := .inr (5, [.ref (L 1 0), .ref (L 20 0), .ref (L 21 0), .ref (L 22 0), .ref (L 23 0), va_rf tr, .int ((a 0 0) 0), .int ((a 0 0) 1), .int ((a 0 0) 2), .int ((a 0 0) 3), .int ((a 0 0) 4), .int ((a 0 0) 5)])) (tw_mem (f := 0) (i := 0) (by decide) rfl)) (ci := 5) (q0 := 0) rfl rfl, fun U hU hW => ⟨rfl, m_pay hK hP hE (fun _ _ h => h) U hU hW⟩⟩ rfl rfl hl.1 rfl (lv_room (Nat.le_of_ble_eq_true rfl)) dX5_firstGoesOn_57 ⟨(by show 0 + 0 + 0 + 0 + 0 ≤ cT tr; omega), (by show 0 + 0 + 0 + 0 + 0 ≤ pB tr Bd; omega)⟩) hS (fun q _ h => hFc q h) hFc (fun r_5 u t H1 locs ht hvm hpo hB hz1 hk1 hS => ?_)
        obtain rfl := hpo
        obtain ⟨z_1, f_5, f_6, hP1⟩ := hB
        subst f_5
        rw [ht] at hP1
        have hP : mw (dC, dI) vwCl A (TW cy L tr a z_1 τ) H1 := hP.join (fun _ _ h => h) hk1 hFc hP1 (fun _ _ h => Or.inl h)
        generalize H1 = H at hP hS ⊢
        clear hP1 hk1 hFc
        have hh1 : Hid L tr a z_1 τ := ⟨hT, f_6, hTR⟩
        refine lv_istore (lv' := [(4, .int (T_next a ((R_get (a 3 li 0) (a 4 li) 0).toNatClampNeg) ((a 2 li) 1))), (3, .ref (L 15 (R_get (a 3 li 0) (a 4 li) 0).toNatClampNeg)), (2, .int (R_get (a 3 li 0) (a 4 li) 0)), (0, .ref (L 0 0)), (1, .ref (L 2 li))]) hx hb dX5_firstGoesOn_60 hl (by decide) rfl (fun ls hl => ?_)
        refine lv_aload_n hx hb dX5_firstGoesOn_62 rfl (lv_at hl 3 rfl) ?_
        refine lv_iload_n hx hb dX5_firstGoesOn_63 rfl (lv_at hl 2 rfl) ?_
        refine lv_aload_n hx hb dX5_firstGoesOn_64 rfl (lv_at hl 1 rfl) ?_
        refine lv_iload hx hb dX5_firstGoesOn_65 (lv_at hl 0 rfl) ?_
        have hFc := m_free (C := (TW cy L tr a z_1 τ)) hP hS hA (fun _ _ h => h)
        refine va_calli (va_runV (As := [.int (R_get (a 3 li 0) (a 4 li) 0), .ref (L 15 (R_get (a 3 li 0) (a 4 li) 0).toNatClampNeg), .int (T_next a ((R_get (a 3 li 0) (a 4 li) 0).toNatClampNeg) ((a 2 li) 1))]) (rest := []) ⟨hx, hb, hml, hown, hts⟩ (c_Traffic_comesOnto l dC dI cy L tr a z_1 τ M Bd ((R_get (a 3 li 0) (a 4 li) 0).toNatClampNeg) (R_get (a 3 li 0) (a 4 li) 0) (T_next a ((R_get (a 3 li 0) (a 4 li) 0).toNatClampNeg) ((a 2 li) 1)) H.size hT hw hh1 hvn hvv hMB hB2) (tp_cwV 3 hts tw_303 tw_305 tw_10 tw_21 tw_306 rfl rfl (by decide +kernel) ⟨Nat.le_of_ble_eq_true rfl, Nat.le_of_ble_eq_true rfl⟩) ⟨m_blind, va_recv hK (hP.one (e := .inr (5, [.ref (L 1 0), .ref (L 20 0), .ref (L 21 0), .ref (L 22 0), .ref (L 23 0), va_rf tr, .int ((a 0 0) 0), .int ((a 0 0) 1), .int ((a 0 0) 2), .int ((a 0 0) 3), .int ((a 0 0) 4), .int ((a 0 0) 5)])) (tw_mem (f := 0) (i := 0) (by decide) rfl)) (ci := 5) (q0 := 0) rfl rfl, fun U hU hW => ⟨rfl, m_pay hK hP hE (fun _ _ h => h) U hU hW⟩⟩ rfl rfl hl.1 rfl (lv_room (Nat.le_of_ble_eq_true rfl)) dX5_firstGoesOn_67 ⟨(by show 0 + 0 + 0 + 0 + 0 + (cT tr) ≤ cT tr; omega), (by show 0 + 0 + 0 + 0 + 0 + (pB tr Bd) ≤ pB tr Bd; omega)⟩) hS (fun q _ h => hFc q h) hFc (fun r_6 u t H1 locs ht hvm hpo hB hz1 hk1 hS => ?_)
        obtain rfl := hpo
        obtain ⟨z_2, f_7, f_8, hP1⟩ := hB
        subst f_7
        rw [ht] at hP1
        have hP : mw (dC, dI) vwCl A (TW cy L tr ((T_comes a ((R_get (a 3 li 0) (a 4 li) 0).toNatClampNeg) (R_get (a 3 li 0) (a 4 li) 0) (T_next a ((R_get (a 3 li 0) (a 4 li) 0).toNatClampNeg) ((a 2 li) 1))).1) z_1 z_2) H1 := hP.join (fun _ _ h => h) hk1 hFc hP1 (fun _ _ h => Or.inl h)
        generalize H1 = H at hP hS ⊢
        clear hP1 hk1 hFc
        obtain ⟨b1, eb1⟩ : ∃ z : St, z = (T_comes a ((R_get (a 3 li 0) (a 4 li) 0).toNatClampNeg) (R_get (a 3 li 0) (a 4 li) 0) (T_next a ((R_get (a 3 li 0) (a 4 li) 0).toNatClampNeg) ((a 2 li) 1))).1 := ⟨_, rfl⟩
        rw [← eb1] at hP
        have hwc : Wf (M + 1) b1 := by rw [eb1]; exact T_comes_Wf hv (by omega) hw
        refine lv_if_ne (tgt := 75) hx hb dX5_firstGoesOn_70 (by decide) (fun c_4 => ?_) (fun c_4 => ?_)
        · refine lv_aload_n hx hb dX5_firstGoesOn_75 rfl (lv_at hl 4 rfl) ?_
          refine lv_iload hx hb dX5_firstGoesOn_76 (lv_at hl 0 rfl) ?_
          have hFc := m_free (C := (TW cy L tr b1 z_1 z_2)) hP hS hA (fun _ _ h => h)
          refine va_callv (va_runV (As := [.int (T_next a ((R_get (a 3 li 0) (a 4 li) 0).toNatClampNeg) ((a 2 li) 1))]) (rest := []) ⟨hx, hb, hml, hown, hts⟩ (c_Link_countTurn l dC dI cy L tr b1 z_1 z_2 li (T_next a ((R_get (a 3 li 0) (a 4 li) 0).toNatClampNeg) ((a 2 li) 1)) H.size f_8.1 hl0) (tp_cwV 1 hts tw_343 tw_344 tw_345 tw_23 tw_346 rfl rfl (by decide +kernel) ⟨Nat.le_of_ble_eq_true rfl, Nat.le_of_ble_eq_true rfl⟩) ⟨m_blind, va_recv hK (hP.one (e := .inr (1, [.int ((b1 2 li) 0), .int ((b1 2 li) 1), .int ((b1 2 li) 2), .int ((b1 2 li) 3), .int ((b1 2 li) 4), .int ((b1 2 li) 5), .int ((b1 2 li) 6), .int ((b1 2 li) 7), .int ((b1 2 li) 8), .ref (L 3 li), .ref (L 5 li), .int ((b1 2 li) 9), .int ((b1 2 li) 10), .int ((b1 2 li) 11), .int ((b1 2 li) 12), .ref (L 7 li)])) (tw_mem (f := 2) (i := li) hl0 rfl)) (ci := 1) (q0 := 0) rfl rfl, fun U hU hW => ⟨rfl, m_pay hK hP hE (fun _ _ h => h) U hU hW⟩⟩ rfl rfl hl.1 rfl (lv_room (Nat.le_of_ble_eq_true rfl)) dX5_firstGoesOn_78 ⟨(by show 0 + 0 + 0 + 0 + 0 + (cT tr) + 0 ≤ cT tr; omega), (by show 0 + 0 + 0 + 0 + 0 + (pB tr Bd) + 0 ≤ pB tr Bd; omega)⟩) hS (fun q _ h => hFc q h) hFc (fun u t H1 locs ht hvm hpo hB hz1 hk1 hS => ?_)
          have hP1 := hB
          rw [ht] at hP1
          have hP : mw (dC, dI) vwCl A (TW cy L tr (L_turn b1 li (T_next a ((R_get (a 3 li 0) (a 4 li) 0).toNatClampNeg) ((a 2 li) 1))) z_1 z_2) H1 := hP.join (fun _ _ h => h) hk1 hFc hP1 (fun _ _ h => Or.inl h)
          generalize H1 = H at hP hS ⊢
          clear hP1 hk1 hFc
          obtain ⟨b2, eb2⟩ : ∃ z : St, z = L_turn b1 li (T_next a ((R_get (a 3 li 0) (a 4 li) 0).toNatClampNeg) ((a 2 li) 1)) := ⟨_, rfl⟩
          rw [← eb2] at hP
          refine lv_aload_n hx hb dX5_firstGoesOn_81 rfl (lv_at hl 4 rfl) ?_
          have hFc := m_free (C := (TW cy L tr b2 z_1 z_2)) hP hS hA (fun _ _ h => h)
          refine va_callv (va_runV (As := []) (rest := []) ⟨hx, hb, hml, hown, hts⟩ (c_Link_letFirstGo l dC dI cy L tr b2 z_1 z_2 li H.size f_8.1 hl0 (by rw [eb2]; exact ((L_turn_Wf hwc).2.1 li hl0).2.2.2.2.1.2) (by rw [eb2]; exact ((L_turn_Wf hwc).2.1 li hl0).2.2.2.2.2.2)) (tp_cwV 0 hts tw_347 tw_348 tw_349 tw_23 tw_350 rfl rfl (by decide +kernel) ⟨Nat.le_of_ble_eq_true rfl, Nat.le_of_ble_eq_true rfl⟩) ⟨m_blind, va_recv hK (hP.one (e := .inr (1, [.int ((b2 2 li) 0), .int ((b2 2 li) 1), .int ((b2 2 li) 2), .int ((b2 2 li) 3), .int ((b2 2 li) 4), .int ((b2 2 li) 5), .int ((b2 2 li) 6), .int ((b2 2 li) 7), .int ((b2 2 li) 8), .ref (L 3 li), .ref (L 5 li), .int ((b2 2 li) 9), .int ((b2 2 li) 10), .int ((b2 2 li) 11), .int ((b2 2 li) 12), .ref (L 7 li)])) (tw_mem (f := 2) (i := li) hl0 rfl)) (ci := 1) (q0 := 0) rfl rfl, fun U hU hW => ⟨rfl, m_pay hK hP hE (fun _ _ h => h) U hU hW⟩⟩ rfl rfl hl.1 rfl (lv_room (Nat.le_of_ble_eq_true rfl)) dX5_firstGoesOn_82 ⟨(by show 0 + 0 + 0 + 0 + 0 + (cT tr) + 0 + 0 ≤ cT tr; omega), (by show 0 + 0 + 0 + 0 + 0 + (pB tr Bd) + 0 + 0 ≤ pB tr Bd; omega)⟩) hS (fun q _ h => hFc q h) hFc (fun u t H1 locs ht hvm hpo hB hz1 hk1 hS => ?_)
          have hP1 := hB
          rw [ht] at hP1
          have hP : mw (dC, dI) vwCl A (TW cy L tr (L_go b2 li) z_1 z_2) H1 := hP.join (fun _ _ h => h) hk1 hFc hP1 (fun _ _ h => Or.inl h)
          generalize H1 = H at hP hS ⊢
          clear hP1 hk1 hFc
          obtain ⟨b3, eb3⟩ : ∃ z : St, z = L_go b2 li := ⟨_, rfl⟩
          rw [← eb3] at hP
          refine lv_iconst (v := 1) hx hb dX5_firstGoesOn_85 (by decide) ?_
          refine W.widen (k := cT tr) (n := pB tr Bd) (by show 0 + 0 + 0 + 0 + 0 + (cT tr) + 0 + 0 + 0 ≤ cT tr; omega) (by show 0 + 0 + 0 + 0 + 0 + (pB tr Bd) + 0 + 0 + 0 ≤ pB tr Bd; omega) ?_
          have s_2 : b3 = (T_first a li).1 := by
            rw [eb3, eb2, eb1]
            unfold T_first
            rw [if_neg c_1]
            unfold T_firstV
            simp only [if_neg c_2, if_neg c_3, if_neg c_4]
          rw [s_2] at hP
          have g_3 : 1 = (T_first a li).2 := by
            unfold T_first
            rw [if_neg c_1]
            unfold T_firstV
            simp only [if_neg c_2, if_neg c_3, if_neg c_4]
          have g_4 : Hid L tr ((T_first a li).1) z_1 z_2 := by
            rw [← s_2]
            rw [eb3, eb2, eb1]
            exact Hid.same (T_comes_Wf hv (by omega) hw) (L_turn_sameR.trans L_go_sameR) (L_turn_sameT.trans L_go_sameT) f_8
          exact W.zret (v := 1) hx hb hr rfl (fun t ht hW => ⟨⟨1, 1, rfl, rfl, ⟨z_1, z_2, g_3, g_4, by show mw _ _ _ _ t.heap; rw [ht]; exact hP⟩⟩, hS.F ht⟩) hS.2.2 dX5_firstGoesOn_86
        · refine lv_iconst (v := 0) hx hb dX5_firstGoesOn_73 (by decide) ?_
          refine W.widen (k := cT tr) (n := pB tr Bd) (by show 0 + 0 + 0 + 0 + 0 + (cT tr) + 0 ≤ cT tr; omega) (by show 0 + 0 + 0 + 0 + 0 + (pB tr Bd) + 0 ≤ pB tr Bd; omega) ?_
          have s_3 : b1 = (T_first a li).1 := by
            rw [eb1]
            unfold T_first
            rw [if_neg c_1]
            unfold T_firstV
            simp only [if_neg c_2, if_neg c_3, if_pos c_4]
          rw [s_3] at hP
          have g_5 : 0 = (T_first a li).2 := by
            unfold T_first
            rw [if_neg c_1]
            unfold T_firstV
            simp only [if_neg c_2, if_neg c_3, if_pos c_4]
          have g_6 : Hid L tr ((T_first a li).1) z_1 z_2 := by
            rw [← s_3]
            rw [eb1]
            exact f_8
          exact W.zret (v := 0) hx hb hr rfl (fun t ht hW => ⟨⟨0, 0, rfl, rfl, ⟨z_1, z_2, g_5, g_6, by show mw _ _ _ _ t.heap; rw [ht]; exact hP⟩⟩, hS.F ht⟩) hS.2.2 dX5_firstGoesOn_74
      · refine lv_aload_n hx hb dX5_firstGoesOn_43 rfl (lv_at hl 2 rfl) ?_
        refine lv_aload_n hx hb dX5_firstGoesOn_44 rfl (lv_at hl 0 rfl) ?_
        have hFc := m_free (C := (TW cy L tr a κ τ)) hP hS hA (fun _ _ h => h)
        refine va_callv (va_runV (As := [.ref (L 15 (R_get (a 3 li 0) (a 4 li) 0).toNatClampNeg)]) (rest := []) ⟨hx, hb, hml, hown, hts⟩ (c_Traffic_arrive l dC dI cy L tr a κ τ M ((R_get (a 3 li 0) (a 4 li) 0).toNatClampNeg) H.size hT hw hv) (tp_cwV 1 hts tw_279 tw_281 tw_8 tw_21 tw_282 rfl rfl (by decide +kernel) ⟨Nat.le_of_ble_eq_true rfl, Nat.le_of_ble_eq_true rfl⟩) ⟨m_blind, va_recv hK (hP.one (e := .inr (5, [.ref (L 1 0), .ref (L 20 0), .ref (L 21 0), .ref (L 22 0), .ref (L 23 0), va_rf tr, .int ((a 0 0) 0), .int ((a 0 0) 1), .int ((a 0 0) 2), .int ((a 0 0) 3), .int ((a 0 0) 4), .int ((a 0 0) 5)])) (tw_mem (f := 0) (i := 0) (by decide) rfl)) (ci := 5) (q0 := 0) rfl rfl, fun U hU hW => ⟨rfl, m_pay hK hP hE (fun _ _ h => h) U hU hW⟩⟩ rfl rfl hl.1 rfl (lv_room (Nat.le_of_ble_eq_true rfl)) dX5_firstGoesOn_45 ⟨(by show 0 + 0 + 0 + 0 + 0 ≤ cT tr; omega), (by show 0 + 0 + 0 + 0 + 0 ≤ pB tr Bd; omega)⟩) hS (fun q _ h => hFc q h) hFc (fun u t H1 locs ht hvm hpo hB hz1 hk1 hS => ?_)
        have hP1 := hB
        rw [ht] at hP1
        have hP : mw (dC, dI) vwCl A (TW cy L tr (T_arrive a ((R_get (a 3 li 0) (a 4 li) 0).toNatClampNeg)) κ τ) H1 := hP.join (fun _ _ h => h) hk1 hFc hP1 (fun _ _ h => Or.inl h)
        generalize H1 = H at hP hS ⊢
        clear hP1 hk1 hFc
        obtain ⟨b1, eb1⟩ : ∃ z : St, z = T_arrive a ((R_get (a 3 li 0) (a 4 li) 0).toNatClampNeg) := ⟨_, rfl⟩
        rw [← eb1] at hP
        refine lv_goto (tgt := 81) hx hb dX5_firstGoesOn_48 (by decide) ?_
        refine lv_aload_n hx hb dX5_firstGoesOn_81 rfl (lv_at hl 3 rfl) ?_
        have hFc := m_free (C := (TW cy L tr b1 κ τ)) hP hS hA (fun _ _ h => h)
        refine va_callv (va_runV (As := []) (rest := []) ⟨hx, hb, hml, hown, hts⟩ (c_Link_letFirstGo l dC dI cy L tr b1 κ τ li H.size hT hl0 (by rw [eb1]; exact ((T_arrive_Wf hv hw).2.1 li hl0).2.2.2.2.1.2) (by rw [eb1]; exact ((T_arrive_Wf hv hw).2.1 li hl0).2.2.2.2.2.2)) (tp_cwV 0 hts tw_347 tw_348 tw_349 tw_23 tw_350 rfl rfl (by decide +kernel) ⟨Nat.le_of_ble_eq_true rfl, Nat.le_of_ble_eq_true rfl⟩) ⟨m_blind, va_recv hK (hP.one (e := .inr (1, [.int ((b1 2 li) 0), .int ((b1 2 li) 1), .int ((b1 2 li) 2), .int ((b1 2 li) 3), .int ((b1 2 li) 4), .int ((b1 2 li) 5), .int ((b1 2 li) 6), .int ((b1 2 li) 7), .int ((b1 2 li) 8), .ref (L 3 li), .ref (L 5 li), .int ((b1 2 li) 9), .int ((b1 2 li) 10), .int ((b1 2 li) 11), .int ((b1 2 li) 12), .ref (L 7 li)])) (tw_mem (f := 2) (i := li) hl0 rfl)) (ci := 1) (q0 := 0) rfl rfl, fun U hU hW => ⟨rfl, m_pay hK hP hE (fun _ _ h => h) U hU hW⟩⟩ rfl rfl hl.1 rfl (lv_room (Nat.le_of_ble_eq_true rfl)) dX5_firstGoesOn_82 ⟨(by show 0 + 0 + 0 + 0 + 0 + 0 ≤ cT tr; omega), (by show 0 + 0 + 0 + 0 + 0 + 0 ≤ pB tr Bd; omega)⟩) hS (fun q _ h => hFc q h) hFc (fun u t H1 locs ht hvm hpo hB hz1 hk1 hS => ?_)
        have hP1 := hB
        rw [ht] at hP1
        have hP : mw (dC, dI) vwCl A (TW cy L tr (L_go b1 li) κ τ) H1 := hP.join (fun _ _ h => h) hk1 hFc hP1 (fun _ _ h => Or.inl h)
        generalize H1 = H at hP hS ⊢
        clear hP1 hk1 hFc
        obtain ⟨b2, eb2⟩ : ∃ z : St, z = L_go b1 li := ⟨_, rfl⟩
        rw [← eb2] at hP
        refine lv_iconst (v := 1) hx hb dX5_firstGoesOn_85 (by decide) ?_
        refine W.widen (k := cT tr) (n := pB tr Bd) (by show 0 + 0 + 0 + 0 + 0 + 0 + 0 ≤ cT tr; omega) (by show 0 + 0 + 0 + 0 + 0 + 0 + 0 ≤ pB tr Bd; omega) ?_
        have s_4 : b2 = (T_first a li).1 := by
          rw [eb2, eb1]
          unfold T_first
          rw [if_neg c_1]
          unfold T_firstV
          simp only [if_neg c_2, if_pos c_3]
        rw [s_4] at hP
        have g_7 : 1 = (T_first a li).2 := by
          unfold T_first
          rw [if_neg c_1]
          unfold T_firstV
          simp only [if_neg c_2, if_pos c_3]
        have g_8 : Hid L tr ((T_first a li).1) κ τ := by
          rw [← s_4]
          rw [eb2, eb1]
          exact Hid.same hw (T_arrive_sameR.trans L_go_sameR) (T_arrive_sameT.trans L_go_sameT) hh
        exact W.zret (v := 1) hx hb hr rfl (fun t ht hW => ⟨⟨1, 1, rfl, rfl, ⟨κ, τ, g_7, g_8, by show mw _ _ _ _ t.heap; rw [ht]; exact hP⟩⟩, hS.F ht⟩) hS.2.2 dX5_firstGoesOn_86
    · refine lv_iconst (v := 0) hx hb dX5_firstGoesOn_30 (by decide) ?_
      refine W.widen (k := cT tr) (n := pB tr Bd) (by show 0 + 0 + 0 + 0 + 0 ≤ cT tr; omega) (by show 0 + 0 + 0 + 0 + 0 ≤ pB tr Bd; omega) ?_
      have s_5 : a = (T_first a li).1 := by
        unfold T_first
        rw [if_neg c_1]
        unfold T_firstV
        simp only [if_pos c_2]
      rw [s_5] at hP
      have g_9 : 0 = (T_first a li).2 := by
        unfold T_first
        rw [if_neg c_1]
        unfold T_firstV
        simp only [if_pos c_2]
      have g_10 : Hid L tr ((T_first a li).1) κ τ := by
        rw [← s_5]
        exact hh
      exact W.zret (v := 0) hx hb hr rfl (fun t ht hW => ⟨⟨0, 0, rfl, rfl, ⟨κ, τ, g_9, g_10, by show mw _ _ _ _ t.heap; rw [ht]; exact hP⟩⟩, hS.F ht⟩) hS.2.2 dX5_firstGoesOn_31

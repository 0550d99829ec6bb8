theorem tw_307 : Cond.methodLink RX5 215 yX2_find ∈ tp_all := tp_mem 307 (by decide +kernel) rfl
theorem tw_311 : Cond.code yX1_isOpen cX1_isOpen 1 (some .boolean) ∈ tp_all := tp_mem 311 (by decide +kernel) rfl
theorem tw_308 : Cond.methodLink RX5 218 yX1_isOpen ∈ tp_all := tp_mem 308 (by decide +kernel) rfl
theorem tw_309 : Cond.instanceMethod yX1_isOpen ∈ tp_all := tp_mem 309 (by decide +kernel) rfl
theorem tw_310 : Cond.selects RX1 yX1_isOpen yX1_isOpen ∈ tp_all := tp_mem 310 (by decide +kernel) rfl
theorem tw_315 : Cond.code yX7_goOnto cX7_goOnto 4 none ∈ tp_all := tp_mem 315 (by decide +kernel) rfl
theorem tw_312 : Cond.methodLink RX5 225 yX7_goOnto ∈ tp_all := tp_mem 312 (by decide +kernel) rfl
theorem tw_313 : Cond.instanceMethod yX7_goOnto ∈ tp_all := tp_mem 313 (by decide +kernel) rfl
theorem tw_314 : Cond.selects RX7 yX7_goOnto yX7_goOnto ∈ tp_all := tp_mem 314 (by decide +kernel) rfl
theorem tw_319 : Cond.code yX1_takeIn cX1_takeIn 3 none ∈ tp_all := tp_mem 319 (by decide +kernel) rfl
theorem tw_316 : Cond.methodLink RX5 232 yX1_takeIn ∈ tp_all := tp_mem 316 (by decide +kernel) rfl
theorem tw_317 : Cond.instanceMethod yX1_takeIn ∈ tp_all := tp_mem 317 (by decide +kernel) rfl
theorem tw_318 : Cond.selects RX1 yX1_takeIn yX1_takeIn ∈ tp_all := tp_mem 318 (by decide +kernel) rfl
theorem tw_883 : Cond.fieldLink RX5 49 "Turnpike$Traffic" "trails" "LTurnpike$Trails;" ∈ tp_all := tp_mem 883 (by decide +kernel) rfl
theorem tw_324 : Cond.code yX6_put cX6_put 6 none ∈ tp_all := tp_mem 324 (by decide +kernel) rfl
theorem tw_321 : Cond.methodLink RX5 239 yX6_put ∈ tp_all := tp_mem 321 (by decide +kernel) rfl
theorem tw_322 : Cond.instanceMethod yX6_put ∈ tp_all := tp_mem 322 (by decide +kernel) rfl
theorem tw_323 : Cond.selects RX6 yX6_put yX6_put ∈ tp_all := tp_mem 323 (by decide +kernel) rfl
theorem tw_26 : Cond.initialized RX6 ∈ tp_all := tp_mem 26 (by decide +kernel) rfl
theorem te_f6 {U : State} (h : tp_E U) : va_Nw (.fieldLinkNest "Turnpike$Traffic" 222 "Turnpike$Link" "time" "I" "Turnpike") U := h.1 _ (List.mem_of_getElem? (i := 6) rfl)
theorem te_f52 {U : State} (h : tp_E U) : va_Nw (.fieldLinkNest "Turnpike$Traffic" 229 "Turnpike$Vehicle" "end" "I" "Turnpike") U := h.1 _ (List.mem_of_getElem? (i := 52) rfl)
theorem te_f54 {U : State} (h : tp_E U) : va_Nw (.fieldLinkNest "Turnpike$Traffic" 236 "Turnpike$Vehicle" "gone" "I" "Turnpike") U := h.1 _ (List.mem_of_getElem? (i := 54) rfl)
theorem dX5_comesOnto_0 : decode cX5_comesOnto 0 = .ok (.aload_n 0, 1) := by decide +kernel
theorem dX5_comesOnto_1 : decode cX5_comesOnto 1 = .ok (.getfield 12, 3) := by decide +kernel
theorem dX5_comesOnto_4 : decode cX5_comesOnto 4 = .ok (.iload_n 3, 1) := by decide +kernel
theorem dX5_comesOnto_5 : decode cX5_comesOnto 5 = .ok (.invokevirtual 215, 3) := by decide +kernel
theorem dX5_comesOnto_8 : decode cX5_comesOnto 8 = .ok (.astore 4, 2) := by decide +kernel
theorem dX5_comesOnto_10 : decode cX5_comesOnto 10 = .ok (.aload 4, 2) := by decide +kernel
theorem dX5_comesOnto_12 : decode cX5_comesOnto 12 = .ok (.ifnull 11, 3) := by decide +kernel
theorem dX5_comesOnto_23 : decode cX5_comesOnto 23 = .ok (.iconst 0, 1) := by decide +kernel
theorem dX5_comesOnto_24 : decode cX5_comesOnto 24 = .ok (.ireturn, 1) := by decide +kernel
theorem dX5_comesOnto_15 : decode cX5_comesOnto 15 = .ok (.aload 4, 2) := by decide +kernel
theorem dX5_comesOnto_17 : decode cX5_comesOnto 17 = .ok (.invokevirtual 218, 3) := by decide +kernel
theorem dX5_comesOnto_20 : decode cX5_comesOnto 20 = .ok (.ifCond .ne 5, 3) := by decide +kernel
theorem dX5_comesOnto_25 : decode cX5_comesOnto 25 = .ok (.aload_n 2, 1) := by decide +kernel
theorem dX5_comesOnto_26 : decode cX5_comesOnto 26 = .ok (.iload_n 3, 1) := by decide +kernel
theorem dX5_comesOnto_27 : decode cX5_comesOnto 27 = .ok (.aload 4, 2) := by decide +kernel
theorem dX5_comesOnto_29 : decode cX5_comesOnto 29 = .ok (.getfield 222, 3) := by decide +kernel
theorem dX5_comesOnto_32 : decode cX5_comesOnto 32 = .ok (.aload_n 0, 1) := by decide +kernel
theorem dX5_comesOnto_33 : decode cX5_comesOnto 33 = .ok (.getfield 65, 3) := by decide +kernel
theorem dX5_comesOnto_36 : decode cX5_comesOnto 36 = .ok (.invokevirtual 225, 3) := by decide +kernel
theorem dX5_comesOnto_39 : decode cX5_comesOnto 39 = .ok (.aload 4, 2) := by decide +kernel
theorem dX5_comesOnto_41 : decode cX5_comesOnto 41 = .ok (.iload_n 1, 1) := by decide +kernel
theorem dX5_comesOnto_42 : decode cX5_comesOnto 42 = .ok (.aload_n 2, 1) := by decide +kernel
theorem dX5_comesOnto_43 : decode cX5_comesOnto 43 = .ok (.getfield 229, 3) := by decide +kernel
theorem dX5_comesOnto_46 : decode cX5_comesOnto 46 = .ok (.invokevirtual 232, 3) := by decide +kernel
theorem dX5_comesOnto_49 : decode cX5_comesOnto 49 = .ok (.aload_n 0, 1) := by decide +kernel
theorem dX5_comesOnto_50 : decode cX5_comesOnto 50 = .ok (.getfield 49, 3) := by decide +kernel
theorem dX5_comesOnto_53 : decode cX5_comesOnto 53 = .ok (.ifnull 18, 3) := by decide +kernel
theorem dX5_comesOnto_71 : decode cX5_comesOnto 71 = .ok (.iconst 1, 1) := by decide +kernel
theorem dX5_comesOnto_72 : decode cX5_comesOnto 72 = .ok (.ireturn, 1) := by decide +kernel
theorem dX5_comesOnto_56 : decode cX5_comesOnto 56 = .ok (.aload_n 0, 1) := by decide +kernel
theorem dX5_comesOnto_57 : decode cX5_comesOnto 57 = .ok (.getfield 49, 3) := by decide +kernel
theorem dX5_comesOnto_60 : decode cX5_comesOnto 60 = .ok (.iload_n 1, 1) := by decide +kernel
theorem dX5_comesOnto_61 : decode cX5_comesOnto 61 = .ok (.aload_n 2, 1) := by decide +kernel
theorem dX5_comesOnto_62 : decode cX5_comesOnto 62 = .ok (.getfield 236, 3) := by decide +kernel
theorem dX5_comesOnto_65 : decode cX5_comesOnto 65 = .ok (.iconst 1, 1) := by decide +kernel
theorem dX5_comesOnto_66 : decode cX5_comesOnto 66 = .ok (.isub, 1) := by decide +kernel
theorem dX5_comesOnto_67 : decode cX5_comesOnto 67 = .ok (.iload_n 3, 1) := by decide +kernel
theorem dX5_comesOnto_68 : decode cX5_comesOnto 68 = .ok (.invokevirtual 239, 3) := by decide +kernel
set_option maxRecDepth 100000 in
set_option maxHeartbeats 4000000 in
/-- Traffic.comesOnto -/
theorem c_Traffic_comesOnto (l : Launch) (dC : Nat → ClassId) (dI : Nat → Nat → Nat) (cy : Nat → ClassId) (L : Lay) (tr : Option Nat) (a : St) (κ : Kap) (τ : Tau) (M : Nat) (Bd : Nat) (v : Nat) (vn : Int32) (nx : Int32) (sz : Nat) (hT : TL L tr τ) (hw : Wf M a) (hh : Hid L tr a κ τ) (hvn : vn = nI v) (hvv : v < (a 0 0 4).toNatClampNeg) (hMB : M ≤ Bd) (hB2 : Bd < 30000) : Met l yX5_comesOnto (tp_w yX5_comesOnto cX5_comesOnto 5 (some .boolean)) ({ frames := 3, cells := cT tr, slots := pB tr Bd, locals := 65 }) (va_Pc [.ref (L 0 0), .int vn, .ref (L 15 v), .int nx] (mPre dC dI cy (TW cy L tr a κ τ) sz)) (va_Qi (fun (r u : Int32) => r = u) (fun (u : Int32) (t : State) => ∃ (τ2 : Tau), (u = (T_comes a v vn nx).2) ∧ (Hid L tr (T_comes a v vn nx).1 κ τ2) ∧ mw (dC, dI) vwCl (mA (TW cy L tr a κ τ) sz) (TW cy L tr ((T_comes a v vn nx).1) κ τ2) t.heap) (mA (TW cy L tr a κ τ) sz)) (cT tr) (pB tr Bd) (mA (TW cy L tr a κ τ) sz) := by
  refine Met.ofW (cc := cX5_comesOnto) (maxL := 5) (ret := (some .boolean)) (by decide) rfl ?_
  intro p e s m args below meth c s₁ B hml hv
  obtain ⟨rfl, hsz, hP, hK, hE⟩ := hv
  have hx := B.exec
  have hb := B.bytes
  have hr := B.returns
  have hts0 := atoms_spec (ws := tp_w yX5_comesOnto cX5_comesOnto 5 (some .boolean)) B.pre
  have hts : ∀ w ∈ tp_all, w.before _ s = true := fun w h => hts0 w (List.mem_cons_of_mem _ h)
  have hown : s.vm.findClass RX5 = some m.cls := findClass_of_methodNamed B.named
  have hlocks := B.notSynchronized
  subst hsz
  have hP := hP.self s.heap.size
  generalize hAe : mA (TW cy L tr a κ τ) s.heap.size = A at hP ⊢
  have hA : ∀ q : Nat, s.heap.size ≤ q → A q := fun q h => by rw [← hAe]; exact Or.inr h
  have hS : va_S A s.heap s.heap [] := va_S.rf
  have hl9 := lv_entry ([.ref (L 0 0), .int vn, .ref (L 15 v), .int nx]) (n := 5) (Nat.le_of_ble_eq_true rfl)
  rw [lg_entry_eq]
  generalize (lg_sl ([.ref (L 0 0), .int vn, .ref (L 15 v), .int nx]) ++ List.replicate (5 - (lg_sl ([.ref (L 0 0), .int vn, .ref (L 15 v), .int nx])).length) Slot.unset).toArray = ls at hl9 ⊢
  have hl : lv_has ls 5 [(0, .ref (L 0 0)), (1, .int vn), (2, .ref (L 15 v)), (3, .int nx)] := hl9
  refine lv_aload_n hx hb dX5_comesOnto_0 rfl (lv_at hl 0 rfl) ?_
  have hv : v < 200 := Nat.lt_of_lt_of_le hvv (in_le hw.1.2.2.2)
  refine va_get (D := (dC, dI)) (ws := [(L 0 0, .inr (5, [.ref (L 1 0), .ref (L 20 0), .ref (L 21 0), .ref (L 22 0), .ref (L 23 0), va_rf tr, .int ((a 0 0) 0), .int ((a 0 0) 1), .int ((a 0 0) 2), .int ((a 0 0) 3), .int ((a 0 0) 4), .int ((a 0 0) 5)]))]) (ci := 5) (v := .ref (L 1 0)) (C := RX5) (T := TX5) (N := 12) hx hb hts tl_X5 hown hK (hP.one (tw_mem (f := 0) (i := 0) (by decide) rfl)) 0 rfl rfl 0 (by decide) (hts _ tw_873) (fun _ h9 => h9) rfl dX5_comesOnto_1 ?_
  refine lv_iload_n hx hb dX5_comesOnto_4 rfl (lv_at hl 3 rfl) ?_
  by_cases c_1 : G_no a nx
  · have hFc := m_free (C := (TW cy L tr a κ τ)) hP hS hA (fun _ _ h => h)
    refine va_callq (va_runV (As := [.int nx]) (rest := []) ⟨hx, hb, hml, hown, hts⟩ (c_Roads_find_none l dC dI cy L tr a κ τ nx s.heap.size hT c_1) (tp_cwV 1 hts tw_307 tw_128 tw_129 tw_22 tw_130 rfl rfl (by decide +kernel) ⟨Nat.le_of_ble_eq_true rfl, Nat.le_of_ble_eq_true rfl⟩) ⟨m_blind, va_recv hK (hP.one (e := .inr (2, [.ref (L 24 0), .int ((a 1 0) 0), .ref (L 25 0), .int κ.1])) (tw_mem (f := 1) (i := 0) (by decide) rfl)) (ci := 2) (q0 := 0) rfl rfl, fun U hU hW => ⟨rfl, m_pay hK hP hE (fun _ _ h => h) U hU hW⟩⟩ rfl rfl hl.1 rfl (lv_room (Nat.le_of_ble_eq_true rfl)) dX5_comesOnto_5 ⟨(by show 0 + 0 ≤ cT tr; omega), (by show 0 + 0 ≤ pB tr Bd; omega)⟩) hS (fun q _ h => hFc q h) hFc (fun r_1 u t H1 locs ht hvm hpo hB hz1 hk1 hS => ?_)
    obtain rfl := hpo
    obtain ⟨f_1, hP1⟩ := hB
    subst f_1
    rw [ht] at hP1
    have hP : mw (dC, dI) vwCl A (TW cy L tr a κ τ) H1 := hP.join (fun _ _ h => h) hk1 hFc hP1 (fun _ _ h => Or.inl h)
    generalize H1 = H at hP hS ⊢
    clear hP1 hk1 hFc
    refine W.eq (g2 := F0 m 8 ls [.null]) rfl ?_
    refine lv_astoreN (lv' := [(4, .null), (0, .ref (L 0 0)), (1, .int vn), (2, .ref (L 15 v)), (3, .int nx)]) hx hb dX5_comesOnto_8 hl (by decide) rfl (fun ls hl => ?_)
    refine lv_aloadN hx hb dX5_comesOnto_10 (lv_at hl 0 rfl) ?_
    refine lv_ifnullN (tgt := 23) hx hb dX5_comesOnto_12 (by decide) ?_
    refine lv_iconst (v := 0) hx hb dX5_comesOnto_23 (by decide) ?_
    refine W.widen (k := cT tr) (n := pB tr Bd) (by show 0 + 0 + 0 ≤ cT tr; omega) (by show 0 + 0 + 0 ≤ pB tr Bd; omega) ?_
    have s_1 : a = (T_comes a v vn nx).1 := by
      simp only [T_comes, if_pos c_1]
    rw [s_1] at hP
    have g_1 : 0 = (T_comes a v vn nx).2 := by
      simp only [T_comes, if_pos c_1]
    have g_2 : Hid L tr (T_comes a v vn nx).1 κ τ := by
      rw [← s_1]
      exact hh
    exact W.zret (v := 0) hx hb hr rfl (fun t ht hW => ⟨⟨0, 0, rfl, rfl, ⟨τ, g_1, g_2, by show mw _ _ _ _ t.heap; rw [ht]; exact hP⟩⟩, hS.F ht⟩) hS.2.2 dX5_comesOnto_24
  · have hFc := m_free (C := (TW cy L tr a κ τ)) hP hS hA (fun _ _ h => h)
    refine va_callr (va_runV (As := [.int nx]) (rest := []) ⟨hx, hb, hml, hown, hts⟩ (c_Roads_find_some l dC dI cy L tr a κ τ M nx s.heap.size hT hw c_1) (tp_cwV 1 hts tw_307 tw_128 tw_129 tw_22 tw_130 rfl rfl (by decide +kernel) ⟨Nat.le_of_ble_eq_true rfl, Nat.le_of_ble_eq_true rfl⟩) ⟨m_blind, va_recv hK (hP.one (e := .inr (2, [.ref (L 24 0), .int ((a 1 0) 0), .ref (L 25 0), .int κ.1])) (tw_mem (f := 1) (i := 0) (by decide) rfl)) (ci := 2) (q0 := 0) rfl rfl, fun U hU hW => ⟨rfl, m_pay hK hP hE (fun _ _ h => h) U hU hW⟩⟩ rfl rfl hl.1 rfl (lv_room (Nat.le_of_ble_eq_true rfl)) dX5_comesOnto_5 ⟨(by show 0 + 0 ≤ cT tr; omega), (by show 0 + 0 ≤ pB tr Bd; omega)⟩) hS (fun q _ h => hFc q h) hFc (fun u r_2 t H1 locs ht hvm hpo hB hz1 hk1 hS => ?_)
    obtain ⟨f_2, hP1⟩ := hB
    subst f_2
    rw [ht] at hP1
    have hP : mw (dC, dI) vwCl A (TW cy L tr a κ τ) H1 := hP.join (fun _ _ h => h) hk1 hFc hP1 (fun _ _ h => Or.inl h)
    generalize H1 = H at hP hS ⊢
    clear hP1 hk1 hFc
    have hln : nx.toNatClampNeg < 24 := m_lt (n := 24) (fun h => c_1 (Or.inl h)) (fun h => c_1 (Or.inr h)) hw.1.1.2
    refine lv_astore (lv' := [(4, .ref (L 2 nx.toNatClampNeg)), (0, .ref (L 0 0)), (1, .int vn), (2, .ref (L 15 v)), (3, .int nx)]) hx hb dX5_comesOnto_8 hl (by decide) rfl (fun ls hl => ?_)
    refine lv_aload hx hb dX5_comesOnto_10 (lv_at hl 0 rfl) ?_
    refine lv_ifnull hx hb dX5_comesOnto_12 ?_
    refine lv_aload hx hb dX5_comesOnto_15 (lv_at hl 0 rfl) ?_
    have hFc := m_free (C := (TW cy L tr a κ τ)) hP hS hA (fun _ _ h => h)
    refine va_calli (va_runV (As := []) (rest := []) ⟨hx, hb, hml, hown, hts⟩ (c_Link_isOpen l dC dI cy L tr a κ τ nx.toNatClampNeg H.size hT hln) (tp_cwV 0 hts tw_308 tw_309 tw_310 tw_23 tw_311 rfl rfl (by decide +kernel) ⟨Nat.le_of_ble_eq_true rfl, Nat.le_of_ble_eq_true rfl⟩) ⟨m_blind, va_recv hK (hP.one (e := .inr (1, [.int ((a 2 nx.toNatClampNeg) 0), .int ((a 2 nx.toNatClampNeg) 1), .int ((a 2 nx.toNatClampNeg) 2), .int ((a 2 nx.toNatClampNeg) 3), .int ((a 2 nx.toNatClampNeg) 4), .int ((a 2 nx.toNatClampNeg) 5), .int ((a 2 nx.toNatClampNeg) 6), .int ((a 2 nx.toNatClampNeg) 7), .int ((a 2 nx.toNatClampNeg) 8), .ref (L 3 nx.toNatClampNeg), .ref (L 5 nx.toNatClampNeg), .int ((a 2 nx.toNatClampNeg) 9), .int ((a 2 nx.toNatClampNeg) 10), .int ((a 2 nx.toNatClampNeg) 11), .int ((a 2 nx.toNatClampNeg) 12), .ref (L 7 nx.toNatClampNeg)])) (tw_mem (f := 2) (i := nx.toNatClampNeg) hln rfl)) (ci := 1) (q0 := 0) rfl rfl, fun U hU hW => ⟨rfl, m_pay hK hP hE (fun _ _ h => h) U hU hW⟩⟩ rfl rfl hl.1 rfl (lv_room (Nat.le_of_ble_eq_true rfl)) dX5_comesOnto_17 ⟨(by show 0 + 0 + 0 ≤ cT tr; omega), (by show 0 + 0 + 0 ≤ pB tr Bd; omega)⟩) hS (fun q _ h => hFc q h) hFc (fun r_3 u t H1 locs ht hvm hpo hB hz1 hk1 hS => ?_)
    obtain rfl := hpo
    obtain ⟨f_3, hP1⟩ := hB
    subst f_3
    rw [ht] at hP1
    have hP : mw (dC, dI) vwCl A (TW cy L tr a κ τ) H1 := hP.join (fun _ _ h => h) hk1 hFc hP1 (fun _ _ h => Or.inl h)
    generalize H1 = H at hP hS ⊢
    clear hP1 hk1 hFc
    refine lv_if_ne (tgt := 25) hx hb dX5_comesOnto_20 (by decide) (fun c_2 => ?_) (fun c_2 => ?_)
    · refine lv_aload_n hx hb dX5_comesOnto_25 rfl (lv_at hl 3 rfl) ?_
      refine lv_iload_n hx hb dX5_comesOnto_26 rfl (lv_at hl 4 rfl) ?_
      refine lv_aload hx hb dX5_comesOnto_27 (lv_at hl 0 rfl) ?_
      refine va_getN (D := (dC, dI)) (ws := [(L 2 nx.toNatClampNeg, .inr (1, [.int ((a 2 nx.toNatClampNeg) 0), .int ((a 2 nx.toNatClampNeg) 1), .int ((a 2 nx.toNatClampNeg) 2), .int ((a 2 nx.toNatClampNeg) 3), .int ((a 2 nx.toNatClampNeg) 4), .int ((a 2 nx.toNatClampNeg) 5), .int ((a 2 nx.toNatClampNeg) 6), .int ((a 2 nx.toNatClampNeg) 7), .int ((a 2 nx.toNatClampNeg) 8), .ref (L 3 nx.toNatClampNeg), .ref (L 5 nx.toNatClampNeg), .int ((a 2 nx.toNatClampNeg) 9), .int ((a 2 nx.toNatClampNeg) 10), .int ((a 2 nx.toNatClampNeg) 11), .int ((a 2 nx.toNatClampNeg) 12), .ref (L 7 nx.toNatClampNeg)]))]) (ci := 1) (v := .int ((a 2 nx.toNatClampNeg) 2)) (C := RX1) (T := TX1) (N := 16) hx hb hts tl_X1 hown hK (hP.one (tw_mem (f := 2) (i := nx.toNatClampNeg) hln rfl)) 0 rfl rfl 2 (by decide) (va_Nw.use rfl (te_f6 hE)) (fun _ h9 => h9) rfl dX5_comesOnto_29 ?_
      refine lv_aload_n hx hb dX5_comesOnto_32 rfl (lv_at hl 1 rfl) ?_
      refine va_get (D := (dC, dI)) (ws := [(L 0 0, .inr (5, [.ref (L 1 0), .ref (L 20 0), .ref (L 21 0), .ref (L 22 0), .ref (L 23 0), va_rf tr, .int ((a 0 0) 0), .int ((a 0 0) 1), .int ((a 0 0) 2), .int ((a 0 0) 3), .int ((a 0 0) 4), .int ((a 0 0) 5)]))]) (ci := 5) (v := .int ((a 0 0) 0)) (C := RX5) (T := TX5) (N := 12) hx hb hts tl_X5 hown hK (hP.one (tw_mem (f := 0) (i := 0) (by decide) rfl)) 0 rfl rfl 6 (by decide) (hts _ tw_885) (fun _ h9 => h9) rfl dX5_comesOnto_33 ?_
      have hFc := m_free (C := (TW cy L tr a κ τ)) hP hS hA (fun _ _ h => h)
      refine va_callv (va_runV (As := [.int nx, .int ((a 2 nx.toNatClampNeg) 2), .int ((a 0 0) 0)]) (rest := []) ⟨hx, hb, hml, hown, hts⟩ (c_Vehicle_goOnto l dC dI cy L tr a κ τ v nx ((a 2 nx.toNatClampNeg) 2) ((a 0 0) 0) H.size hT hv) (tp_cwV 3 hts tw_312 tw_313 tw_314 tw_29 tw_315 rfl rfl (by decide +kernel) ⟨Nat.le_of_ble_eq_true rfl, Nat.le_of_ble_eq_true rfl⟩) ⟨m_blind, va_recv hK (hP.one (e := .inr (7, [.int ((a 15 v) 0), .int ((a 15 v) 1), .int ((a 15 v) 2), .int ((a 15 v) 3), .int ((a 15 v) 4), .int ((a 15 v) 5), .int ((a 15 v) 6), .int ((a 15 v) 7), .int ((a 15 v) 8), .int ((a 15 v) 9), .int ((a 15 v) 10), .int ((a 15 v) 11), .ref (L 16 v)])) (tw_mem (f := 15) (i := v) hv rfl)) (ci := 7) (q0 := 0) rfl rfl, fun U hU hW => ⟨rfl, m_pay hK hP hE (fun _ _ h => h) U hU hW⟩⟩ rfl rfl hl.1 rfl (lv_room (Nat.le_of_ble_eq_true rfl)) dX5_comesOnto_36 ⟨(by show 0 + 0 + 0 + 0 ≤ cT tr; omega), (by show 0 + 0 + 0 + 0 ≤ pB tr Bd; omega)⟩) hS (fun q _ h => hFc q h) hFc (fun u t H1 locs ht hvm hpo hB hz1 hk1 hS => ?_)
      have hP1 := hB
      rw [ht] at hP1
      have hP : mw (dC, dI) vwCl A (TW cy L tr (V_onto a v nx ((a 2 nx.toNatClampNeg) 2) ((a 0 0) 0)) κ τ) H1 := hP.join (fun _ _ h => h) hk1 hFc hP1 (fun _ _ h => Or.inl h)
      generalize H1 = H at hP hS ⊢
      clear hP1 hk1 hFc
      obtain ⟨b1, eb1⟩ : ∃ z : St, z = V_onto a v nx ((a 2 nx.toNatClampNeg) 2) ((a 0 0) 0) := ⟨_, rfl⟩
      rw [← eb1] at hP
      refine lv_aload hx hb dX5_comesOnto_39 (lv_at hl 0 rfl) ?_
      refine lv_iload_n hx hb dX5_comesOnto_41 rfl (lv_at hl 2 rfl) ?_
      refine lv_aload_n hx hb dX5_comesOnto_42 rfl (lv_at hl 3 rfl) ?_
      refine va_getN (D := (dC, dI)) (ws := [(L 15 v, .inr (7, [.int ((b1 15 v) 0), .int ((b1 15 v) 1), .int ((b1 15 v) 2), .int ((b1 15 v) 3), .int ((b1 15 v) 4), .int ((b1 15 v) 5), .int ((b1 15 v) 6), .int ((b1 15 v) 7), .int ((b1 15 v) 8), .int ((b1 15 v) 9), .int ((b1 15 v) 10), .int ((b1 15 v) 11), .ref (L 16 v)]))]) (ci := 7) (v := .int ((b1 15 v) 6)) (C := RX7) (T := TX7) (N := 13) hx hb hts tl_X7 hown hK (hP.one (tw_mem (f := 15) (i := v) hv rfl)) 0 rfl rfl 6 (by decide) (va_Nw.use rfl (te_f52 hE)) (fun _ h9 => h9) rfl dX5_comesOnto_43 ?_
      have hFc := m_free (C := (TW cy L tr b1 κ τ)) hP hS hA (fun _ _ h => h)
      refine va_callv (va_runV (As := [.int vn, .int ((b1 15 v) 6)]) (rest := []) ⟨hx, hb, hml, hown, hts⟩ (c_Link_takeIn l dC dI cy L tr b1 κ τ nx.toNatClampNeg vn ((b1 15 v) 6) H.size hT hln (by rw [eb1]; show 0 ≤ (T_on1 a v nx 3 nx.toNatClampNeg 0).toInt; rw [T_on1_off (by decide)]; exact (hw.2.1 _ hln).2.2.2.2.1.1) (by rw [eb1]; show 0 ≤ (T_on1 a v nx 5 nx.toNatClampNeg 0).toInt; rw [T_on1_off (by decide)]; exact (hw.2.1 _ hln).2.2.2.2.2.1)) (tp_cwV 2 hts tw_316 tw_317 tw_318 tw_23 tw_319 rfl rfl (by decide +kernel) ⟨Nat.le_of_ble_eq_true rfl, Nat.le_of_ble_eq_true rfl⟩) ⟨m_blind, va_recv hK (hP.one (e := .inr (1, [.int ((b1 2 nx.toNatClampNeg) 0), .int ((b1 2 nx.toNatClampNeg) 1), .int ((b1 2 nx.toNatClampNeg) 2), .int ((b1 2 nx.toNatClampNeg) 3), .int ((b1 2 nx.toNatClampNeg) 4), .int ((b1 2 nx.toNatClampNeg) 5), .int ((b1 2 nx.toNatClampNeg) 6), .int ((b1 2 nx.toNatClampNeg) 7), .int ((b1 2 nx.toNatClampNeg) 8), .ref (L 3 nx.toNatClampNeg), .ref (L 5 nx.toNatClampNeg), .int ((b1 2 nx.toNatClampNeg) 9), .int ((b1 2 nx.toNatClampNeg) 10), .int ((b1 2 nx.toNatClampNeg) 11), .int ((b1 2 nx.toNatClampNeg) 12), .ref (L 7 nx.toNatClampNeg)])) (tw_mem (f := 2) (i := nx.toNatClampNeg) hln rfl)) (ci := 1) (q0 := 0) rfl rfl, fun U hU hW => ⟨rfl, m_pay hK hP hE (fun _ _ h => h) U hU hW⟩⟩ rfl rfl hl.1 rfl (lv_room (Nat.le_of_ble_eq_true rfl)) dX5_comesOnto_46 ⟨(by show 0 + 0 + 0 + 0 + 0 ≤ cT tr; omega), (by show 0 + 0 + 0 + 0 + 0 ≤ pB tr Bd; omega)⟩) hS (fun q _ h => hFc q h) hFc (fun u t H1 locs ht hvm hpo hB hz1 hk1 hS => ?_)
      have hP1 := hB
      rw [ht] at hP1
      have hP : mw (dC, dI) vwCl A (TW cy L tr (L_take b1 nx.toNatClampNeg vn ((b1 15 v) 6)) κ τ) H1 := hP.join (fun _ _ h => h) hk1 hFc hP1 (fun _ _ h => Or.inl h)
      generalize H1 = H at hP hS ⊢
      clear hP1 hk1 hFc
      obtain ⟨b2, eb2⟩ : ∃ z : St, z = L_take b1 nx.toNatClampNeg vn ((b1 15 v) 6) := ⟨_, rfl⟩
      rw [← eb2] at hP
      refine lv_aload_n hx hb dX5_comesOnto_49 rfl (lv_at hl 1 rfl) ?_
      refine va_get (D := (dC, dI)) (ws := [(L 0 0, .inr (5, [.ref (L 1 0), .ref (L 20 0), .ref (L 21 0), .ref (L 22 0), .ref (L 23 0), va_rf tr, .int ((b2 0 0) 0), .int ((b2 0 0) 1), .int ((b2 0 0) 2), .int ((b2 0 0) 3), .int ((b2 0 0) 4), .int ((b2 0 0) 5)]))]) (ci := 5) (v := va_rf tr) (C := RX5) (T := TX5) (N := 12) hx hb hts tl_X5 hown hK (hP.one (tw_mem (f := 0) (i := 0) (by decide) rfl)) 0 rfl rfl 5 (by decide) (hts _ tw_883) (fun _ h9 => h9) rfl dX5_comesOnto_50 ?_
      cases tr with
      | none =>
        have hc0 : cT none = 0 := rfl
        have hc1 : pB none Bd = 0 := pB_n
        refine W.eq (g2 := F0 m 53 ls [.null]) rfl ?_
        refine lv_ifnullN (tgt := 71) hx hb dX5_comesOnto_53 (by decide) ?_
        have e8 : T_on3 b2 v nx = T_onto a v vn nx := by rw [eb2, eb1]; rfl
        have hP : mw (dC, dI) vwCl A (TW cy L none (T_onto a v vn nx) κ τ) H := hP.sub (by rw [← e8]; exact tw_ghost)
        have hh2 : Hid L none (T_onto a v vn nx) κ τ := ⟨hh.1, CV.same T_onto_sameR (in_le hw.1.1) hh.2.1, fun h => absurd rfl h⟩
        refine lv_iconst (v := 1) hx hb dX5_comesOnto_71 (by decide) ?_
        refine W.widen (k := cT none) (n := pB none Bd) (by show 0 + 0 + 0 + 0 + 0 + 0 ≤ cT none; omega) (by show 0 + 0 + 0 + 0 + 0 + 0 ≤ pB none Bd; omega) ?_
        have s_2 : T_onto a v vn nx = (T_comes a v vn nx).1 := by
          simp only [T_comes, if_neg c_1, if_neg c_2]
        rw [s_2] at hP
        have g_3 : 1 = (T_comes a v vn nx).2 := by
          simp only [T_comes, if_neg c_1, if_neg c_2]
        have g_4 : Hid L none (T_comes a v vn nx).1 κ τ := by
          rw [← s_2]
          exact hh2
        exact W.zret (v := 1) hx hb hr rfl (fun t ht hW => ⟨⟨1, 1, rfl, rfl, ⟨τ, g_3, g_4, by show mw _ _ _ _ t.heap; rw [ht]; exact hP⟩⟩, hS.F ht⟩) hS.2.2 dX5_comesOnto_72
      | some t0 =>
        have hc0 : cT (some t0) = 1 := rfl
        have hc1 : pB (some t0) Bd = 2 * (Bd / 12) + 1 := pB_s
        refine W.eq (g2 := F0 m 53 ls [.ref t0]) rfl ?_
        refine lv_ifnull hx hb dX5_comesOnto_53 ?_
        refine lv_aload_n hx hb dX5_comesOnto_56 rfl (lv_at hl 1 rfl) ?_
        refine va_get (D := (dC, dI)) (ws := [(L 0 0, .inr (5, [.ref (L 1 0), .ref (L 20 0), .ref (L 21 0), .ref (L 22 0), .ref (L 23 0), .ref t0, .int ((b2 0 0) 0), .int ((b2 0 0) 1), .int ((b2 0 0) 2), .int ((b2 0 0) 3), .int ((b2 0 0) 4), .int ((b2 0 0) 5)]))]) (ci := 5) (v := .ref t0) (C := RX5) (T := TX5) (N := 12) hx hb hts tl_X5 hown hK (hP.one (tw_mem (f := 0) (i := 0) (by decide) rfl)) 0 rfl rfl 5 (by decide) (hts _ tw_883) (fun _ h9 => h9) rfl dX5_comesOnto_57 ?_
        refine lv_iload_n hx hb dX5_comesOnto_60 rfl (lv_at hl 2 rfl) ?_
        refine lv_aload_n hx hb dX5_comesOnto_61 rfl (lv_at hl 3 rfl) ?_
        refine va_getN (D := (dC, dI)) (ws := [(L 15 v, .inr (7, [.int ((b2 15 v) 0), .int ((b2 15 v) 1), .int ((b2 15 v) 2), .int ((b2 15 v) 3), .int ((b2 15 v) 4), .int ((b2 15 v) 5), .int ((b2 15 v) 6), .int ((b2 15 v) 7), .int ((b2 15 v) 8), .int ((b2 15 v) 9), .int ((b2 15 v) 10), .int ((b2 15 v) 11), .ref (L 16 v)]))]) (ci := 7) (v := .int ((b2 15 v) 7)) (C := RX7) (T := TX7) (N := 13) hx hb hts tl_X7 hown hK (hP.one (tw_mem (f := 15) (i := v) hv rfl)) 0 rfl rfl 7 (by decide) (va_Nw.use rfl (te_f54 hE)) (fun _ h9 => h9) rfl dX5_comesOnto_62 ?_
        refine lv_iconst (v := 1) hx hb dX5_comesOnto_65 (by decide) ?_
        refine lv_isub hx hb dX5_comesOnto_66 ?_
        refine lv_iload_n hx hb dX5_comesOnto_67 rfl (lv_at hl 4 rfl) ?_
        have h7 := (hw.2.2.2.2 v hv).2.2
        have hgo : b2 15 v 7 - 1 = nI (a 15 v 7).toNatClampNeg := by
          rw [eb2, L_take_off (by decide) (by decide) (by decide) (by decide) (by decide), eb1]
          show T_on1 a v nx 15 v 7 - 1 = _
          rw [T_on1_15]
          show a 15 v 7 + 1 - 1 = _
          rw [Int32.add_sub_cancel]
          exact in_nI h7
        have hgM : (a 15 v 7).toNatClampNeg ≤ Bd := Nat.le_trans (in_le h7) hMB
        have hFc := m_free (C := (TW cy L ((some t0)) b2 κ τ)) hP hS hA (fun _ _ h => h)
        refine va_callv (va_runV (As := [.int vn, .int (((b2 15 v) 7) - 1), .int nx]) (rest := []) ⟨hx, hb, hml, hown, hts⟩ (c_Trails_put l dC dI cy L t0 b2 κ τ v vn (((b2 15 v) 7) - 1) nx nx.toNatClampNeg Bd ((fun u => (a 15 u 7).toNatClampNeg)) ((fun u j => (a 30 u j).toNatClampNeg)) H.size hT hv hvn hgo hgM hB2 (m_nI (fun h => c_1 (Or.inl h))) (by omega) (hh.2.2 (by intro h; cases h)).2) (tp_cwV 3 hts tw_321 tw_322 tw_323 tw_26 tw_324 rfl rfl (by decide +kernel) ⟨Nat.le_of_ble_eq_true rfl, Nat.le_of_ble_eq_true rfl⟩) ⟨m_blind, va_recv hK (hP.one (e := .inr (6, [.ref τ.1])) tr_t) (ci := 6) (q0 := 0) rfl rfl, fun U hU hW => ⟨rfl, m_pay hK hP hE (fun _ _ h => h) U hU hW⟩⟩ rfl rfl hl.1 rfl (lv_room (Nat.le_of_ble_eq_true rfl)) dX5_comesOnto_68 ⟨(by show 0 + 0 + 0 + 0 + 0 + 1 ≤ cT (some t0); omega), (by show 0 + 0 + 0 + 0 + 0 + (2 * (Bd / 12) + 1) ≤ pB (some t0) Bd; omega)⟩) hS (fun q _ h => hFc q h) hFc (fun u t H1 locs ht hvm hpo hB hz1 hk1 hS => ?_)
        obtain ⟨z_1, f_4, f_5, hP1⟩ := hB
        rw [ht] at hP1
        have hP : mw (dC, dI) vwCl A (TW cy L ((some t0)) b2 κ z_1) H1 := hP.join (fun _ _ h => h) hk1 hFc hP1 (fun _ _ h => Or.inl h)
        generalize H1 = H at hP hS ⊢
        clear hP1 hk1 hFc
        have e8 : T_on3 b2 v nx = T_onto a v vn nx := by rw [eb2, eb1]; rfl
        have hP : mw (dC, dI) vwCl A (TW cy L ((some t0)) (T_onto a v vn nx) κ z_1) H := hP.sub (by rw [← e8]; exact tw_ghost)
        have hh2 : Hid L (some t0) (T_onto a v vn nx) κ z_1 := ⟨f_4, CV.same T_onto_sameR (in_le hw.1.1) hh.2.1, T_onto_TR hw (by omega) hv hvv rfl hh.2.2 f_5⟩
        refine lv_iconst (v := 1) hx hb dX5_comesOnto_71 (by decide) ?_
        refine W.widen (k := cT (some t0)) (n := pB (some t0) Bd) (by show 0 + 0 + 0 + 0 + 0 + 1 + 0 ≤ cT (some t0); omega) (by show 0 + 0 + 0 + 0 + 0 + (2 * (Bd / 12) + 1) + 0 ≤ pB (some t0) Bd; omega) ?_
        have s_3 : T_onto a v vn nx = (T_comes a v vn nx).1 := by
          simp only [T_comes, if_neg c_1, if_neg c_2]
        rw [s_3] at hP
        have g_5 : 1 = (T_comes a v vn nx).2 := by
          simp only [T_comes, if_neg c_1, if_neg c_2]
        have g_6 : Hid L ((some t0)) (T_comes a v vn nx).1 κ z_1 := by
          rw [← s_3]
          exact hh2
        exact W.zret (v := 1) hx hb hr rfl (fun t ht hW => ⟨⟨1, 1, rfl, rfl, ⟨z_1, g_5, g_6, by show mw _ _ _ _ t.heap; rw [ht]; exact hP⟩⟩, hS.F ht⟩) hS.2.2 dX5_comesOnto_72
    · refine lv_iconst (v := 0) hx hb dX5_comesOnto_23 (by decide) ?_
      refine W.widen (k := cT tr) (n := pB tr Bd) (by show 0 + 0 + 0 + 0 ≤ cT tr; omega) (by show 0 + 0 + 0 + 0 ≤ pB tr Bd; omega) ?_
      have s_4 : a = (T_comes a v vn nx).1 := by
        simp only [T_comes, if_neg c_1, if_pos c_2]
      rw [s_4] at hP
      have g_7 : 0 = (T_comes a v vn nx).2 := by
        simp only [T_comes, if_neg c_1, if_pos c_2]
      have g_8 : Hid L tr (T_comes a v vn nx).1 κ τ := by
        rw [← s_4]
        exact hh
      exact W.zret (v := 0) hx hb hr rfl (fun t ht hW => ⟨⟨0, 0, rfl, rfl, ⟨τ, g_7, g_8, by show mw _ _ _ _ t.heap; rw [ht]; exact hP⟩⟩, hS.F ht⟩) hS.2.2 dX5_comesOnto_24

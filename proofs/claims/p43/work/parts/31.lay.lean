theorem te_f5 {U : State} (h : tp_E U) : va_Nw (.fieldLinkNest "Turnpike$Roads" 33 "Turnpike$Link" "time" "I" "Turnpike") U := h.1 _ (List.mem_of_getElem? (i := 5) rfl)
theorem te_f7 {U : State} (h : tp_E U) : va_Nw (.fieldLinkNest "Turnpike$Roads" 36 "Turnpike$Link" "room" "I" "Turnpike") U := h.1 _ (List.mem_of_getElem? (i := 7) rfl)
theorem te_f8 {U : State} (h : tp_E U) : va_Nw (.fieldLinkNest "Turnpike$Roads" 39 "Turnpike$Link" "firstRate" "I" "Turnpike") U := h.1 _ (List.mem_of_getElem? (i := 8) rfl)
theorem te_f9 {U : State} (h : tp_E U) : va_Nw (.fieldLinkNest "Turnpike$Roads" 42 "Turnpike$Link" "rate" "I" "Turnpike") U := h.1 _ (List.mem_of_getElem? (i := 9) rfl)
theorem dX2_lay_0 : decode cX2_lay 0 = .ok (.aload_n 0, 1) := by decide +kernel
theorem dX2_lay_1 : decode cX2_lay 1 = .ok (.getfield 23, 3) := by decide +kernel
theorem dX2_lay_4 : decode cX2_lay 4 = .ok (.bipush 24, 2) := by decide +kernel
theorem dX2_lay_6 : decode cX2_lay 6 = .ok (.if_icmp .lt 5, 3) := by decide +kernel
theorem dX2_lay_11 : decode cX2_lay 11 = .ok (.aload_n 0, 1) := by decide +kernel
theorem dX2_lay_12 : decode cX2_lay 12 = .ok (.getfield 11, 3) := by decide +kernel
theorem dX2_lay_15 : decode cX2_lay 15 = .ok (.aload_n 0, 1) := by decide +kernel
theorem dX2_lay_16 : decode cX2_lay 16 = .ok (.getfield 23, 3) := by decide +kernel
theorem dX2_lay_19 : decode cX2_lay 19 = .ok (.aaload, 1) := by decide +kernel
theorem dX2_lay_20 : decode cX2_lay 20 = .ok (.astore 6, 2) := by decide +kernel
theorem dX2_lay_22 : decode cX2_lay 22 = .ok (.aload 6, 2) := by decide +kernel
theorem dX2_lay_24 : decode cX2_lay 24 = .ok (.iload_n 1, 1) := by decide +kernel
theorem dX2_lay_25 : decode cX2_lay 25 = .ok (.putfield 27, 3) := by decide +kernel
theorem dX2_lay_28 : decode cX2_lay 28 = .ok (.aload 6, 2) := by decide +kernel
theorem dX2_lay_30 : decode cX2_lay 30 = .ok (.iload_n 2, 1) := by decide +kernel
theorem dX2_lay_31 : decode cX2_lay 31 = .ok (.putfield 30, 3) := by decide +kernel
theorem dX2_lay_34 : decode cX2_lay 34 = .ok (.aload 6, 2) := by decide +kernel
theorem dX2_lay_36 : decode cX2_lay 36 = .ok (.iload_n 3, 1) := by decide +kernel
theorem dX2_lay_37 : decode cX2_lay 37 = .ok (.putfield 33, 3) := by decide +kernel
theorem dX2_lay_40 : decode cX2_lay 40 = .ok (.aload 6, 2) := by decide +kernel
theorem dX2_lay_42 : decode cX2_lay 42 = .ok (.iload 4, 2) := by decide +kernel
theorem dX2_lay_44 : decode cX2_lay 44 = .ok (.putfield 36, 3) := by decide +kernel
theorem dX2_lay_47 : decode cX2_lay 47 = .ok (.aload 6, 2) := by decide +kernel
theorem dX2_lay_49 : decode cX2_lay 49 = .ok (.iload 5, 2) := by decide +kernel
theorem dX2_lay_51 : decode cX2_lay 51 = .ok (.putfield 39, 3) := by decide +kernel
theorem dX2_lay_54 : decode cX2_lay 54 = .ok (.aload 6, 2) := by decide +kernel
theorem dX2_lay_56 : decode cX2_lay 56 = .ok (.iload 5, 2) := by decide +kernel
theorem dX2_lay_58 : decode cX2_lay 58 = .ok (.putfield 42, 3) := by decide +kernel
theorem dX2_lay_61 : decode cX2_lay 61 = .ok (.aload 6, 2) := by decide +kernel
theorem dX2_lay_63 : decode cX2_lay 63 = .ok (.iload_n 3, 1) := by decide +kernel
theorem dX2_lay_64 : decode cX2_lay 64 = .ok (.putfield 45, 3) := by decide +kernel
theorem dX2_lay_67 : decode cX2_lay 67 = .ok (.aload_n 0, 1) := by decide +kernel
theorem dX2_lay_68 : decode cX2_lay 68 = .ok (.invokevirtual 48, 3) := by decide +kernel
theorem dX2_lay_71 : decode cX2_lay 71 = .ok (.aload_n 0, 1) := by decide +kernel
theorem dX2_lay_72 : decode cX2_lay 72 = .ok (.dup, 1) := by decide +kernel
theorem dX2_lay_73 : decode cX2_lay 73 = .ok (.getfield 23, 3) := by decide +kernel
theorem dX2_lay_76 : decode cX2_lay 76 = .ok (.dup_x1, 1) := by decide +kernel
theorem dX2_lay_77 : decode cX2_lay 77 = .ok (.iconst 1, 1) := by decide +kernel
theorem dX2_lay_78 : decode cX2_lay 78 = .ok (.iadd, 1) := by decide +kernel
theorem dX2_lay_79 : decode cX2_lay 79 = .ok (.putfield 23, 3) := by decide +kernel
theorem dX2_lay_82 : decode cX2_lay 82 = .ok (.ireturn, 1) := by decide +kernel
theorem dX2_allLeadTo_0 : decode cX2_allLeadTo 0 = .ok (.iconst 0, 1) := by decide +kernel
theorem dX2_allLeadTo_1 : decode cX2_allLeadTo 1 = .ok (.istore_n 3, 1) := by decide +kernel
theorem dX2_allLeadTo_2 : decode cX2_allLeadTo 2 = .ok (.iload_n 3, 1) := by decide +kernel
theorem dX2_allLeadTo_3 : decode cX2_allLeadTo 3 = .ok (.bipush 32, 2) := by decide +kernel
theorem dX2_allLeadTo_5 : decode cX2_allLeadTo 5 = .ok (.if_icmp .ge 41, 3) := by decide +kernel
theorem dX2_allLeadTo_46 : decode cX2_allLeadTo 46 = .ok (.iconst 1, 1) := by decide +kernel
theorem dX2_allLeadTo_47 : decode cX2_allLeadTo 47 = .ok (.ireturn, 1) := by decide +kernel
theorem dX2_allLeadTo_8 : decode cX2_allLeadTo 8 = .ok (.iload_n 2, 1) := by decide +kernel
theorem dX2_allLeadTo_9 : decode cX2_allLeadTo 9 = .ok (.iload_n 3, 1) := by decide +kernel
theorem dX2_allLeadTo_10 : decode cX2_allLeadTo 10 = .ok (.ishr, 1) := by decide +kernel
theorem dX2_allLeadTo_11 : decode cX2_allLeadTo 11 = .ok (.iconst 1, 1) := by decide +kernel
theorem dX2_allLeadTo_12 : decode cX2_allLeadTo 12 = .ok (.iand, 1) := by decide +kernel
theorem dX2_allLeadTo_13 : decode cX2_allLeadTo 13 = .ok (.iconst 1, 1) := by decide +kernel
theorem dX2_allLeadTo_14 : decode cX2_allLeadTo 14 = .ok (.if_icmp .ne 26, 3) := by decide +kernel
theorem dX2_allLeadTo_40 : decode cX2_allLeadTo 40 = .ok (.iinc 3 1, 3) := by decide +kernel
theorem dX2_allLeadTo_43 : decode cX2_allLeadTo 43 = .ok (.goto (-41), 3) := by decide +kernel
theorem dX2_allLeadTo_17 : decode cX2_allLeadTo 17 = .ok (.iload_n 3, 1) := by decide +kernel
theorem dX2_allLeadTo_18 : decode cX2_allLeadTo 18 = .ok (.aload_n 0, 1) := by decide +kernel
theorem dX2_allLeadTo_19 : decode cX2_allLeadTo 19 = .ok (.getfield 23, 3) := by decide +kernel
theorem dX2_allLeadTo_22 : decode cX2_allLeadTo 22 = .ok (.if_icmp .ge 16, 3) := by decide +kernel
theorem dX2_allLeadTo_38 : decode cX2_allLeadTo 38 = .ok (.iconst 0, 1) := by decide +kernel
theorem dX2_allLeadTo_39 : decode cX2_allLeadTo 39 = .ok (.ireturn, 1) := by decide +kernel
theorem dX2_allLeadTo_25 : decode cX2_allLeadTo 25 = .ok (.aload_n 0, 1) := by decide +kernel
theorem dX2_allLeadTo_26 : decode cX2_allLeadTo 26 = .ok (.getfield 11, 3) := by decide +kernel
theorem dX2_allLeadTo_29 : decode cX2_allLeadTo 29 = .ok (.iload_n 3, 1) := by decide +kernel
theorem dX2_allLeadTo_30 : decode cX2_allLeadTo 30 = .ok (.aaload, 1) := by decide +kernel
theorem dX2_allLeadTo_31 : decode cX2_allLeadTo 31 = .ok (.getfield 30, 3) := by decide +kernel
theorem dX2_allLeadTo_34 : decode cX2_allLeadTo 34 = .ok (.iload_n 1, 1) := by decide +kernel
theorem dX2_allLeadTo_35 : decode cX2_allLeadTo 35 = .ok (.if_icmp .eq 5, 3) := by decide +kernel
theorem dX6_get_0 : decode cX6_get 0 = .ok (.iload_n 1, 1) := by decide +kernel
theorem dX6_get_1 : decode cX6_get 1 = .ok (.iconst 0, 1) := by decide +kernel
theorem dX6_get_2 : decode cX6_get 2 = .ok (.sipush 199, 3) := by decide +kernel
theorem dX6_get_5 : decode cX6_get 5 = .ok (.invokestatic 16, 3) := by decide +kernel
theorem dX6_get_8 : decode cX6_get 8 = .ok (.ifCond .eq 7, 3) := by decide +kernel
theorem dX6_get_11 : decode cX6_get 11 = .ok (.iload_n 2, 1) := by decide +kernel
theorem dX6_get_12 : decode cX6_get 12 = .ok (.ifCond .ge 5, 3) := by decide +kernel
theorem dX6_get_17 : decode cX6_get 17 = .ok (.iload_n 2, 1) := by decide +kernel
theorem dX6_get_18 : decode cX6_get 18 = .ok (.bipush 12, 2) := by decide +kernel
theorem dX6_get_20 : decode cX6_get 20 = .ok (.idiv, 1) := by decide +kernel
theorem dX6_get_21 : decode cX6_get 21 = .ok (.istore_n 3, 1) := by decide +kernel
theorem dX6_get_22 : decode cX6_get 22 = .ok (.iload_n 3, 1) := by decide +kernel
theorem dX6_get_23 : decode cX6_get 23 = .ok (.aload_n 0, 1) := by decide +kernel
theorem dX6_get_24 : decode cX6_get 24 = .ok (.getfield 11, 3) := by decide +kernel
theorem dX6_get_27 : decode cX6_get 27 = .ok (.iload_n 1, 1) := by decide +kernel
theorem dX6_get_28 : decode cX6_get 28 = .ok (.aaload, 1) := by decide +kernel
theorem dX6_get_29 : decode cX6_get 29 = .ok (.arraylength, 1) := by decide +kernel
theorem dX6_get_30 : decode cX6_get 30 = .ok (.if_icmp .lt 5, 3) := by decide +kernel
theorem dX6_get_35 : decode cX6_get 35 = .ok (.aload_n 0, 1) := by decide +kernel
theorem dX6_get_36 : decode cX6_get 36 = .ok (.getfield 11, 3) := by decide +kernel
theorem dX6_get_39 : decode cX6_get 39 = .ok (.iload_n 1, 1) := by decide +kernel
theorem dX6_get_40 : decode cX6_get 40 = .ok (.aaload, 1) := by decide +kernel
theorem dX6_get_41 : decode cX6_get 41 = .ok (.iload_n 3, 1) := by decide +kernel
theorem dX6_get_42 : decode cX6_get 42 = .ok (.laload, 1) := by decide +kernel
theorem dX6_get_43 : decode cX6_get 43 = .ok (.iload_n 2, 1) := by decide +kernel
theorem dX6_get_44 : decode cX6_get 44 = .ok (.bipush 12, 2) := by decide +kernel
theorem dX6_get_46 : decode cX6_get 46 = .ok (.irem, 1) := by decide +kernel
theorem dX6_get_47 : decode cX6_get 47 = .ok (.iconst 5, 1) := by decide +kernel
theorem dX6_get_48 : decode cX6_get 48 = .ok (.imul, 1) := by decide +kernel
theorem dX6_get_49 : decode cX6_get 49 = .ok (.lushr, 1) := by decide +kernel
theorem dX6_get_50 : decode cX6_get 50 = .ok (.l2i, 1) := by decide +kernel
theorem dX6_get_51 : decode cX6_get 51 = .ok (.bipush 31, 2) := by decide +kernel
theorem dX6_get_53 : decode cX6_get 53 = .ok (.iand, 1) := by decide +kernel
theorem dX6_get_54 : decode cX6_get 54 = .ok (.ireturn, 1) := by decide +kernel
set_option maxRecDepth 100000 in
set_option maxHeartbeats 4000000 in
/-- Roads.lay, with room -/
theorem c_Roads_lay (l : Launch) (dC : Nat → ClassId) (dI : Nat → Nat → Nat) (cy : Nat → ClassId) (L : Lay) (tr : Option Nat) (a : St) (κ : Kap) (τ : Tau) (M : Nat) (fr : Int32) (to : Int32) (ti : Int32) (ro : Int32) (ra : Int32) (sz : Nat) (hT : TL L tr τ) (hw : Wf M a) (hl4 : (a 1 0 0).toInt < 24) : Met l yX2_lay (tp_w yX2_lay cX2_lay 7 (some .int)) ({ frames := 1, cells := 0, slots := 0, locals := 20 }) (va_Pc [.ref (L 1 0), .int fr, .int to, .int ti, .int ro, .int ra] (mPre dC dI cy (TW cy L tr a κ τ) sz)) (va_Qi (fun (r u : Int32) => r = u) (fun (u : Int32) (t : State) => (u = a 1 0 0) ∧ mw (dC, dI) vwCl (mA (TW cy L tr a κ τ) sz) (TW cy L tr (G_lay a fr to ti ro ra) ((0, κ.2)) τ) t.heap) (mA (TW cy L tr a κ τ) sz)) (0) (0) (mA (TW cy L tr a κ τ) sz) := by
  refine Met.ofW (cc := cX2_lay) (maxL := 7) (ret := (some .int)) (by decide) rfl ?_
  intro p e s m args below meth c s₁ B hml hv
  obtain ⟨rfl, hsz, hP, hK, hE⟩ := hv
  have hx := B.exec
  have hb := B.bytes
  have hr := B.returns
  have hts0 := atoms_spec (ws := tp_w yX2_lay cX2_lay 7 (some .int)) B.pre
  have hts : ∀ w ∈ tp_all, w.before _ s = true := fun w h => hts0 w (List.mem_cons_of_mem _ h)
  have hown : s.vm.findClass RX2 = some m.cls := findClass_of_methodNamed B.named
  have hlocks := B.notSynchronized
  subst hsz
  have hP := hP.self s.heap.size
  generalize hAe : mA (TW cy L tr a κ τ) s.heap.size = A at hP ⊢
  have hA : ∀ q : Nat, s.heap.size ≤ q → A q := fun q h => by rw [← hAe]; exact Or.inr h
  have hS : va_S A s.heap s.heap [] := va_S.rf
  have hl9 := lv_entry ([.ref (L 1 0), .int fr, .int to, .int ti, .int ro, .int ra]) (n := 7) (Nat.le_of_ble_eq_true rfl)
  rw [lg_entry_eq]
  generalize (lg_sl ([.ref (L 1 0), .int fr, .int to, .int ti, .int ro, .int ra]) ++ List.replicate (7 - (lg_sl ([.ref (L 1 0), .int fr, .int to, .int ti, .int ro, .int ra])).length) Slot.unset).toArray = ls at hl9 ⊢
  have hl : lv_has ls 7 [(0, .ref (L 1 0)), (1, .int fr), (2, .int to), (3, .int ti), (4, .int ro), (5, .int ra)] := hl9
  refine lv_aload_n hx hb dX2_lay_0 rfl (lv_at hl 0 rfl) ?_
  refine va_get (D := (dC, dI)) (ws := [(L 1 0, .inr (2, [.ref (L 24 0), .int ((a 1 0) 0), .ref (L 25 0), .int κ.1]))]) (ci := 2) (v := .int ((a 1 0) 0)) (C := RX2) (T := TX2) (N := 4) hx hb hts tl_X2 hown hK (hP.one (tw_mem (f := 1) (i := 0) (by decide) rfl)) 0 rfl rfl 1 (by decide) (hts _ tw_697) (fun _ h9 => h9) rfl dX2_lay_1 ?_
  refine lv_bipush (v := 24) hx hb dX2_lay_4 (by decide) ?_
  refine lv_icmp_lt (tgt := 11) hx hb dX2_lay_6 (by decide) (fun _ => ?_) (fun c_1 => absurd (Int32.lt_iff_toInt_lt.mpr hl4) c_1)
  refine lv_aload_n hx hb dX2_lay_11 rfl (lv_at hl 0 rfl) ?_
  refine va_get (D := (dC, dI)) (ws := [(L 1 0, .inr (2, [.ref (L 24 0), .int ((a 1 0) 0), .ref (L 25 0), .int κ.1]))]) (ci := 2) (v := .ref (L 24 0)) (C := RX2) (T := TX2) (N := 4) hx hb hts tl_X2 hown hK (hP.one (tw_mem (f := 1) (i := 0) (by decide) rfl)) 0 rfl rfl 0 (by decide) (hts _ tw_695) (fun _ h9 => h9) rfl dX2_lay_12 ?_
  refine lv_aload_n hx hb dX2_lay_15 rfl (lv_at hl 0 rfl) ?_
  refine va_get (D := (dC, dI)) (ws := [(L 1 0, .inr (2, [.ref (L 24 0), .int ((a 1 0) 0), .ref (L 25 0), .int κ.1]))]) (ci := 2) (v := .int ((a 1 0) 0)) (C := RX2) (T := TX2) (N := 4) hx hb hts tl_X2 hown hK (hP.one (tw_mem (f := 1) (i := 0) (by decide) rfl)) 0 rfl rfl 1 (by decide) (hts _ tw_697) (fun _ h9 => h9) rfl dX2_lay_16 ?_
  have j_1 : ((a 1 0) 0 : Int32).toNatClampNeg = (a 1 0 0).toNatClampNeg := m_cl (m_n0 hw.1.1.1) (m_ltI hw.1.1.1 hl4) (by decide)
  refine va_aldq hx hb hK (ws := [(L 24 0, .inl (cy 3, 24, .inr (.inr (.inr (.inr (fun j => some (L 2 j)))))))]) (hP.one (tw_mem (f := 24) (i := 0) (by decide) rfl)) 0 3 rfl rfl (m_in (m_n0 hw.1.1.1) (m_ltI hw.1.1.1 hl4) (by decide)) dX2_lay_19 ?_
  refine W.eq (g2 := F0 m 20 ls [.ref (L 2 ((a 1 0 0).toNatClampNeg))]) (by first | (rw [j_1]; done) | (rw [j_1]; rfl)) ?_
  refine lv_astore (lv' := [(6, .ref (L 2 ((a 1 0 0).toNatClampNeg))), (0, .ref (L 1 0)), (1, .int fr), (2, .int to), (3, .int ti), (4, .int ro), (5, .int ra)]) hx hb dX2_lay_20 hl (by decide) rfl (fun ls hl => ?_)
  refine lv_aload hx hb dX2_lay_22 (lv_at hl 0 rfl) ?_
  refine lv_iload_n hx hb dX2_lay_24 rfl (lv_at hl 2 rfl) ?_
  obtain ⟨ws9, k9, hPw, hDw, hk9, -, hbk⟩ := hP.cut (e := .inr (1, [.int ((a 2 ((a 1 0 0).toNatClampNeg)) 0), .int ((a 2 ((a 1 0 0).toNatClampNeg)) 1), .int ((a 2 ((a 1 0 0).toNatClampNeg)) 2), .int ((a 2 ((a 1 0 0).toNatClampNeg)) 3), .int ((a 2 ((a 1 0 0).toNatClampNeg)) 4), .int ((a 2 ((a 1 0 0).toNatClampNeg)) 5), .int ((a 2 ((a 1 0 0).toNatClampNeg)) 6), .int ((a 2 ((a 1 0 0).toNatClampNeg)) 7), .int ((a 2 ((a 1 0 0).toNatClampNeg)) 8), .ref (L 3 ((a 1 0 0).toNatClampNeg)), .ref (L 5 ((a 1 0 0).toNatClampNeg)), .int ((a 2 ((a 1 0 0).toNatClampNeg)) 9), .int ((a 2 ((a 1 0 0).toNatClampNeg)) 10), .int ((a 2 ((a 1 0 0).toNatClampNeg)) 11), .int ((a 2 ((a 1 0 0).toNatClampNeg)) 12), .ref (L 7 ((a 1 0 0).toNatClampNeg))])) (tw_mem (f := 2) (i := (a 1 0 0).toNatClampNeg) (m_ltI hw.1.1.1 hl4) rfl)
  refine va_putN (D := (dC, dI)) (ci := 1) (v := .int fr) (ty := .int) (C := RX1) (T := TX1) (N := 16) hx hb hts tl_X1 tyX1 tyX1_ok nmX1 hown hK hPw hDw hS k9 hk9 rfl 0 (by decide) (va_Nw.use rfl (te_f2 hE)) (fun _ h9 => h9) rfl (by decide +kernel) rfl rfl (Nat.le_of_ble_eq_true rfl) dX2_lay_25 (fun H locs hPw hDw hS => ?_)
  have hP : mw (dC, dI) vwCl A (TW cy L tr (S2 a 2 ((a 1 0 0).toNatClampNeg) (upd (a 2 ((a 1 0 0).toNatClampNeg)) 0 fr)) κ τ) H := (hbk _ _ hPw hDw).sub (tw_set (b := S2 a 2 ((a 1 0 0).toNatClampNeg) (upd (a 2 ((a 1 0 0).toNatClampNeg)) 0 fr)) (f := 2) (i := (a 1 0 0).toNatClampNeg) (x := upd (a 2 ((a 1 0 0).toNatClampNeg)) 0 fr) hT (m_ltI hw.1.1.1 hl4) (by decide) rfl)
  clear hbk hPw hDw hk9
  refine lv_aload hx hb dX2_lay_28 (lv_at hl 0 rfl) ?_
  refine lv_iload_n hx hb dX2_lay_30 rfl (lv_at hl 3 rfl) ?_
  obtain ⟨ws9, k9, hPw, hDw, hk9, -, hbk⟩ := hP.cut (e := .inr (1, [.int fr, .int ((a 2 ((a 1 0 0).toNatClampNeg)) 1), .int ((a 2 ((a 1 0 0).toNatClampNeg)) 2), .int ((a 2 ((a 1 0 0).toNatClampNeg)) 3), .int ((a 2 ((a 1 0 0).toNatClampNeg)) 4), .int ((a 2 ((a 1 0 0).toNatClampNeg)) 5), .int ((a 2 ((a 1 0 0).toNatClampNeg)) 6), .int ((a 2 ((a 1 0 0).toNatClampNeg)) 7), .int ((a 2 ((a 1 0 0).toNatClampNeg)) 8), .ref (L 3 ((a 1 0 0).toNatClampNeg)), .ref (L 5 ((a 1 0 0).toNatClampNeg)), .int ((a 2 ((a 1 0 0).toNatClampNeg)) 9), .int ((a 2 ((a 1 0 0).toNatClampNeg)) 10), .int ((a 2 ((a 1 0 0).toNatClampNeg)) 11), .int ((a 2 ((a 1 0 0).toNatClampNeg)) 12), .ref (L 7 ((a 1 0 0).toNatClampNeg))])) (tw_mem (f := 2) (i := (a 1 0 0).toNatClampNeg) (m_ltI hw.1.1.1 hl4) S2_eq)
  refine va_putN (D := (dC, dI)) (ci := 1) (v := .int to) (ty := .int) (C := RX1) (T := TX1) (N := 16) hx hb hts tl_X1 tyX1 tyX1_ok nmX1 hown hK hPw hDw hS k9 hk9 rfl 1 (by decide) (va_Nw.use rfl (te_f3 hE)) (fun _ h9 => h9) rfl (by decide +kernel) rfl rfl (Nat.le_of_ble_eq_true rfl) dX2_lay_31 (fun H locs hPw hDw hS => ?_)
  have hP : mw (dC, dI) vwCl A (TW cy L tr (S2 a 2 ((a 1 0 0).toNatClampNeg) (upd (upd (a 2 ((a 1 0 0).toNatClampNeg)) 0 fr) 1 to)) κ τ) H := (hbk _ _ hPw hDw).sub (tw_set (b := S2 a 2 ((a 1 0 0).toNatClampNeg) (upd (upd (a 2 ((a 1 0 0).toNatClampNeg)) 0 fr) 1 to)) (f := 2) (i := (a 1 0 0).toNatClampNeg) (x := upd (upd (a 2 ((a 1 0 0).toNatClampNeg)) 0 fr) 1 to) hT (m_ltI hw.1.1.1 hl4) (by decide) S2_S2.symm)
  clear hbk hPw hDw hk9
  refine lv_aload hx hb dX2_lay_34 (lv_at hl 0 rfl) ?_
  refine lv_iload_n hx hb dX2_lay_36 rfl (lv_at hl 4 rfl) ?_
  obtain ⟨ws9, k9, hPw, hDw, hk9, -, hbk⟩ := hP.cut (e := .inr (1, [.int fr, .int to, .int ((a 2 ((a 1 0 0).toNatClampNeg)) 2), .int ((a 2 ((a 1 0 0).toNatClampNeg)) 3), .int ((a 2 ((a 1 0 0).toNatClampNeg)) 4), .int ((a 2 ((a 1 0 0).toNatClampNeg)) 5), .int ((a 2 ((a 1 0 0).toNatClampNeg)) 6), .int ((a 2 ((a 1 0 0).toNatClampNeg)) 7), .int ((a 2 ((a 1 0 0).toNatClampNeg)) 8), .ref (L 3 ((a 1 0 0).toNatClampNeg)), .ref (L 5 ((a 1 0 0).toNatClampNeg)), .int ((a 2 ((a 1 0 0).toNatClampNeg)) 9), .int ((a 2 ((a 1 0 0).toNatClampNeg)) 10), .int ((a 2 ((a 1 0 0).toNatClampNeg)) 11), .int ((a 2 ((a 1 0 0).toNatClampNeg)) 12), .ref (L 7 ((a 1 0 0).toNatClampNeg))])) (tw_mem (f := 2) (i := (a 1 0 0).toNatClampNeg) (m_ltI hw.1.1.1 hl4) S2_eq)
  refine va_putN (D := (dC, dI)) (ci := 1) (v := .int ti) (ty := .int) (C := RX1) (T := TX1) (N := 16) hx hb hts tl_X1 tyX1 tyX1_ok nmX1 hown hK hPw hDw hS k9 hk9 rfl 2 (by decide) (va_Nw.use rfl (te_f5 hE)) (fun _ h9 => h9) rfl (by decide +kernel) rfl rfl (Nat.le_of_ble_eq_true rfl) dX2_lay_37 (fun H locs hPw hDw hS => ?_)
  have hP : mw (dC, dI) vwCl A (TW cy L tr (S2 a 2 ((a 1 0 0).toNatClampNeg) (upd (upd (upd (a 2 ((a 1 0 0).toNatClampNeg)) 0 fr) 1 to) 2 ti)) κ τ) H := (hbk _ _ hPw hDw).sub (tw_set (b := S2 a 2 ((a 1 0 0).toNatClampNeg) (upd (upd (upd (a 2 ((a 1 0 0).toNatClampNeg)) 0 fr) 1 to) 2 ti)) (f := 2) (i := (a 1 0 0).toNatClampNeg) (x := upd (upd (upd (a 2 ((a 1 0 0).toNatClampNeg)) 0 fr) 1 to) 2 ti) hT (m_ltI hw.1.1.1 hl4) (by decide) S2_S2.symm)
  clear hbk hPw hDw hk9
  refine lv_aload hx hb dX2_lay_40 (lv_at hl 0 rfl) ?_
  refine lv_iload hx hb dX2_lay_42 (lv_at hl 5 rfl) ?_
  obtain ⟨ws9, k9, hPw, hDw, hk9, -, hbk⟩ := hP.cut (e := .inr (1, [.int fr, .int to, .int ti, .int ((a 2 ((a 1 0 0).toNatClampNeg)) 3), .int ((a 2 ((a 1 0 0).toNatClampNeg)) 4), .int ((a 2 ((a 1 0 0).toNatClampNeg)) 5), .int ((a 2 ((a 1 0 0).toNatClampNeg)) 6), .int ((a 2 ((a 1 0 0).toNatClampNeg)) 7), .int ((a 2 ((a 1 0 0).toNatClampNeg)) 8), .ref (L 3 ((a 1 0 0).toNatClampNeg)), .ref (L 5 ((a 1 0 0).toNatClampNeg)), .int ((a 2 ((a 1 0 0).toNatClampNeg)) 9), .int ((a 2 ((a 1 0 0).toNatClampNeg)) 10), .int ((a 2 ((a 1 0 0).toNatClampNeg)) 11), .int ((a 2 ((a 1 0 0).toNatClampNeg)) 12), .ref (L 7 ((a 1 0 0).toNatClampNeg))])) (tw_mem (f := 2) (i := (a 1 0 0).toNatClampNeg) (m_ltI hw.1.1.1 hl4) S2_eq)
  refine va_putN (D := (dC, dI)) (ci := 1) (v := .int ro) (ty := .int) (C := RX1) (T := TX1) (N := 16) hx hb hts tl_X1 tyX1 tyX1_ok nmX1 hown hK hPw hDw hS k9 hk9 rfl 3 (by decide) (va_Nw.use rfl (te_f7 hE)) (fun _ h9 => h9) rfl (by decide +kernel) rfl rfl (Nat.le_of_ble_eq_true rfl) dX2_lay_44 (fun H locs hPw hDw hS => ?_)
  have hP : mw (dC, dI) vwCl A (TW cy L tr (S2 a 2 ((a 1 0 0).toNatClampNeg) (upd (upd (upd (upd (a 2 ((a 1 0 0).toNatClampNeg)) 0 fr) 1 to) 2 ti) 3 ro)) κ τ) H := (hbk _ _ hPw hDw).sub (tw_set (b := S2 a 2 ((a 1 0 0).toNatClampNeg) (upd (upd (upd (upd (a 2 ((a 1 0 0).toNatClampNeg)) 0 fr) 1 to) 2 ti) 3 ro)) (f := 2) (i := (a 1 0 0).toNatClampNeg) (x := upd (upd (upd (upd (a 2 ((a 1 0 0).toNatClampNeg)) 0 fr) 1 to) 2 ti) 3 ro) hT (m_ltI hw.1.1.1 hl4) (by decide) S2_S2.symm)
  clear hbk hPw hDw hk9
  refine lv_aload hx hb dX2_lay_47 (lv_at hl 0 rfl) ?_
  refine lv_iload hx hb dX2_lay_49 (lv_at hl 6 rfl) ?_
  obtain ⟨ws9, k9, hPw, hDw, hk9, -, hbk⟩ := hP.cut (e := .inr (1, [.int fr, .int to, .int ti, .int ro, .int ((a 2 ((a 1 0 0).toNatClampNeg)) 4), .int ((a 2 ((a 1 0 0).toNatClampNeg)) 5), .int ((a 2 ((a 1 0 0).toNatClampNeg)) 6), .int ((a 2 ((a 1 0 0).toNatClampNeg)) 7), .int ((a 2 ((a 1 0 0).toNatClampNeg)) 8), .ref (L 3 ((a 1 0 0).toNatClampNeg)), .ref (L 5 ((a 1 0 0).toNatClampNeg)), .int ((a 2 ((a 1 0 0).toNatClampNeg)) 9), .int ((a 2 ((a 1 0 0).toNatClampNeg)) 10), .int ((a 2 ((a 1 0 0).toNatClampNeg)) 11), .int ((a 2 ((a 1 0 0).toNatClampNeg)) 12), .ref (L 7 ((a 1 0 0).toNatClampNeg))])) (tw_mem (f := 2) (i := (a 1 0 0).toNatClampNeg) (m_ltI hw.1.1.1 hl4) S2_eq)
  refine va_putN (D := (dC, dI)) (ci := 1) (v := .int ra) (ty := .int) (C := RX1) (T := TX1) (N := 16) hx hb hts tl_X1 tyX1 tyX1_ok nmX1 hown hK hPw hDw hS k9 hk9 rfl 4 (by decide) (va_Nw.use rfl (te_f8 hE)) (fun _ h9 => h9) rfl (by decide +kernel) rfl rfl (Nat.le_of_ble_eq_true rfl) dX2_lay_51 (fun H locs hPw hDw hS => ?_)
  have hP : mw (dC, dI) vwCl A (TW cy L tr (S2 a 2 ((a 1 0 0).toNatClampNeg) (upd (upd (upd (upd (upd (a 2 ((a 1 0 0).toNatClampNeg)) 0 fr) 1 to) 2 ti) 3 ro) 4 ra)) κ τ) H := (hbk _ _ hPw hDw).sub (tw_set (b := S2 a 2 ((a 1 0 0).toNatClampNeg) (upd (upd (upd (upd (upd (a 2 ((a 1 0 0).toNatClampNeg)) 0 fr) 1 to) 2 ti) 3 ro) 4 ra)) (f := 2) (i := (a 1 0 0).toNatClampNeg) (x := upd (upd (upd (upd (upd (a 2 ((a 1 0 0).toNatClampNeg)) 0 fr) 1 to) 2 ti) 3 ro) 4 ra) hT (m_ltI hw.1.1.1 hl4) (by decide) S2_S2.symm)
  clear hbk hPw hDw hk9
  refine lv_aload hx hb dX2_lay_54 (lv_at hl 0 rfl) ?_
  refine lv_iload hx hb dX2_lay_56 (lv_at hl 6 rfl) ?_
  obtain ⟨ws9, k9, hPw, hDw, hk9, -, hbk⟩ := hP.cut (e := .inr (1, [.int fr, .int to, .int ti, .int ro, .int ra, .int ((a 2 ((a 1 0 0).toNatClampNeg)) 5), .int ((a 2 ((a 1 0 0).toNatClampNeg)) 6), .int ((a 2 ((a 1 0 0).toNatClampNeg)) 7), .int ((a 2 ((a 1 0 0).toNatClampNeg)) 8), .ref (L 3 ((a 1 0 0).toNatClampNeg)), .ref (L 5 ((a 1 0 0).toNatClampNeg)), .int ((a 2 ((a 1 0 0).toNatClampNeg)) 9), .int ((a 2 ((a 1 0 0).toNatClampNeg)) 10), .int ((a 2 ((a 1 0 0).toNatClampNeg)) 11), .int ((a 2 ((a 1 0 0).toNatClampNeg)) 12), .ref (L 7 ((a 1 0 0).toNatClampNeg))])) (tw_mem (f := 2) (i := (a 1 0 0).toNatClampNeg) (m_ltI hw.1.1.1 hl4) S2_eq)
  refine va_putN (D := (dC, dI)) (ci := 1) (v := .int ra) (ty := .int) (C := RX1) (T := TX1) (N := 16) hx hb hts tl_X1 tyX1 tyX1_ok nmX1 hown hK hPw hDw hS k9 hk9 rfl 5 (by decide) (va_Nw.use rfl (te_f9 hE)) (fun _ h9 => h9) rfl (by decide +kernel) rfl rfl (Nat.le_of_ble_eq_true rfl) dX2_lay_58 (fun H locs hPw hDw hS => ?_)
  have hP : mw (dC, dI) vwCl A (TW cy L tr (S2 a 2 ((a 1 0 0).toNatClampNeg) (upd (upd (upd (upd (upd (upd (a 2 ((a 1 0 0).toNatClampNeg)) 0 fr) 1 to) 2 ti) 3 ro) 4 ra) 5 ra)) κ τ) H := (hbk _ _ hPw hDw).sub (tw_set (b := S2 a 2 ((a 1 0 0).toNatClampNeg) (upd (upd (upd (upd (upd (upd (a 2 ((a 1 0 0).toNatClampNeg)) 0 fr) 1 to) 2 ti) 3 ro) 4 ra) 5 ra)) (f := 2) (i := (a 1 0 0).toNatClampNeg) (x := upd (upd (upd (upd (upd (upd (a 2 ((a 1 0 0).toNatClampNeg)) 0 fr) 1 to) 2 ti) 3 ro) 4 ra) 5 ra) hT (m_ltI hw.1.1.1 hl4) (by decide) S2_S2.symm)
  clear hbk hPw hDw hk9
  refine lv_aload hx hb dX2_lay_61 (lv_at hl 0 rfl) ?_
  refine lv_iload_n hx hb dX2_lay_63 rfl (lv_at hl 4 rfl) ?_
  obtain ⟨ws9, k9, hPw, hDw, hk9, -, hbk⟩ := hP.cut (e := .inr (1, [.int fr, .int to, .int ti, .int ro, .int ra, .int ra, .int ((a 2 ((a 1 0 0).toNatClampNeg)) 6), .int ((a 2 ((a 1 0 0).toNatClampNeg)) 7), .int ((a 2 ((a 1 0 0).toNatClampNeg)) 8), .ref (L 3 ((a 1 0 0).toNatClampNeg)), .ref (L 5 ((a 1 0 0).toNatClampNeg)), .int ((a 2 ((a 1 0 0).toNatClampNeg)) 9), .int ((a 2 ((a 1 0 0).toNatClampNeg)) 10), .int ((a 2 ((a 1 0 0).toNatClampNeg)) 11), .int ((a 2 ((a 1 0 0).toNatClampNeg)) 12), .ref (L 7 ((a 1 0 0).toNatClampNeg))])) (tw_mem (f := 2) (i := (a 1 0 0).toNatClampNeg) (m_ltI hw.1.1.1 hl4) S2_eq)
  refine va_putN (D := (dC, dI)) (ci := 1) (v := .int ti) (ty := .int) (C := RX1) (T := TX1) (N := 16) hx hb hts tl_X1 tyX1 tyX1_ok nmX1 hown hK hPw hDw hS k9 hk9 rfl 8 (by decide) (va_Nw.use rfl (te_f15 hE)) (fun _ h9 => h9) rfl (by decide +kernel) rfl rfl (Nat.le_of_ble_eq_true rfl) dX2_lay_64 (fun H locs hPw hDw hS => ?_)
  have hP : mw (dC, dI) vwCl A (TW cy L tr (S2 a 2 ((a 1 0 0).toNatClampNeg) (upd (upd (upd (upd (upd (upd (upd (a 2 ((a 1 0 0).toNatClampNeg)) 0 fr) 1 to) 2 ti) 3 ro) 4 ra) 5 ra) 8 ti)) κ τ) H := (hbk _ _ hPw hDw).sub (tw_set (b := S2 a 2 ((a 1 0 0).toNatClampNeg) (upd (upd (upd (upd (upd (upd (upd (a 2 ((a 1 0 0).toNatClampNeg)) 0 fr) 1 to) 2 ti) 3 ro) 4 ra) 5 ra) 8 ti)) (f := 2) (i := (a 1 0 0).toNatClampNeg) (x := upd (upd (upd (upd (upd (upd (upd (a 2 ((a 1 0 0).toNatClampNeg)) 0 fr) 1 to) 2 ti) 3 ro) 4 ra) 5 ra) 8 ti) hT (m_ltI hw.1.1.1 hl4) (by decide) S2_S2.symm)
  clear hbk hPw hDw hk9
  refine lv_aload_n hx hb dX2_lay_67 rfl (lv_at hl 1 rfl) ?_
  have hFc := m_free (C := (TW cy L tr (S2 a 2 ((a 1 0 0).toNatClampNeg) (upd (upd (upd (upd (upd (upd (upd (a 2 ((a 1 0 0).toNatClampNeg)) 0 fr) 1 to) 2 ti) 3 ro) 4 ra) 5 ra) 8 ti)) κ τ)) hP hS hA (fun _ _ h => h)
  refine va_callv (va_runV (As := []) (rest := []) ⟨hx, hb, hml, hown, hts⟩ (c_Roads_forgetWays l dC dI cy L tr (S2 a 2 ((a 1 0 0).toNatClampNeg) (upd (upd (upd (upd (upd (upd (upd (a 2 ((a 1 0 0).toNatClampNeg)) 0 fr) 1 to) 2 ti) 3 ro) 4 ra) 5 ra) 8 ti)) κ τ H.size hT) (tp_cwV 0 hts tw_190 tw_148 tw_149 tw_22 tw_150 rfl rfl (by decide +kernel) ⟨Nat.le_of_ble_eq_true rfl, Nat.le_of_ble_eq_true rfl⟩) ⟨m_blind, va_recv hK (hP.one (e := .inr (2, [.ref (L 24 0), .int ((a 1 0) 0), .ref (L 25 0), .int κ.1])) (tw_mem (f := 1) (i := 0) (by decide) (S2_nf (by decide)))) (ci := 2) (q0 := 0) rfl rfl, fun U hU hW => ⟨rfl, m_pay hK hP hE (fun _ _ h => h) U hU hW⟩⟩ rfl rfl hl.1 rfl (lv_room (Nat.le_of_ble_eq_true rfl)) dX2_lay_68 ⟨(Nat.le_of_ble_eq_true rfl), (Nat.le_of_ble_eq_true rfl)⟩) hS (fun q _ h => hFc q h) hFc (fun u t H1 locs ht hvm hpo hB hz1 hk1 hS => ?_)
  have hP1 := hB
  rw [ht] at hP1
  have hP : mw (dC, dI) vwCl A (TW cy L tr (S2 a 2 ((a 1 0 0).toNatClampNeg) (upd (upd (upd (upd (upd (upd (upd (a 2 ((a 1 0 0).toNatClampNeg)) 0 fr) 1 to) 2 ti) 3 ro) 4 ra) 5 ra) 8 ti)) ((0, κ.2)) τ) H1 := hP.join (fun _ _ h => h) hk1 hFc hP1 (fun _ _ h => Or.inl h)
  generalize H1 = H at hP hS ⊢
  clear hP1 hk1 hFc
  refine lv_aload_n hx hb dX2_lay_71 rfl (lv_at hl 1 rfl) ?_
  refine lv_dup hx hb dX2_lay_72 rfl ?_
  refine va_get (D := (dC, dI)) (ws := [(L 1 0, .inr (2, [.ref (L 24 0), .int ((a 1 0) 0), .ref (L 25 0), .int (((0, κ.2)).1)]))]) (ci := 2) (v := .int ((a 1 0) 0)) (C := RX2) (T := TX2) (N := 4) hx hb hts tl_X2 hown hK (hP.one (tw_mem (f := 1) (i := 0) (by decide) (S2_nf (by decide)))) 0 rfl rfl 1 (by decide) (hts _ tw_697) (fun _ h9 => h9) rfl dX2_lay_73 ?_
  refine lv_dup_x1 hx hb dX2_lay_76 rfl rfl ?_
  refine lv_iconst (v := 1) hx hb dX2_lay_77 (by decide) ?_
  refine lv_iadd hx hb dX2_lay_78 ?_
  obtain ⟨ws9, k9, hPw, hDw, hk9, -, hbk⟩ := hP.cut (e := .inr (2, [.ref (L 24 0), .int ((a 1 0) 0), .ref (L 25 0), .int (((0, κ.2)).1)])) (tw_mem (f := 1) (i := 0) (by decide) (S2_nf (by decide)))
  refine va_put (D := (dC, dI)) (ci := 2) (v := .int (((a 1 0) 0) + 1)) (ty := .int) (C := RX2) (T := TX2) (N := 4) hx hb hts tl_X2 tyX2 tyX2_ok nmX2 hown hK hPw hDw hS k9 hk9 rfl 1 (by decide) (hts _ tw_697) (fun _ h9 => h9) rfl (by decide +kernel) rfl rfl (Nat.le_of_ble_eq_true rfl) dX2_lay_79 (fun H locs hPw hDw hS => ?_)
  have hP : mw (dC, dI) vwCl A (TW cy L tr (S2 (S2 a 2 ((a 1 0 0).toNatClampNeg) (upd (upd (upd (upd (upd (upd (upd (a 2 ((a 1 0 0).toNatClampNeg)) 0 fr) 1 to) 2 ti) 3 ro) 4 ra) 5 ra) 8 ti)) 1 0 (upd (a 1 0) 0 (((a 1 0) 0) + 1))) ((0, κ.2)) τ) H := (hbk _ _ hPw hDw).sub (tw_set1 (b := S2 (S2 a 2 ((a 1 0 0).toNatClampNeg) (upd (upd (upd (upd (upd (upd (upd (a 2 ((a 1 0 0).toNatClampNeg)) 0 fr) 1 to) 2 ti) 3 ro) 4 ra) 5 ra) 8 ti)) 1 0 (upd (a 1 0) 0 (((a 1 0) 0) + 1))) (x := upd (a 1 0) 0 (((a 1 0) 0) + 1)) (r := ((0, κ.2)).1) hT rfl rfl)
  clear hbk hPw hDw hk9
  refine W.widen (k := 0) (n := 0) (Nat.le_of_ble_eq_true rfl) (Nat.le_of_ble_eq_true rfl) ?_
  have s_1 : S2 (S2 a 2 ((a 1 0 0).toNatClampNeg) (upd (upd (upd (upd (upd (upd (upd (a 2 ((a 1 0 0).toNatClampNeg)) 0 fr) 1 to) 2 ti) 3 ro) 4 ra) 5 ra) 8 ti)) 1 0 (upd (a 1 0) 0 (((a 1 0) 0) + 1)) = G_lay a fr to ti ro ra := by
    rfl
  rw [s_1] at hP
  have g_1 : ((a 1 0) 0) = a 1 0 0 := by
    rfl
  exact W.iret (v := (a 1 0) 0) hx hb hr (fun t ht hW => ⟨⟨((a 1 0) 0), ((a 1 0) 0), rfl, rfl, ⟨g_1, by show mw _ _ _ _ t.heap; rw [ht]; exact hP⟩⟩, hS.F ht⟩) hS.2.2 dX2_lay_82
set_option maxRecDepth 100000 in
set_option maxHeartbeats 4000000 in
/-- Roads.allLeadTo -/
theorem c_Roads_allLeadTo (l : Launch) (dC : Nat → ClassId) (dI : Nat → Nat → Nat) (cy : Nat → ClassId) (L : Lay) (tr : Option Nat) (a : St) (κ : Kap) (τ : Tau) (M : Nat) (nd : Int32) (y : Int32) (sz : Nat) (hT : TL L tr τ) (hw : Wf M a) : Met l yX2_allLeadTo (tp_w yX2_allLeadTo cX2_allLeadTo 4 (some .boolean)) ({ frames := 0, cells := 0, slots := 0, locals := 0 }) (va_Pc [.ref (L 1 0), .int nd, .int y] (mPre dC dI cy (TW cy L tr a κ τ) sz)) (va_Qi (fun (r u : Int32) => r = u) (fun (u : Int32) (t : State) => (u = G_lead a nd y 32 0) ∧ mw (dC, dI) vwCl (mA (TW cy L tr a κ τ) sz) (TW cy L tr a κ τ) t.heap) (mA (TW cy L tr a κ τ) sz)) (0) (0) (mA (TW cy L tr a κ τ) sz) := by
  refine Met.ofW (cc := cX2_allLeadTo) (maxL := 4) (ret := (some .boolean)) (by decide) rfl ?_
  intro p e s m args below meth c s₁ B hml hv
  obtain ⟨rfl, hsz, hP, hK, hE⟩ := hv
  have hx := B.exec
  have hb := B.bytes
  have hr := B.returns
  have hts0 := atoms_spec (ws := tp_w yX2_allLeadTo cX2_allLeadTo 4 (some .boolean)) B.pre
  have hts : ∀ w ∈ tp_all, w.before _ s = true := fun w h => hts0 w (List.mem_cons_of_mem _ h)
  have hown : s.vm.findClass RX2 = some m.cls := findClass_of_methodNamed B.named
  have hlocks := B.notSynchronized
  subst hsz
  have hP := hP.self s.heap.size
  generalize hAe : mA (TW cy L tr a κ τ) s.heap.size = A at hP ⊢
  have hA : ∀ q : Nat, s.heap.size ≤ q → A q := fun q h => by rw [← hAe]; exact Or.inr h
  have hS : va_S A s.heap s.heap [] := va_S.rf
  have hl9 := lv_entry ([.ref (L 1 0), .int nd, .int y]) (n := 4) (Nat.le_of_ble_eq_true rfl)
  rw [lg_entry_eq]
  generalize (lg_sl ([.ref (L 1 0), .int nd, .int y]) ++ List.replicate (4 - (lg_sl ([.ref (L 1 0), .int nd, .int y])).length) Slot.unset).toArray = ls at hl9 ⊢
  have hl : lv_has ls 4 [(0, .ref (L 1 0)), (1, .int nd), (2, .int y)] := hl9
  refine lv_iconst (v := 0) hx hb dX2_allLeadTo_0 (by decide) ?_
  refine lv_istore_n (lv' := [(3, .int 0), (0, .ref (L 1 0)), (1, .int nd), (2, .int y)]) hx hb dX2_allLeadTo_1 rfl hl (by decide) rfl (fun ls hl => ?_)
  have hN : 32 ≤ 32 := (Nat.le_refl _)
  suffices hloop : ∀ (d k : Nat), k + d = 32 → G_lead a nd y d k = G_lead a nd y 32 0 → ∀ ls : Array Slot, lv_has ls 4 [(3, .int (nI k)), (0, .ref (L 1 0)), (1, .int nd), (2, .int y)] → ∀ (H : Heap) (locs : List Loc), mw (dC, dI) vwCl A (TW cy L tr a κ τ) H → va_S A s.heap H locs → W p l e _ s m _ below meth c H locs (0) (0) _ (F0 m 2 ls []) from hloop 32 0 (by omega)  rfl ls (lv_sub hl [0, 1, 2, 3] rfl) _ _ hP hS
  clear hP hS hl ls hl9
  intro d
  induction d with
  | zero =>
    intro k hk  hq ls hl H locs hP hS
    refine lv_iload_n hx hb dX2_allLeadTo_2 rfl (lv_at hl 0 rfl) ?_
    refine lv_bipush (v := 32) hx hb dX2_allLeadTo_3 (by decide) ?_
    have e9 : k = 32 := by omega
    refine lv_icmp_ge (tgt := 46) hx hb dX2_allLeadTo_5 (by decide) (fun _ => ?_) (fun c_1 => absurd (by rw [e9]; exact Int32.le_refl _) c_1)
    refine lv_iconst (v := 1) hx hb dX2_allLeadTo_46 (by decide) ?_
    refine W.widen (k := 0) (n := 0) (Nat.le_of_ble_eq_true rfl) (Nat.le_of_ble_eq_true rfl) ?_
    have g_1 : 1 = G_lead a nd y 32 0 := by
      rw [← hq]
      rfl
    exact W.zret (v := 1) hx hb hr rfl (fun t ht hW => ⟨⟨1, 1, rfl, rfl, ⟨g_1, by show mw _ _ _ _ t.heap; rw [ht]; exact hP⟩⟩, hS.F ht⟩) hS.2.2 dX2_allLeadTo_47
  | succ d ih =>
    intro k hk  hq ls hl H locs hP hS
    refine lv_iload_n hx hb dX2_allLeadTo_2 rfl (lv_at hl 0 rfl) ?_
    refine lv_bipush (v := 32) hx hb dX2_allLeadTo_3 (by decide) ?_
    refine lv_icmp_ge (tgt := 46) hx hb dX2_allLeadTo_5 (by decide) (fun c_2 => absurd c_2 (nI_ge (a := k) (b := 32) (by omega) (by omega))) (fun _ => ?_)
    refine lv_iload_n hx hb dX2_allLeadTo_8 rfl (lv_at hl 3 rfl) ?_
    refine lv_iload_n hx hb dX2_allLeadTo_9 rfl (lv_at hl 0 rfl) ?_
    refine lv_ishr hx hb dX2_allLeadTo_10 ?_
    refine lv_iconst (v := 1) hx hb dX2_allLeadTo_11 (by decide) ?_
    refine lv_iand hx hb dX2_allLeadTo_12 ?_
    refine lv_iconst (v := 1) hx hb dX2_allLeadTo_13 (by decide) ?_
    refine lv_icmp_ne (tgt := 40) hx hb dX2_allLeadTo_14 (by decide) (fun c_3 => ?_) (fun c_3 => ?_)
    · refine lv_iinc (v := nI (k + 1)) (lv' := [(3, .int (nI (k + 1))), (0, .ref (L 1 0)), (1, .int nd), (2, .int y)]) hx hb dX2_allLeadTo_40 hl (k := 0) rfl (nI_1 k) (by decide) rfl (fun ls hl => ?_)
      refine lv_goto (tgt := 2) hx hb dX2_allLeadTo_43 (by decide) ?_
      exact ih (k + 1) (by omega)  (by rw [← hq]; show _ = (if (y >>> (nI k &&& 31)) &&& 1 = 1 then (if a 1 0 0 ≤ nI k then _ else if a 2 k 1 = nd then _ else _) else _); rw [if_neg c_3]) ls (lv_sub hl [0, 1, 2, 3] rfl) H locs hP hS
    · refine lv_iload_n hx hb dX2_allLeadTo_17 rfl (lv_at hl 0 rfl) ?_
      refine lv_aload_n hx hb dX2_allLeadTo_18 rfl (lv_at hl 1 rfl) ?_
      refine va_get (D := (dC, dI)) (ws := [(L 1 0, .inr (2, [.ref (L 24 0), .int ((a 1 0) 0), .ref (L 25 0), .int κ.1]))]) (ci := 2) (v := .int ((a 1 0) 0)) (C := RX2) (T := TX2) (N := 4) hx hb hts tl_X2 hown hK (hP.one (tw_mem (f := 1) (i := 0) (by decide) rfl)) 0 rfl rfl 1 (by decide) (hts _ tw_697) (fun _ h9 => h9) rfl dX2_allLeadTo_19 ?_
      refine lv_icmp_ge (tgt := 38) hx hb dX2_allLeadTo_22 (by decide) (fun c_4 => ?_) (fun c_4 => ?_)
      · refine lv_iconst (v := 0) hx hb dX2_allLeadTo_38 (by decide) ?_
        refine W.widen (k := 0) (n := 0) (Nat.le_of_ble_eq_true rfl) (Nat.le_of_ble_eq_true rfl) ?_
        have g_2 : 0 = G_lead a nd y 32 0 := by
          rw [← hq]
          show _ = (if (y >>> (nI k &&& 31)) &&& 1 = 1 then (if a 1 0 0 ≤ nI k then _ else if a 2 k 1 = nd then _ else _) else _)
          rw [if_pos c_3, if_pos c_4]
        exact W.zret (v := 0) hx hb hr rfl (fun t ht hW => ⟨⟨0, 0, rfl, rfl, ⟨g_2, by show mw _ _ _ _ t.heap; rw [ht]; exact hP⟩⟩, hS.F ht⟩) hS.2.2 dX2_allLeadTo_39
      · refine lv_aload_n hx hb dX2_allLeadTo_25 rfl (lv_at hl 1 rfl) ?_
        refine va_get (D := (dC, dI)) (ws := [(L 1 0, .inr (2, [.ref (L 24 0), .int ((a 1 0) 0), .ref (L 25 0), .int κ.1]))]) (ci := 2) (v := .ref (L 24 0)) (C := RX2) (T := TX2) (N := 4) hx hb hts tl_X2 hown hK (hP.one (tw_mem (f := 1) (i := 0) (by decide) rfl)) 0 rfl rfl 0 (by decide) (hts _ tw_695) (fun _ h9 => h9) rfl dX2_allLeadTo_26 ?_
        refine lv_iload_n hx hb dX2_allLeadTo_29 rfl (lv_at hl 0 rfl) ?_
        have j_1 : (nI k : Int32).toNatClampNeg = k := m_cl rfl (nI_lt24 hw.1.1 c_4 (by omega)) (by decide)
        refine va_aldq hx hb hK (ws := [(L 24 0, .inl (cy 3, 24, .inr (.inr (.inr (.inr (fun j => some (L 2 j)))))))]) (hP.one (tw_mem (f := 24) (i := 0) (by decide) rfl)) 0 3 rfl rfl (m_in rfl (nI_lt24 hw.1.1 c_4 (by omega)) (by decide)) dX2_allLeadTo_30 ?_
        refine W.eq (g2 := F0 m 31 ls [.ref (L 2 k)]) (by first | (rw [j_1]; done) | (rw [j_1]; rfl)) ?_
        refine va_getN (D := (dC, dI)) (ws := [(L 2 k, .inr (1, [.int ((a 2 k) 0), .int ((a 2 k) 1), .int ((a 2 k) 2), .int ((a 2 k) 3), .int ((a 2 k) 4), .int ((a 2 k) 5), .int ((a 2 k) 6), .int ((a 2 k) 7), .int ((a 2 k) 8), .ref (L 3 k), .ref (L 5 k), .int ((a 2 k) 9), .int ((a 2 k) 10), .int ((a 2 k) 11), .int ((a 2 k) 12), .ref (L 7 k)]))]) (ci := 1) (v := .int ((a 2 k) 1)) (C := RX1) (T := TX1) (N := 16) hx hb hts tl_X1 hown hK (hP.one (tw_mem (f := 2) (i := k) (nI_lt24 hw.1.1 c_4 (by omega)) rfl)) 0 rfl rfl 1 (by decide) (va_Nw.use rfl (te_f3 hE)) (fun _ h9 => h9) rfl dX2_allLeadTo_31 ?_
        refine lv_iload_n hx hb dX2_allLeadTo_34 rfl (lv_at hl 2 rfl) ?_
        refine lv_icmp_eq (tgt := 40) hx hb dX2_allLeadTo_35 (by decide) (fun c_5 => ?_) (fun c_5 => ?_)
        · refine lv_iinc (v := nI (k + 1)) (lv' := [(3, .int (nI (k + 1))), (0, .ref (L 1 0)), (1, .int nd), (2, .int y)]) hx hb dX2_allLeadTo_40 hl (k := 0) rfl (nI_1 k) (by decide) rfl (fun ls hl => ?_)
          refine lv_goto (tgt := 2) hx hb dX2_allLeadTo_43 (by decide) ?_
          exact ih (k + 1) (by omega)  (by rw [← hq]; show _ = (if (y >>> (nI k &&& 31)) &&& 1 = 1 then (if a 1 0 0 ≤ nI k then _ else if a 2 k 1 = nd then _ else _) else _); rw [if_pos c_3, if_neg c_4, if_pos c_5]) ls (lv_sub hl [0, 1, 2, 3] rfl) H locs hP hS
        · refine lv_iconst (v := 0) hx hb dX2_allLeadTo_38 (by decide) ?_
          refine W.widen (k := 0) (n := 0) (Nat.le_of_ble_eq_true rfl) (Nat.le_of_ble_eq_true rfl) ?_
          have g_3 : 0 = G_lead a nd y 32 0 := by
            rw [← hq]
            show _ = (if (y >>> (nI k &&& 31)) &&& 1 = 1 then (if a 1 0 0 ≤ nI k then _ else if a 2 k 1 = nd then _ else _) else _)
            rw [if_pos c_3, if_neg c_4, if_neg c_5]
          exact W.zret (v := 0) hx hb hr rfl (fun t ht hW => ⟨⟨0, 0, rfl, rfl, ⟨g_3, by show mw _ _ _ _ t.heap; rw [ht]; exact hP⟩⟩, hS.F ht⟩) hS.2.2 dX2_allLeadTo_39
set_option maxRecDepth 100000 in
set_option maxHeartbeats 4000000 in
/-- Trails.get -/
theorem c_Trails_get (l : Launch) (dC : Nat → ClassId) (dI : Nat → Nat → Nat) (cy : Nat → ClassId) (L : Lay) (t0 : Nat) (a : St) (κ : Kap) (τ : Tau) (v : Nat) (vn : Int32) (pl : Int32) (j : Nat) (gn : Nat → Nat) (lk : Nat → Nat → Nat) (sz : Nat) (hT : TL L (some t0) τ) (hv : v < 200) (hvn : vn = nI v) (hpl : pl = nI j) (hj : j < gn v) (hB2 : gn v < 30000) (hg : TRg gn lk τ) : Met l yX6_get (tp_w yX6_get cX6_get 4 (some .int)) ({ frames := 1, cells := 0, slots := 0, locals := 22 }) (va_Pc [.ref t0, .int vn, .int pl] (mPre dC dI cy (TW cy L ((some t0)) a κ τ) sz)) (va_Qi (fun (r u : Int32) => r = u) (fun (u : Int32) (t : State) => (u = nI (lk v j)) ∧ mw (dC, dI) vwCl (mA (TW cy L ((some t0)) a κ τ) sz) (TW cy L ((some t0)) a κ τ) t.heap) (mA (TW cy L ((some t0)) a κ τ) sz)) (0) (0) (mA (TW cy L ((some t0)) a κ τ) sz) := by
  refine Met.ofW (cc := cX6_get) (maxL := 4) (ret := (some .int)) (by decide) rfl ?_
  intro p e s m args below meth c s₁ B hml hv
  obtain ⟨rfl, hsz, hP, hK, hE⟩ := hv
  have hx := B.exec
  have hb := B.bytes
  have hr := B.returns
  have hts0 := atoms_spec (ws := tp_w yX6_get cX6_get 4 (some .int)) B.pre
  have hts : ∀ w ∈ tp_all, w.before _ s = true := fun w h => hts0 w (List.mem_cons_of_mem _ h)
  have hown : s.vm.findClass RX6 = some m.cls := findClass_of_methodNamed B.named
  have hlocks := B.notSynchronized
  subst hsz
  have hP := hP.self s.heap.size
  generalize hAe : mA (TW cy L ((some t0)) a κ τ) s.heap.size = A at hP ⊢
  have hA : ∀ q : Nat, s.heap.size ≤ q → A q := fun q h => by rw [← hAe]; exact Or.inr h
  have hS : va_S A s.heap s.heap [] := va_S.rf
  have hl9 := lv_entry ([.ref t0, .int vn, .int pl]) (n := 4) (Nat.le_of_ble_eq_true rfl)
  rw [lg_entry_eq]
  generalize (lg_sl ([.ref t0, .int vn, .int pl]) ++ List.replicate (4 - (lg_sl ([.ref t0, .int vn, .int pl])).length) Slot.unset).toArray = ls at hl9 ⊢
  have hl : lv_has ls 4 [(0, .ref t0), (1, .int vn), (2, .int pl)] := hl9
  have hcl : vn.toNatClampNeg = v := m_cl hvn hv (by decide)
  refine lv_iload_n hx hb dX6_get_0 rfl (lv_at hl 1 rfl) ?_
  refine lv_iconst (v := 0) hx hb dX6_get_1 (by decide) ?_
  refine lv_sipush (v := 199) hx hb dX6_get_2 (by decide) ?_
  have hFc := m_free (C := (TW cy L ((some t0)) a κ τ)) hP hS hA (fun _ _ h => h)
  refine va_calli (va_runSN (As := [.int vn, .int 0, .int 199]) (rest := []) ⟨hx, hb, hml, hown, hts⟩ (c_isWithin l dC dI cy ((TW cy L ((some t0)) a κ τ)) vn 0 199 s.heap.size) ⟨tp_cnB 3 hts (te_m0 hE) tw_20 tw_44 rfl rfl (by decide +kernel) ⟨Nat.le_of_ble_eq_true rfl, Nat.le_of_ble_eq_true rfl⟩, hts _ tw_43, trivial⟩ ⟨m_blind, fun U hU hW => ⟨rfl, m_pay hK hP hE (fun _ _ h => h) U hU hW⟩⟩ rfl rfl hl.1 rfl (lv_room (Nat.le_of_ble_eq_true rfl)) dX6_get_5 ⟨(Nat.le_of_ble_eq_true rfl), (Nat.le_of_ble_eq_true rfl)⟩) hS (fun q _ h => hFc q h) hFc (fun r_1 u t H1 locs ht hvm hpo hB hz1 hk1 hS => ?_)
  obtain rfl := hpo
  obtain ⟨f_1, hP1⟩ := hB
  subst f_1
  rw [ht] at hP1
  have hP : mw (dC, dI) vwCl A (TW cy L ((some t0)) a κ τ) H1 := hP.join (fun _ _ h => h) hk1 hFc hP1 (fun _ _ h => Or.inl h)
  generalize H1 = H at hP hS ⊢
  clear hP1 hk1 hFc
  refine W.eq (g2 := F0 m 8 ls [.int 1]) (by rw [W_in_1 (by rw [hvn]; exact nI_pos (by omega)) (by rw [hvn]; exact nI_nlt (a := 199) (b := v) (by omega) (by decide))]) ?_
  refine lv_if_eq (tgt := 15) hx hb dX6_get_8 (by decide) (fun c_1 => absurd c_1 (by decide)) (fun _ => ?_)
  refine lv_iload_n hx hb dX6_get_11 rfl (lv_at hl 2 rfl) ?_
  refine lv_if_ge (tgt := 17) hx hb dX6_get_12 (by decide) (fun _ => ?_) (fun c_2 => absurd (by rw [hpl]; first | exact nI_pos' (by omega) | exact nI_pos (by omega)) c_2)
  refine lv_iload_n hx hb dX6_get_17 rfl (lv_at hl 2 rfl) ?_
  refine lv_bipush (v := 12) hx hb dX6_get_18 (by decide) ?_
  refine lv_idiv hx hb dX6_get_20 (by decide) ?_
  refine W.eq (g2 := F0 m 21 ls [.int (nI (j / 12))]) (by rw [hpl]; exact congrArg (fun z => F0 m _ ls [Value.int z]) (pk_div (a := j) (d := 12) (by omega) (by decide) (by decide))) ?_
  refine lv_istore_n (lv' := [(3, .int (nI (j / 12))), (0, .ref t0), (1, .int vn), (2, .int pl)]) hx hb dX6_get_21 rfl hl (by decide) rfl (fun ls hl => ?_)
  obtain ⟨g1, g2, g3, g4⟩ := hg v hv
  have hj9 : j / 12 < τ.2.2.1 v := by omega
  obtain ⟨W9, hW1, hW2, hW3⟩ := g4 _ hj9
  have hW4 := hW3 (j % 12) (by omega) (by omega)
  rw [show 12 * (j / 12) + j % 12 = j by omega] at hW4
  have hW5 : W9 < 2 ^ 60 := Nat.lt_of_lt_of_le hW2 (p32_60 (Nat.min_le_left _ _))
  refine lv_iload_n hx hb dX6_get_22 rfl (lv_at hl 0 rfl) ?_
  refine lv_aload_n hx hb dX6_get_23 rfl (lv_at hl 1 rfl) ?_
  refine va_get (D := (dC, dI)) (ws := [(t0, .inr (6, [.ref τ.1]))]) (ci := 6) (v := .ref τ.1) (C := RX6) (T := TX6) (N := 1) hx hb hts tl_X6 hown hK (hP.one tr_t) 0 rfl rfl 0 (by decide) (hts _ tw_727) (fun _ h9 => h9) rfl dX6_get_24 ?_
  refine lv_iload_n hx hb dX6_get_27 rfl (lv_at hl 2 rfl) ?_
  refine m_aldA hx hb hK (ws := [(τ.1, .inl (cy 9, 200, .inr (.inr (.inr (.inr (fun v => some (τ.2.1 v)))))))]) (hP.one tr_w) 0 9 rfl rfl (m_in hvn hv (by decide)) dX6_get_28 ?_
  refine W.eq (g2 := F0 m 29 ls [.ref (τ.2.1 v), .int (nI (j / 12))]) (by rw [hcl]; rfl) ?_
  refine va_alen hx hb hK (ws := [(τ.2.1 v, .inl (cy 1, (τ.2.2.1 v), .inr (.inl (τ.2.2.2 v))))]) (hP.one (tr_r hv)) 0 1 rfl rfl (v := nI (τ.2.2.1 v)) rfl dX6_get_29 ?_
  refine lv_icmp_lt (tgt := 35) hx hb dX6_get_30 (by decide) (fun _ => ?_) (fun c_3 => absurd (nI_lt hj9 (by omega)) c_3)
  refine lv_aload_n hx hb dX6_get_35 rfl (lv_at hl 1 rfl) ?_
  refine va_get (D := (dC, dI)) (ws := [(t0, .inr (6, [.ref τ.1]))]) (ci := 6) (v := .ref τ.1) (C := RX6) (T := TX6) (N := 1) hx hb hts tl_X6 hown hK (hP.one tr_t) 0 rfl rfl 0 (by decide) (hts _ tw_727) (fun _ h9 => h9) rfl dX6_get_36 ?_
  refine lv_iload_n hx hb dX6_get_39 rfl (lv_at hl 2 rfl) ?_
  refine m_aldA hx hb hK (ws := [(τ.1, .inl (cy 9, 200, .inr (.inr (.inr (.inr (fun v => some (τ.2.1 v)))))))]) (hP.one tr_w) 0 9 rfl rfl (m_in hvn hv (by decide)) dX6_get_40 ?_
  refine W.eq (g2 := F0 m 41 ls [.ref (τ.2.1 v)]) (by rw [hcl]; rfl) ?_
  refine lv_iload_n hx hb dX6_get_41 rfl (lv_at hl 0 rfl) ?_
  have hcj : (nI (j / 12)).toNatClampNeg = j / 12 := nI_clamp (by omega)
  refine va_lald hx hb hK (ws := [(τ.2.1 v, .inl (cy 1, (τ.2.2.1 v), .inr (.inl (τ.2.2.2 v))))]) (hP.one (tr_r hv)) 0 1 rfl rfl (vp_in_nI hj9 (by omega)) dX6_get_42 ?_
  refine W.eq (g2 := F0 m 43 ls [.long (lN W9)]) (by rw [hcj, hW1]) ?_
  refine lv_iload_n hx hb dX6_get_43 rfl (lv_at hl 3 rfl) ?_
  refine lv_bipush (v := 12) hx hb dX6_get_44 (by decide) ?_
  refine lv_irem hx hb dX6_get_46 (by decide) ?_
  refine W.eq (g2 := F0 m 47 ls [.int (nI (j % 12)), .long (lN W9)]) (by rw [hpl, show nI j - nI j / 12 * 12 = nI (j % 12) from pk_rem (a := j) (d := 12) (by omega) (by decide) (by decide)]) ?_
  refine lv_iconst (v := 5) hx hb dX6_get_47 (by decide) ?_
  refine lv_imul hx hb dX6_get_48 ?_
  refine W.eq (g2 := F0 m 49 ls [.int (nI (j % 12 * 5)), .long (lN W9)]) (by rw [show nI (j % 12) * 5 = nI (j % 12 * 5) from pk_mul _ 5]) ?_
  refine lv_lushr (v := lN (W9 / 2 ^ (j % 12 * 5))) hx hb dX6_get_49 (wb_shr (by omega) (by omega)) ?_
  have hW6 : W9 / 2 ^ (j % 12 * 5) < 2 ^ 60 := Nat.lt_of_le_of_lt (Nat.div_le_self _ _) hW5
  refine lv_l2i (v := nI (W9 / 2 ^ (j % 12 * 5))) hx hb dX6_get_50 (lN_i _) ?_
  refine lv_bipush (v := 31) hx hb dX6_get_51 (by decide) ?_
  refine lv_iand hx hb dX6_get_53 ?_
  refine W.eq (g2 := F0 m 54 ls [.int (nI (lk v j))]) (by rw [nI_and31, p32_5, hW4]) ?_
  refine W.widen (k := 0) (n := 0) (Nat.le_of_ble_eq_true rfl) (Nat.le_of_ble_eq_true rfl) ?_
  have g_1 : (nI (lk v j)) = nI (lk v j) := by
    rfl
  exact W.iret (v := nI (lk v j)) hx hb hr (fun t ht hW => ⟨⟨(nI (lk v j)), (nI (lk v j)), rfl, rfl, ⟨g_1, by show mw _ _ _ _ t.heap; rw [ht]; exact hP⟩⟩, hS.F ht⟩) hS.2.2 dX6_get_54

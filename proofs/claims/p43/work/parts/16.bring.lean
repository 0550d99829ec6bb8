theorem tw_207 : Cond.code yX7_come cX7_come 5 none ∈ tp_all := tp_mem 207 (by decide +kernel) rfl
theorem tw_204 : Cond.methodLink RX5 102 yX7_come ∈ tp_all := tp_mem 204 (by decide +kernel) rfl
theorem tw_205 : Cond.instanceMethod yX7_come ∈ tp_all := tp_mem 205 (by decide +kernel) rfl
theorem tw_206 : Cond.selects RX7 yX7_come yX7_come ∈ tp_all := tp_mem 206 (by decide +kernel) rfl
theorem tw_877 : Cond.fieldLink RX5 26 "Turnpike$Traffic" "row" "[LTurnpike$Row;" ∈ tp_all := tp_mem 877 (by decide +kernel) rfl
theorem tw_228 : Cond.methodLink RX5 122 yX3_append ∈ tp_all := tp_mem 228 (by decide +kernel) rfl
theorem tw_211 : Cond.code yX2_planWay cX2_planWay 7 (some .boolean) ∈ tp_all := tp_mem 211 (by decide +kernel) rfl
theorem tw_208 : Cond.methodLink RX5 112 yX2_planWay ∈ tp_all := tp_mem 208 (by decide +kernel) rfl
theorem tw_209 : Cond.instanceMethod yX2_planWay ∈ tp_all := tp_mem 209 (by decide +kernel) rfl
theorem tw_210 : Cond.selects RX2 yX2_planWay yX2_planWay ∈ tp_all := tp_mem 210 (by decide +kernel) rfl
theorem tw_199 : Cond.code yX0_bringsIn cX0_bringsIn 3 (some .boolean) ∈ tp_all := tp_mem 199 (by decide +kernel) rfl
theorem tw_196 : Cond.methodLink RX5 89 yX0_bringsIn ∈ tp_all := tp_mem 196 (by decide +kernel) rfl
theorem tw_197 : Cond.instanceMethod yX0_bringsIn ∈ tp_all := tp_mem 197 (by decide +kernel) rfl
theorem tw_198 : Cond.selects RX0 yX0_bringsIn yX0_bringsIn ∈ tp_all := tp_mem 198 (by decide +kernel) rfl
theorem tw_203 : Cond.code yX5_bring cX5_bring 4 none ∈ tp_all := tp_mem 203 (by decide +kernel) rfl
theorem tw_200 : Cond.methodLink RX5 93 yX5_bring ∈ tp_all := tp_mem 200 (by decide +kernel) rfl
theorem tw_202 : Cond.instanceMethod yX5_bring ∈ tp_all := tp_mem 202 (by decide +kernel) rfl
theorem tw_3 : Cond.selects RX5 yX5_bring yX5_bring ∈ tp_all := tp_mem 3 (by decide +kernel) rfl
theorem tw_21 : Cond.initialized RX5 ∈ tp_all := tp_mem 21 (by decide +kernel) rfl
theorem te_f32 {U : State} (h : tp_E U) : va_Nw (.fieldLinkNest "Turnpike$Traffic" 96 "Turnpike$Flow" "to" "I" "Turnpike") U := h.1 _ (List.mem_of_getElem? (i := 32) rfl)
theorem te_f33 {U : State} (h : tp_E U) : va_Nw (.fieldLinkNest "Turnpike$Traffic" 99 "Turnpike$Flow" "kind" "I" "Turnpike") U := h.1 _ (List.mem_of_getElem? (i := 33) rfl)
theorem te_f37 {U : State} (h : tp_E U) : va_Nw (.fieldLinkNest "Turnpike$Traffic" 106 "Turnpike$Flow" "came" "I" "Turnpike") U := h.1 _ (List.mem_of_getElem? (i := 37) rfl)
theorem te_f31 {U : State} (h : tp_E U) : va_Nw (.fieldLinkNest "Turnpike$Traffic" 109 "Turnpike$Flow" "from" "I" "Turnpike") U := h.1 _ (List.mem_of_getElem? (i := 31) rfl)
theorem te_f49 {U : State} (h : tp_E U) : va_Nw (.fieldLinkNest "Turnpike$Traffic" 116 "Turnpike$Vehicle" "state" "I" "Turnpike") U := h.1 _ (List.mem_of_getElem? (i := 49) rfl)
theorem te_f40 {U : State} (h : tp_E U) : va_Nw (.fieldLinkNest "Turnpike$Traffic" 119 "Turnpike$Flow" "givenUp" "I" "Turnpike") U := h.1 _ (List.mem_of_getElem? (i := 40) rfl)
theorem dX5_bring_0 : decode cX5_bring 0 = .ok (.aload_n 0, 1) := by decide +kernel
theorem dX5_bring_1 : decode cX5_bring 1 = .ok (.getfield 32, 3) := by decide +kernel
theorem dX5_bring_4 : decode cX5_bring 4 = .ok (.iload_n 1, 1) := by decide +kernel
theorem dX5_bring_5 : decode cX5_bring 5 = .ok (.aaload, 1) := by decide +kernel
theorem dX5_bring_6 : decode cX5_bring 6 = .ok (.astore_n 2, 1) := by decide +kernel
theorem dX5_bring_7 : decode cX5_bring 7 = .ok (.aload_n 0, 1) := by decide +kernel
theorem dX5_bring_8 : decode cX5_bring 8 = .ok (.getfield 38, 3) := by decide +kernel
theorem dX5_bring_11 : decode cX5_bring 11 = .ok (.aload_n 0, 1) := by decide +kernel
theorem dX5_bring_12 : decode cX5_bring 12 = .ok (.getfield 59, 3) := by decide +kernel
theorem dX5_bring_15 : decode cX5_bring 15 = .ok (.aaload, 1) := by decide +kernel
theorem dX5_bring_16 : decode cX5_bring 16 = .ok (.astore_n 3, 1) := by decide +kernel
theorem dX5_bring_17 : decode cX5_bring 17 = .ok (.aload_n 3, 1) := by decide +kernel
theorem dX5_bring_18 : decode cX5_bring 18 = .ok (.iload_n 1, 1) := by decide +kernel
theorem dX5_bring_19 : decode cX5_bring 19 = .ok (.aload_n 2, 1) := by decide +kernel
theorem dX5_bring_20 : decode cX5_bring 20 = .ok (.getfield 96, 3) := by decide +kernel
theorem dX5_bring_23 : decode cX5_bring 23 = .ok (.aload_n 2, 1) := by decide +kernel
theorem dX5_bring_24 : decode cX5_bring 24 = .ok (.getfield 99, 3) := by decide +kernel
theorem dX5_bring_27 : decode cX5_bring 27 = .ok (.aload_n 0, 1) := by decide +kernel
theorem dX5_bring_28 : decode cX5_bring 28 = .ok (.getfield 65, 3) := by decide +kernel
theorem dX5_bring_31 : decode cX5_bring 31 = .ok (.invokevirtual 102, 3) := by decide +kernel
theorem dX5_bring_34 : decode cX5_bring 34 = .ok (.aload_n 2, 1) := by decide +kernel
theorem dX5_bring_35 : decode cX5_bring 35 = .ok (.dup, 1) := by decide +kernel
theorem dX5_bring_36 : decode cX5_bring 36 = .ok (.getfield 106, 3) := by decide +kernel
theorem dX5_bring_39 : decode cX5_bring 39 = .ok (.iconst 1, 1) := by decide +kernel
theorem dX5_bring_40 : decode cX5_bring 40 = .ok (.iadd, 1) := by decide +kernel
theorem dX5_bring_41 : decode cX5_bring 41 = .ok (.putfield 106, 3) := by decide +kernel
theorem dX5_bring_44 : decode cX5_bring 44 = .ok (.aload_n 2, 1) := by decide +kernel
theorem dX5_bring_45 : decode cX5_bring 45 = .ok (.getfield 99, 3) := by decide +kernel
theorem dX5_bring_48 : decode cX5_bring 48 = .ok (.ifCond .ne 36, 3) := by decide +kernel
theorem dX5_bring_84 : decode cX5_bring 84 = .ok (.aload_n 0, 1) := by decide +kernel
theorem dX5_bring_85 : decode cX5_bring 85 = .ok (.getfield 26, 3) := by decide +kernel
theorem dX5_bring_88 : decode cX5_bring 88 = .ok (.aload_n 2, 1) := by decide +kernel
theorem dX5_bring_89 : decode cX5_bring 89 = .ok (.getfield 109, 3) := by decide +kernel
theorem dX5_bring_92 : decode cX5_bring 92 = .ok (.aaload, 1) := by decide +kernel
theorem dX5_bring_93 : decode cX5_bring 93 = .ok (.aload_n 0, 1) := by decide +kernel
theorem dX5_bring_94 : decode cX5_bring 94 = .ok (.getfield 59, 3) := by decide +kernel
theorem dX5_bring_97 : decode cX5_bring 97 = .ok (.invokevirtual 122, 3) := by decide +kernel
theorem dX5_bring_100 : decode cX5_bring 100 = .ok (.aload_n 0, 1) := by decide +kernel
theorem dX5_bring_101 : decode cX5_bring 101 = .ok (.dup, 1) := by decide +kernel
theorem dX5_bring_102 : decode cX5_bring 102 = .ok (.getfield 125, 3) := by decide +kernel
theorem dX5_bring_105 : decode cX5_bring 105 = .ok (.iconst 1, 1) := by decide +kernel
theorem dX5_bring_106 : decode cX5_bring 106 = .ok (.iadd, 1) := by decide +kernel
theorem dX5_bring_107 : decode cX5_bring 107 = .ok (.putfield 125, 3) := by decide +kernel
theorem dX5_bring_110 : decode cX5_bring 110 = .ok (.aload_n 0, 1) := by decide +kernel
theorem dX5_bring_111 : decode cX5_bring 111 = .ok (.dup, 1) := by decide +kernel
theorem dX5_bring_112 : decode cX5_bring 112 = .ok (.getfield 59, 3) := by decide +kernel
theorem dX5_bring_115 : decode cX5_bring 115 = .ok (.iconst 1, 1) := by decide +kernel
theorem dX5_bring_116 : decode cX5_bring 116 = .ok (.iadd, 1) := by decide +kernel
theorem dX5_bring_117 : decode cX5_bring 117 = .ok (.putfield 59, 3) := by decide +kernel
theorem dX5_bring_120 : decode cX5_bring 120 = .ok (.return_, 1) := by decide +kernel
theorem dX5_bring_51 : decode cX5_bring 51 = .ok (.aload_n 0, 1) := by decide +kernel
theorem dX5_bring_52 : decode cX5_bring 52 = .ok (.getfield 12, 3) := by decide +kernel
theorem dX5_bring_55 : decode cX5_bring 55 = .ok (.aload_n 3, 1) := by decide +kernel
theorem dX5_bring_56 : decode cX5_bring 56 = .ok (.aload_n 2, 1) := by decide +kernel
theorem dX5_bring_57 : decode cX5_bring 57 = .ok (.getfield 109, 3) := by decide +kernel
theorem dX5_bring_60 : decode cX5_bring 60 = .ok (.invokevirtual 112, 3) := by decide +kernel
theorem dX5_bring_63 : decode cX5_bring 63 = .ok (.ifCond .ne 21, 3) := by decide +kernel
theorem dX5_bring_66 : decode cX5_bring 66 = .ok (.aload_n 3, 1) := by decide +kernel
theorem dX5_bring_67 : decode cX5_bring 67 = .ok (.iconst 3, 1) := by decide +kernel
theorem dX5_bring_68 : decode cX5_bring 68 = .ok (.putfield 116, 3) := by decide +kernel
theorem dX5_bring_71 : decode cX5_bring 71 = .ok (.aload_n 2, 1) := by decide +kernel
theorem dX5_bring_72 : decode cX5_bring 72 = .ok (.dup, 1) := by decide +kernel
theorem dX5_bring_73 : decode cX5_bring 73 = .ok (.getfield 119, 3) := by decide +kernel
theorem dX5_bring_76 : decode cX5_bring 76 = .ok (.iconst 1, 1) := by decide +kernel
theorem dX5_bring_77 : decode cX5_bring 77 = .ok (.iadd, 1) := by decide +kernel
theorem dX5_bring_78 : decode cX5_bring 78 = .ok (.putfield 119, 3) := by decide +kernel
theorem dX5_bring_81 : decode cX5_bring 81 = .ok (.goto 29, 3) := by decide +kernel
theorem dX5_bringVehicles_0 : decode cX5_bringVehicles 0 = .ok (.iconst 0, 1) := by decide +kernel
theorem dX5_bringVehicles_1 : decode cX5_bringVehicles 1 = .ok (.istore_n 1, 1) := by decide +kernel
theorem dX5_bringVehicles_2 : decode cX5_bringVehicles 2 = .ok (.iload_n 1, 1) := by decide +kernel
theorem dX5_bringVehicles_3 : decode cX5_bringVehicles 3 = .ok (.aload_n 0, 1) := by decide +kernel
theorem dX5_bringVehicles_4 : decode cX5_bringVehicles 4 = .ok (.getfield 86, 3) := by decide +kernel
theorem dX5_bringVehicles_7 : decode cX5_bringVehicles 7 = .ok (.if_icmp .ge 40, 3) := by decide +kernel
theorem dX5_bringVehicles_47 : decode cX5_bringVehicles 47 = .ok (.return_, 1) := by decide +kernel
theorem dX5_bringVehicles_10 : decode cX5_bringVehicles 10 = .ok (.aload_n 0, 1) := by decide +kernel
theorem dX5_bringVehicles_11 : decode cX5_bringVehicles 11 = .ok (.getfield 32, 3) := by decide +kernel
theorem dX5_bringVehicles_14 : decode cX5_bringVehicles 14 = .ok (.iload_n 1, 1) := by decide +kernel
theorem dX5_bringVehicles_15 : decode cX5_bringVehicles 15 = .ok (.aaload, 1) := by decide +kernel
theorem dX5_bringVehicles_16 : decode cX5_bringVehicles 16 = .ok (.aload_n 0, 1) := by decide +kernel
theorem dX5_bringVehicles_17 : decode cX5_bringVehicles 17 = .ok (.getfield 65, 3) := by decide +kernel
theorem dX5_bringVehicles_20 : decode cX5_bringVehicles 20 = .ok (.invokevirtual 89, 3) := by decide +kernel
theorem dX5_bringVehicles_23 : decode cX5_bringVehicles 23 = .ok (.ifCond .eq 18, 3) := by decide +kernel
theorem dX5_bringVehicles_41 : decode cX5_bringVehicles 41 = .ok (.iinc 1 1, 3) := by decide +kernel
theorem dX5_bringVehicles_44 : decode cX5_bringVehicles 44 = .ok (.goto (-42), 3) := by decide +kernel
theorem dX5_bringVehicles_26 : decode cX5_bringVehicles 26 = .ok (.aload_n 0, 1) := by decide +kernel
theorem dX5_bringVehicles_27 : decode cX5_bringVehicles 27 = .ok (.getfield 59, 3) := by decide +kernel
theorem dX5_bringVehicles_30 : decode cX5_bringVehicles 30 = .ok (.sipush 200, 3) := by decide +kernel
theorem dX5_bringVehicles_33 : decode cX5_bringVehicles 33 = .ok (.if_icmp .ge 8, 3) := by decide +kernel
theorem dX5_bringVehicles_36 : decode cX5_bringVehicles 36 = .ok (.aload_n 0, 1) := by decide +kernel
theorem dX5_bringVehicles_37 : decode cX5_bringVehicles 37 = .ok (.iload_n 1, 1) := by decide +kernel
theorem dX5_bringVehicles_38 : decode cX5_bringVehicles 38 = .ok (.invokevirtual 93, 3) := by decide +kernel
set_option maxRecDepth 100000 in
set_option maxHeartbeats 4000000 in
/-- Traffic.bring -/
theorem c_Traffic_bring (l : Launch) (dC : Nat → ClassId) (dI : Nat → Nat → Nat) (cy : Nat → ClassId) (L : Lay) (tr : Option Nat) (a : St) (κ : Kap) (τ : Tau) (M : Nat) (f : Nat) (sz : Nat) (hT : TL L tr τ) (hw : Wf M a) (hf : f < 10) (hv : (a 0 0 4).toInt < 200) (hκ : CV a κ) : Met l yX5_bring (tp_w yX5_bring cX5_bring 4 none) ({ frames := 4, cells := 0, slots := 0, locals := 103 }) (va_Pc [.ref (L 0 0), .int (nI f)] (mPre dC dI cy (TW cy L tr a κ τ) sz)) (va_Qv (fun _ : Unit => True) (fun (_ : Unit) (t : State) => ∃ (κ2 : Kap), (CV (T_bring a f) κ2) ∧ mw (dC, dI) vwCl (mA (TW cy L tr a κ τ) sz) (TW cy L tr (T_bring a f) κ2 τ) t.heap) (mA (TW cy L tr a κ τ) sz)) (0) (0) (mA (TW cy L tr a κ τ) sz) := by
  refine Met.ofW (cc := cX5_bring) (maxL := 4) (ret := none) (by decide) rfl ?_
  intro p e s m args below meth c s₁ B hml hv
  obtain ⟨rfl, hsz, hP, hK, hE⟩ := hv
  have hx := B.exec
  have hb := B.bytes
  have hr := B.returns
  have hts0 := atoms_spec (ws := tp_w yX5_bring cX5_bring 4 none) B.pre
  have hts : ∀ w ∈ tp_all, w.before _ s = true := fun w h => hts0 w (List.mem_cons_of_mem _ h)
  have hown : s.vm.findClass RX5 = some m.cls := findClass_of_methodNamed B.named
  have hlocks := B.notSynchronized
  subst hsz
  have hP := hP.self s.heap.size
  generalize hAe : mA (TW cy L tr a κ τ) s.heap.size = A at hP ⊢
  have hA : ∀ q : Nat, s.heap.size ≤ q → A q := fun q h => by rw [← hAe]; exact Or.inr h
  have hS : va_S A s.heap s.heap [] := va_S.rf
  have hl9 := lv_entry ([.ref (L 0 0), .int (nI f)]) (n := 4) (Nat.le_of_ble_eq_true rfl)
  rw [lg_entry_eq]
  generalize (lg_sl ([.ref (L 0 0), .int (nI f)]) ++ List.replicate (4 - (lg_sl ([.ref (L 0 0), .int (nI f)])).length) Slot.unset).toArray = ls at hl9 ⊢
  have hl : lv_has ls 4 [(0, .ref (L 0 0)), (1, .int (nI f))] := hl9
  refine lv_aload_n hx hb dX5_bring_0 rfl (lv_at hl 0 rfl) ?_
  have hv2 : (a 0 0 4).toNatClampNeg < 200 := m_ltI hw.1.2.2.2.1 hv
  refine va_get (D := (dC, dI)) (ws := [(L 0 0, .inr (5, [.ref (L 1 0), .ref (L 20 0), .ref (L 21 0), .ref (L 22 0), .ref (L 23 0), va_rf tr, .int ((a 0 0) 0), .int ((a 0 0) 1), .int ((a 0 0) 2), .int ((a 0 0) 3), .int ((a 0 0) 4), .int ((a 0 0) 5)]))]) (ci := 5) (v := .ref (L 22 0)) (C := RX5) (T := TX5) (N := 12) hx hb hts tl_X5 hown hK (hP.one (tw_mem (f := 0) (i := 0) (by decide) rfl)) 0 rfl rfl 3 (by decide) (hts _ tw_879) (fun _ h9 => h9) rfl dX5_bring_1 ?_
  refine lv_iload_n hx hb dX5_bring_4 rfl (lv_at hl 1 rfl) ?_
  have j_1 : (nI f : Int32).toNatClampNeg = f := m_cl rfl hf (by decide)
  refine va_aldq hx hb hK (ws := [(L 22 0, .inl (cy 6, 10, .inr (.inr (.inr (.inr (fun j => some (L 14 j)))))))]) (hP.one (tw_mem (f := 22) (i := 0) (by decide) rfl)) 0 6 rfl rfl (m_in rfl hf (by decide)) dX5_bring_5 ?_
  refine W.eq (g2 := F0 m 6 ls [.ref (L 14 f)]) (by first | (rw [j_1]; done) | (rw [j_1]; rfl)) ?_
  refine lv_astore_n (lv' := [(2, .ref (L 14 f)), (0, .ref (L 0 0)), (1, .int (nI f))]) hx hb dX5_bring_6 rfl hl (by decide) rfl (fun ls hl => ?_)
  refine lv_aload_n hx hb dX5_bring_7 rfl (lv_at hl 1 rfl) ?_
  refine va_get (D := (dC, dI)) (ws := [(L 0 0, .inr (5, [.ref (L 1 0), .ref (L 20 0), .ref (L 21 0), .ref (L 22 0), .ref (L 23 0), va_rf tr, .int ((a 0 0) 0), .int ((a 0 0) 1), .int ((a 0 0) 2), .int ((a 0 0) 3), .int ((a 0 0) 4), .int ((a 0 0) 5)]))]) (ci := 5) (v := .ref (L 23 0)) (C := RX5) (T := TX5) (N := 12) hx hb hts tl_X5 hown hK (hP.one (tw_mem (f := 0) (i := 0) (by decide) rfl)) 0 rfl rfl 4 (by decide) (hts _ tw_881) (fun _ h9 => h9) rfl dX5_bring_8 ?_
  refine lv_aload_n hx hb dX5_bring_11 rfl (lv_at hl 1 rfl) ?_
  refine va_get (D := (dC, dI)) (ws := [(L 0 0, .inr (5, [.ref (L 1 0), .ref (L 20 0), .ref (L 21 0), .ref (L 22 0), .ref (L 23 0), va_rf tr, .int ((a 0 0) 0), .int ((a 0 0) 1), .int ((a 0 0) 2), .int ((a 0 0) 3), .int ((a 0 0) 4), .int ((a 0 0) 5)]))]) (ci := 5) (v := .int ((a 0 0) 4)) (C := RX5) (T := TX5) (N := 12) hx hb hts tl_X5 hown hK (hP.one (tw_mem (f := 0) (i := 0) (by decide) rfl)) 0 rfl rfl 10 (by decide) (hts _ tw_893) (fun _ h9 => h9) rfl dX5_bring_12 ?_
  have j_2 : ((a 0 0) 4 : Int32).toNatClampNeg = (a 0 0 4).toNatClampNeg := m_cl (in_nI hw.1.2.2.2) hv2 (by decide)
  refine va_aldq hx hb hK (ws := [(L 23 0, .inl (cy 7, 200, .inr (.inr (.inr (.inr (fun j => some (L 15 j)))))))]) (hP.one (tw_mem (f := 23) (i := 0) (by decide) rfl)) 0 7 rfl rfl (m_in (in_nI hw.1.2.2.2) hv2 (by decide)) dX5_bring_15 ?_
  refine W.eq (g2 := F0 m 16 ls [.ref (L 15 ((a 0 0 4).toNatClampNeg))]) (by first | (rw [j_2]; done) | (rw [j_2]; rfl)) ?_
  refine lv_astore_n (lv' := [(3, .ref (L 15 ((a 0 0 4).toNatClampNeg))), (2, .ref (L 14 f)), (0, .ref (L 0 0)), (1, .int (nI f))]) hx hb dX5_bring_16 rfl hl (by decide) rfl (fun ls hl => ?_)
  refine lv_aload_n hx hb dX5_bring_17 rfl (lv_at hl 0 rfl) ?_
  refine lv_iload_n hx hb dX5_bring_18 rfl (lv_at hl 3 rfl) ?_
  refine lv_aload_n hx hb dX5_bring_19 rfl (lv_at hl 1 rfl) ?_
  refine va_getN (D := (dC, dI)) (ws := [(L 14 f, .inr (0, [.int ((a 14 f) 0), .int ((a 14 f) 1), .int ((a 14 f) 2), .int ((a 14 f) 3), .int ((a 14 f) 4), .int ((a 14 f) 5), .int ((a 14 f) 6), .int ((a 14 f) 7), .int ((a 14 f) 8), .int ((a 14 f) 9), .int ((a 14 f) 10), .int ((a 14 f) 11)]))]) (ci := 0) (v := .int ((a 14 f) 1)) (C := RX0) (T := TX0) (N := 12) hx hb hts tl_X0 hown hK (hP.one (tw_mem (f := 14) (i := f) hf rfl)) 0 rfl rfl 1 (by decide) (va_Nw.use rfl (te_f32 hE)) (fun _ h9 => h9) rfl dX5_bring_20 ?_
  refine lv_aload_n hx hb dX5_bring_23 rfl (lv_at hl 1 rfl) ?_
  refine va_getN (D := (dC, dI)) (ws := [(L 14 f, .inr (0, [.int ((a 14 f) 0), .int ((a 14 f) 1), .int ((a 14 f) 2), .int ((a 14 f) 3), .int ((a 14 f) 4), .int ((a 14 f) 5), .int ((a 14 f) 6), .int ((a 14 f) 7), .int ((a 14 f) 8), .int ((a 14 f) 9), .int ((a 14 f) 10), .int ((a 14 f) 11)]))]) (ci := 0) (v := .int ((a 14 f) 2)) (C := RX0) (T := TX0) (N := 12) hx hb hts tl_X0 hown hK (hP.one (tw_mem (f := 14) (i := f) hf rfl)) 0 rfl rfl 2 (by decide) (va_Nw.use rfl (te_f33 hE)) (fun _ h9 => h9) rfl dX5_bring_24 ?_
  refine lv_aload_n hx hb dX5_bring_27 rfl (lv_at hl 2 rfl) ?_
  refine va_get (D := (dC, dI)) (ws := [(L 0 0, .inr (5, [.ref (L 1 0), .ref (L 20 0), .ref (L 21 0), .ref (L 22 0), .ref (L 23 0), va_rf tr, .int ((a 0 0) 0), .int ((a 0 0) 1), .int ((a 0 0) 2), .int ((a 0 0) 3), .int ((a 0 0) 4), .int ((a 0 0) 5)]))]) (ci := 5) (v := .int ((a 0 0) 0)) (C := RX5) (T := TX5) (N := 12) hx hb hts tl_X5 hown hK (hP.one (tw_mem (f := 0) (i := 0) (by decide) rfl)) 0 rfl rfl 6 (by decide) (hts _ tw_885) (fun _ h9 => h9) rfl dX5_bring_28 ?_
  have hFc := m_free (C := (TW cy L tr a κ τ)) hP hS hA (fun _ _ h => h)
  refine va_callv (va_runV (As := [.int (nI f), .int ((a 14 f) 1), .int ((a 14 f) 2), .int ((a 0 0) 0)]) (rest := []) ⟨hx, hb, hml, hown, hts⟩ (c_Vehicle_come l dC dI cy L tr a κ τ ((a 0 0 4).toNatClampNeg) (nI f) ((a 14 f) 1) ((a 14 f) 2) ((a 0 0) 0) s.heap.size hT hv2) (tp_cwV 4 hts tw_204 tw_205 tw_206 tw_29 tw_207 rfl rfl (by decide +kernel) ⟨Nat.le_of_ble_eq_true rfl, Nat.le_of_ble_eq_true rfl⟩) ⟨m_blind, va_recv hK (hP.one (e := .inr (7, [.int ((a 15 ((a 0 0 4).toNatClampNeg)) 0), .int ((a 15 ((a 0 0 4).toNatClampNeg)) 1), .int ((a 15 ((a 0 0 4).toNatClampNeg)) 2), .int ((a 15 ((a 0 0 4).toNatClampNeg)) 3), .int ((a 15 ((a 0 0 4).toNatClampNeg)) 4), .int ((a 15 ((a 0 0 4).toNatClampNeg)) 5), .int ((a 15 ((a 0 0 4).toNatClampNeg)) 6), .int ((a 15 ((a 0 0 4).toNatClampNeg)) 7), .int ((a 15 ((a 0 0 4).toNatClampNeg)) 8), .int ((a 15 ((a 0 0 4).toNatClampNeg)) 9), .int ((a 15 ((a 0 0 4).toNatClampNeg)) 10), .int ((a 15 ((a 0 0 4).toNatClampNeg)) 11), .ref (L 16 ((a 0 0 4).toNatClampNeg))])) (tw_mem (f := 15) (i := (a 0 0 4).toNatClampNeg) hv2 rfl)) (ci := 7) (q0 := 0) rfl rfl, fun U hU hW => ⟨rfl, m_pay hK hP hE (fun _ _ h => h) U hU hW⟩⟩ rfl rfl hl.1 rfl (lv_room (Nat.le_of_ble_eq_true rfl)) dX5_bring_31 ⟨(Nat.le_of_ble_eq_true rfl), (Nat.le_of_ble_eq_true rfl)⟩) hS (fun q _ h => hFc q h) hFc (fun u t H1 locs ht hvm hpo hB hz1 hk1 hS => ?_)
  have hP1 := hB
  rw [ht] at hP1
  have hP : mw (dC, dI) vwCl A (TW cy L tr (V_come a ((a 0 0 4).toNatClampNeg) (nI f) ((a 14 f) 1) ((a 14 f) 2) ((a 0 0) 0)) κ τ) H1 := hP.join (fun _ _ h => h) hk1 hFc hP1 (fun _ _ h => Or.inl h)
  generalize H1 = H at hP hS ⊢
  clear hP1 hk1 hFc
  obtain ⟨b1, eb1⟩ : ∃ z : St, z = V_come a ((a 0 0 4).toNatClampNeg) (nI f) ((a 14 f) 1) ((a 14 f) 2) ((a 0 0) 0) := ⟨_, rfl⟩
  rw [← eb1] at hP
  have hwb1 : Wf M b1 := by rw [eb1]; exact T_br1_Wf hf hw
  refine lv_aload_n hx hb dX5_bring_34 rfl (lv_at hl 1 rfl) ?_
  refine lv_dup hx hb dX5_bring_35 rfl ?_
  refine va_getN (D := (dC, dI)) (ws := [(L 14 f, .inr (0, [.int ((b1 14 f) 0), .int ((b1 14 f) 1), .int ((b1 14 f) 2), .int ((b1 14 f) 3), .int ((b1 14 f) 4), .int ((b1 14 f) 5), .int ((b1 14 f) 6), .int ((b1 14 f) 7), .int ((b1 14 f) 8), .int ((b1 14 f) 9), .int ((b1 14 f) 10), .int ((b1 14 f) 11)]))]) (ci := 0) (v := .int ((b1 14 f) 6)) (C := RX0) (T := TX0) (N := 12) hx hb hts tl_X0 hown hK (hP.one (tw_mem (f := 14) (i := f) hf rfl)) 0 rfl rfl 6 (by decide) (va_Nw.use rfl (te_f37 hE)) (fun _ h9 => h9) rfl dX5_bring_36 ?_
  refine lv_iconst (v := 1) hx hb dX5_bring_39 (by decide) ?_
  refine lv_iadd hx hb dX5_bring_40 ?_
  obtain ⟨ws9, k9, hPw, hDw, hk9, -, hbk⟩ := hP.cut (e := .inr (0, [.int ((b1 14 f) 0), .int ((b1 14 f) 1), .int ((b1 14 f) 2), .int ((b1 14 f) 3), .int ((b1 14 f) 4), .int ((b1 14 f) 5), .int ((b1 14 f) 6), .int ((b1 14 f) 7), .int ((b1 14 f) 8), .int ((b1 14 f) 9), .int ((b1 14 f) 10), .int ((b1 14 f) 11)])) (tw_mem (f := 14) (i := f) hf rfl)
  refine va_putN (D := (dC, dI)) (ci := 0) (v := .int (((b1 14 f) 6) + 1)) (ty := .int) (C := RX0) (T := TX0) (N := 12) hx hb hts tl_X0 tyX0 tyX0_ok nmX0 hown hK hPw hDw hS k9 hk9 rfl 6 (by decide) (va_Nw.use rfl (te_f37 hE)) (fun _ h9 => h9) rfl (by decide +kernel) rfl rfl (Nat.le_of_ble_eq_true rfl) dX5_bring_41 (fun H locs hPw hDw hS => ?_)
  have hP : mw (dC, dI) vwCl A (TW cy L tr (S2 b1 14 f (upd (b1 14 f) 6 (((b1 14 f) 6) + 1))) κ τ) H := (hbk _ _ hPw hDw).sub (tw_set (b := S2 b1 14 f (upd (b1 14 f) 6 (((b1 14 f) 6) + 1))) (f := 14) (i := f) (x := upd (b1 14 f) 6 (((b1 14 f) 6) + 1)) hT hf (by decide) rfl)
  clear hbk hPw hDw hk9
  obtain ⟨b2, eb2⟩ : ∃ z : St, z = S2 b1 14 f (upd (b1 14 f) 6 (((b1 14 f) 6) + 1)) := ⟨_, rfl⟩
  rw [← eb2] at hP
  have hwb2 : Wf M b2 := by rw [eb2]; exact T_br2_Wf hf hwb1
  have hcb2 : CV b2 κ := by rw [eb2, eb1]; exact CV.same ((sameR.off (by decide) (by decide)).trans (sameR.off (by decide) (by decide))) (in_le hw.1.1) hκ
  refine lv_aload_n hx hb dX5_bring_44 rfl (lv_at hl 1 rfl) ?_
  refine va_getN (D := (dC, dI)) (ws := [(L 14 f, .inr (0, [.int ((b2 14 f) 0), .int ((b2 14 f) 1), .int ((b2 14 f) 2), .int ((b2 14 f) 3), .int ((b2 14 f) 4), .int ((b2 14 f) 5), .int ((b2 14 f) 6), .int ((b2 14 f) 7), .int ((b2 14 f) 8), .int ((b2 14 f) 9), .int ((b2 14 f) 10), .int ((b2 14 f) 11)]))]) (ci := 0) (v := .int ((b2 14 f) 2)) (C := RX0) (T := TX0) (N := 12) hx hb hts tl_X0 hown hK (hP.one (tw_mem (f := 14) (i := f) hf rfl)) 0 rfl rfl 2 (by decide) (va_Nw.use rfl (te_f33 hE)) (fun _ h9 => h9) rfl dX5_bring_45 ?_
  refine lv_if_ne (tgt := 84) hx hb dX5_bring_48 (by decide) (fun c_1 => ?_) (fun c_1 => ?_)
  · refine lv_aload_n hx hb dX5_bring_84 rfl (lv_at hl 2 rfl) ?_
    refine va_get (D := (dC, dI)) (ws := [(L 0 0, .inr (5, [.ref (L 1 0), .ref (L 20 0), .ref (L 21 0), .ref (L 22 0), .ref (L 23 0), va_rf tr, .int ((b2 0 0) 0), .int ((b2 0 0) 1), .int ((b2 0 0) 2), .int ((b2 0 0) 3), .int ((b2 0 0) 4), .int ((b2 0 0) 5)]))]) (ci := 5) (v := .ref (L 21 0)) (C := RX5) (T := TX5) (N := 12) hx hb hts tl_X5 hown hK (hP.one (tw_mem (f := 0) (i := 0) (by decide) rfl)) 0 rfl rfl 2 (by decide) (hts _ tw_877) (fun _ h9 => h9) rfl dX5_bring_85 ?_
    refine lv_aload_n hx hb dX5_bring_88 rfl (lv_at hl 1 rfl) ?_
    refine va_getN (D := (dC, dI)) (ws := [(L 14 f, .inr (0, [.int ((b2 14 f) 0), .int ((b2 14 f) 1), .int ((b2 14 f) 2), .int ((b2 14 f) 3), .int ((b2 14 f) 4), .int ((b2 14 f) 5), .int ((b2 14 f) 6), .int ((b2 14 f) 7), .int ((b2 14 f) 8), .int ((b2 14 f) 9), .int ((b2 14 f) 10), .int ((b2 14 f) 11)]))]) (ci := 0) (v := .int ((b2 14 f) 0)) (C := RX0) (T := TX0) (N := 12) hx hb hts tl_X0 hown hK (hP.one (tw_mem (f := 14) (i := f) hf rfl)) 0 rfl rfl 0 (by decide) (va_Nw.use rfl (te_f31 hE)) (fun _ h9 => h9) rfl dX5_bring_89 ?_
    have j_3 : ((b2 14 f) 0 : Int32).toNatClampNeg = ((b2 14 f) 0).toNatClampNeg := m_cl (in_nI (hwb2.2.2.2.1 f hf).1) (in_lt (hwb2.2.2.2.1 f hf).1) (by decide)
    refine va_aldq hx hb hK (ws := [(L 21 0, .inl (cy 5, 12, .inr (.inr (.inr (.inr (fun j => some (L 12 j)))))))]) (hP.one (tw_mem (f := 21) (i := 0) (by decide) rfl)) 0 5 rfl rfl (m_in (in_nI (hwb2.2.2.2.1 f hf).1) (in_lt (hwb2.2.2.2.1 f hf).1) (by decide)) dX5_bring_92 ?_
    refine W.eq (g2 := F0 m 93 ls [.ref (L 12 (((b2 14 f) 0).toNatClampNeg))]) (by first | (rw [j_3]; done) | (rw [j_3]; rfl)) ?_
    refine lv_aload_n hx hb dX5_bring_93 rfl (lv_at hl 2 rfl) ?_
    refine va_get (D := (dC, dI)) (ws := [(L 0 0, .inr (5, [.ref (L 1 0), .ref (L 20 0), .ref (L 21 0), .ref (L 22 0), .ref (L 23 0), va_rf tr, .int ((b2 0 0) 0), .int ((b2 0 0) 1), .int ((b2 0 0) 2), .int ((b2 0 0) 3), .int ((b2 0 0) 4), .int ((b2 0 0) 5)]))]) (ci := 5) (v := .int ((b2 0 0) 4)) (C := RX5) (T := TX5) (N := 12) hx hb hts tl_X5 hown hK (hP.one (tw_mem (f := 0) (i := 0) (by decide) rfl)) 0 rfl rfl 10 (by decide) (hts _ tw_893) (fun _ h9 => h9) rfl dX5_bring_94 ?_
    have hFc := m_free (C := (TW cy L tr b2 κ τ)) hP hS hA (fun _ _ h => h)
    refine va_callv (va_runV (As := [.int ((b2 0 0) 4)]) (rest := []) ⟨hx, hb, hml, hown, hts⟩ (c_Row_append_wait l dC dI cy L tr b2 κ τ (((b2 14 f) 0).toNatClampNeg) ((b2 0 0) 4) H.size hT (in_lt (hwb2.2.2.2.1 f hf).1) (hwb2.2.2.1 _ (in_lt (hwb2.2.2.2.1 f hf).1)).2.1) (tp_cwV 1 hts tw_228 tw_229 tw_230 tw_24 tw_231 rfl rfl (by decide +kernel) ⟨Nat.le_of_ble_eq_true rfl, Nat.le_of_ble_eq_true rfl⟩) ⟨m_blind, va_recv hK (hP.one (e := .inr (3, [.ref (L 13 (((b2 14 f) 0).toNatClampNeg)), .int ((b2 12 (((b2 14 f) 0).toNatClampNeg)) 0)])) (tw_mem (f := 12) (i := ((b2 14 f) 0).toNatClampNeg) (in_lt (hwb2.2.2.2.1 f hf).1) rfl)) (ci := 3) (q0 := 0) rfl rfl, fun U hU hW => ⟨rfl, m_pay hK hP hE (fun _ _ h => h) U hU hW⟩⟩ rfl rfl hl.1 rfl (lv_room (Nat.le_of_ble_eq_true rfl)) dX5_bring_97 ⟨(Nat.le_of_ble_eq_true rfl), (Nat.le_of_ble_eq_true rfl)⟩) hS (fun q _ h => hFc q h) hFc (fun u t H1 locs ht hvm hpo hB hz1 hk1 hS => ?_)
    have hP1 := hB
    rw [ht] at hP1
    have hP : mw (dC, dI) vwCl A (TW cy L tr (R_app 12 13 200 b2 (((b2 14 f) 0).toNatClampNeg) ((b2 0 0) 4)) κ τ) H1 := hP.join (fun _ _ h => h) hk1 hFc hP1 (fun _ _ h => Or.inl h)
    generalize H1 = H at hP hS ⊢
    clear hP1 hk1 hFc
    obtain ⟨b3, eb3⟩ : ∃ z : St, z = R_app 12 13 200 b2 (((b2 14 f) 0).toNatClampNeg) ((b2 0 0) 4) := ⟨_, rfl⟩
    rw [← eb3] at hP
    refine lv_aload_n hx hb dX5_bring_100 rfl (lv_at hl 2 rfl) ?_
    refine lv_dup hx hb dX5_bring_101 rfl ?_
    refine va_get (D := (dC, dI)) (ws := [(L 0 0, .inr (5, [.ref (L 1 0), .ref (L 20 0), .ref (L 21 0), .ref (L 22 0), .ref (L 23 0), va_rf tr, .int ((b3 0 0) 0), .int ((b3 0 0) 1), .int ((b3 0 0) 2), .int ((b3 0 0) 3), .int ((b3 0 0) 4), .int ((b3 0 0) 5)]))]) (ci := 5) (v := .int ((b3 0 0) 5)) (C := RX5) (T := TX5) (N := 12) hx hb hts tl_X5 hown hK (hP.one (tw_mem (f := 0) (i := 0) (by decide) rfl)) 0 rfl rfl 11 (by decide) (hts _ tw_895) (fun _ h9 => h9) rfl dX5_bring_102 ?_
    refine lv_iconst (v := 1) hx hb dX5_bring_105 (by decide) ?_
    refine lv_iadd hx hb dX5_bring_106 ?_
    obtain ⟨ws9, k9, hPw, hDw, hk9, -, hbk⟩ := hP.cut (e := .inr (5, [.ref (L 1 0), .ref (L 20 0), .ref (L 21 0), .ref (L 22 0), .ref (L 23 0), va_rf tr, .int ((b3 0 0) 0), .int ((b3 0 0) 1), .int ((b3 0 0) 2), .int ((b3 0 0) 3), .int ((b3 0 0) 4), .int ((b3 0 0) 5)])) (tw_mem (f := 0) (i := 0) (by decide) rfl)
    refine va_put (D := (dC, dI)) (ci := 5) (v := .int (((b3 0 0) 5) + 1)) (ty := .int) (C := RX5) (T := TX5) (N := 12) hx hb hts tl_X5 tyX5 tyX5_ok nmX5 hown hK hPw hDw hS k9 hk9 rfl 11 (by decide) (hts _ tw_895) (fun _ h9 => h9) rfl (by decide +kernel) rfl rfl (Nat.le_of_ble_eq_true rfl) dX5_bring_107 (fun H locs hPw hDw hS => ?_)
    have hP : mw (dC, dI) vwCl A (TW cy L tr (S2 b3 0 0 (upd (b3 0 0) 5 (((b3 0 0) 5) + 1))) κ τ) H := (hbk _ _ hPw hDw).sub (tw_set (b := S2 b3 0 0 (upd (b3 0 0) 5 (((b3 0 0) 5) + 1))) (f := 0) (i := 0) (x := upd (b3 0 0) 5 (((b3 0 0) 5) + 1)) hT (by decide) (by decide) rfl)
    clear hbk hPw hDw hk9
    obtain ⟨b4, eb4⟩ : ∃ z : St, z = S2 b3 0 0 (upd (b3 0 0) 5 (((b3 0 0) 5) + 1)) := ⟨_, rfl⟩
    rw [← eb4] at hP
    refine lv_aload_n hx hb dX5_bring_110 rfl (lv_at hl 2 rfl) ?_
    refine lv_dup hx hb dX5_bring_111 rfl ?_
    refine va_get (D := (dC, dI)) (ws := [(L 0 0, .inr (5, [.ref (L 1 0), .ref (L 20 0), .ref (L 21 0), .ref (L 22 0), .ref (L 23 0), va_rf tr, .int ((b4 0 0) 0), .int ((b4 0 0) 1), .int ((b4 0 0) 2), .int ((b4 0 0) 3), .int ((b4 0 0) 4), .int ((b4 0 0) 5)]))]) (ci := 5) (v := .int ((b4 0 0) 4)) (C := RX5) (T := TX5) (N := 12) hx hb hts tl_X5 hown hK (hP.one (tw_mem (f := 0) (i := 0) (by decide) rfl)) 0 rfl rfl 10 (by decide) (hts _ tw_893) (fun _ h9 => h9) rfl dX5_bring_112 ?_
    refine lv_iconst (v := 1) hx hb dX5_bring_115 (by decide) ?_
    refine lv_iadd hx hb dX5_bring_116 ?_
    obtain ⟨ws9, k9, hPw, hDw, hk9, -, hbk⟩ := hP.cut (e := .inr (5, [.ref (L 1 0), .ref (L 20 0), .ref (L 21 0), .ref (L 22 0), .ref (L 23 0), va_rf tr, .int ((b4 0 0) 0), .int ((b4 0 0) 1), .int ((b4 0 0) 2), .int ((b4 0 0) 3), .int ((b4 0 0) 4), .int ((b4 0 0) 5)])) (tw_mem (f := 0) (i := 0) (by decide) rfl)
    refine va_put (D := (dC, dI)) (ci := 5) (v := .int (((b4 0 0) 4) + 1)) (ty := .int) (C := RX5) (T := TX5) (N := 12) hx hb hts tl_X5 tyX5 tyX5_ok nmX5 hown hK hPw hDw hS k9 hk9 rfl 10 (by decide) (hts _ tw_893) (fun _ h9 => h9) rfl (by decide +kernel) rfl rfl (Nat.le_of_ble_eq_true rfl) dX5_bring_117 (fun H locs hPw hDw hS => ?_)
    have hP : mw (dC, dI) vwCl A (TW cy L tr (S2 b4 0 0 (upd (b4 0 0) 4 (((b4 0 0) 4) + 1))) κ τ) H := (hbk _ _ hPw hDw).sub (tw_set (b := S2 b4 0 0 (upd (b4 0 0) 4 (((b4 0 0) 4) + 1))) (f := 0) (i := 0) (x := upd (b4 0 0) 4 (((b4 0 0) 4) + 1)) hT (by decide) (by decide) rfl)
    clear hbk hPw hDw hk9
    refine W.widen (k := 0) (n := 0) (Nat.le_of_ble_eq_true rfl) (Nat.le_of_ble_eq_true rfl) ?_
    have s_1 : S2 b4 0 0 (upd (b4 0 0) 4 (((b4 0 0) 4) + 1)) = T_bring a f := by
      have e9 : T_br2 (T_br1 a f) f = b2 := by rw [eb2, eb1]; rfl
      unfold T_bring
      rw [e9]
      unfold T_br3
      rw [if_neg c_1, eb4, eb3]
      rfl
    rw [s_1] at hP
    have g_1 : CV (T_bring a f) κ := by
      exact CV.same T_bring_sameR (in_le hw.1.1) hκ
    exact W.vret hx hb hr (fun t ht hW => ⟨⟨(), rfl, trivial, ⟨κ, g_1, by show mw _ _ _ _ t.heap; rw [ht]; exact hP⟩⟩, hS.F ht⟩) hS.2.2 dX5_bring_120
  · refine lv_aload_n hx hb dX5_bring_51 rfl (lv_at hl 2 rfl) ?_
    refine va_get (D := (dC, dI)) (ws := [(L 0 0, .inr (5, [.ref (L 1 0), .ref (L 20 0), .ref (L 21 0), .ref (L 22 0), .ref (L 23 0), va_rf tr, .int ((b2 0 0) 0), .int ((b2 0 0) 1), .int ((b2 0 0) 2), .int ((b2 0 0) 3), .int ((b2 0 0) 4), .int ((b2 0 0) 5)]))]) (ci := 5) (v := .ref (L 1 0)) (C := RX5) (T := TX5) (N := 12) hx hb hts tl_X5 hown hK (hP.one (tw_mem (f := 0) (i := 0) (by decide) rfl)) 0 rfl rfl 0 (by decide) (hts _ tw_873) (fun _ h9 => h9) rfl dX5_bring_52 ?_
    refine lv_aload_n hx hb dX5_bring_55 rfl (lv_at hl 0 rfl) ?_
    refine lv_aload_n hx hb dX5_bring_56 rfl (lv_at hl 1 rfl) ?_
    refine va_getN (D := (dC, dI)) (ws := [(L 14 f, .inr (0, [.int ((b2 14 f) 0), .int ((b2 14 f) 1), .int ((b2 14 f) 2), .int ((b2 14 f) 3), .int ((b2 14 f) 4), .int ((b2 14 f) 5), .int ((b2 14 f) 6), .int ((b2 14 f) 7), .int ((b2 14 f) 8), .int ((b2 14 f) 9), .int ((b2 14 f) 10), .int ((b2 14 f) 11)]))]) (ci := 0) (v := .int ((b2 14 f) 0)) (C := RX0) (T := TX0) (N := 12) hx hb hts tl_X0 hown hK (hP.one (tw_mem (f := 14) (i := f) hf rfl)) 0 rfl rfl 0 (by decide) (va_Nw.use rfl (te_f31 hE)) (fun _ h9 => h9) rfl dX5_bring_57 ?_
    have hFc := m_free (C := (TW cy L tr b2 κ τ)) hP hS hA (fun _ _ h => h)
    refine va_calli (va_runV (As := [.ref (L 15 ((a 0 0 4).toNatClampNeg)), .int ((b2 14 f) 0)]) (rest := []) ⟨hx, hb, hml, hown, hts⟩ (c_Roads_planWay l dC dI cy L tr b2 κ τ M ((a 0 0 4).toNatClampNeg) ((b2 14 f) 0) H.size hT hwb2 hv2 (hwb2.2.2.2.1 f hf).1 hcb2) (tp_cwV 2 hts tw_208 tw_209 tw_210 tw_22 tw_211 rfl rfl (by decide +kernel) ⟨Nat.le_of_ble_eq_true rfl, Nat.le_of_ble_eq_true rfl⟩) ⟨m_blind, va_recv hK (hP.one (e := .inr (2, [.ref (L 24 0), .int ((b2 1 0) 0), .ref (L 25 0), .int κ.1])) (tw_mem (f := 1) (i := 0) (by decide) rfl)) (ci := 2) (q0 := 0) rfl rfl, fun U hU hW => ⟨rfl, m_pay hK hP hE (fun _ _ h => h) U hU hW⟩⟩ rfl rfl hl.1 rfl (lv_room (Nat.le_of_ble_eq_true rfl)) dX5_bring_60 ⟨(Nat.le_of_ble_eq_true rfl), (Nat.le_of_ble_eq_true rfl)⟩) hS (fun q _ h => hFc q h) hFc (fun r_3 u t H1 locs ht hvm hpo hB hz1 hk1 hS => ?_)
    obtain rfl := hpo
    obtain ⟨z_1, f_1, f_2, hP1⟩ := hB
    subst f_1
    rw [ht] at hP1
    have hP : mw (dC, dI) vwCl A (TW cy L tr ((P_way ((a 0 0 4).toNatClampNeg) (b2 15 ((a 0 0 4).toNatClampNeg) 1) 12 ((b2 14 f) 0) b2).1) z_1 τ) H1 := hP.join (fun _ _ h => h) hk1 hFc hP1 (fun _ _ h => Or.inl h)
    generalize H1 = H at hP hS ⊢
    clear hP1 hk1 hFc
    obtain ⟨b3, eb3⟩ : ∃ z : St, z = (P_way ((a 0 0 4).toNatClampNeg) (b2 15 ((a 0 0 4).toNatClampNeg) 1) 12 ((b2 14 f) 0) b2).1 := ⟨_, rfl⟩
    rw [← eb3] at hP
    have hwb3 : Wf M b3 := by rw [eb3]; exact P_way_Wf hv2 _ _ _ hwb2
    have hcb3 : CV b3 z_1 := by rw [eb3]; exact f_2
    refine lv_if_ne (tgt := 84) hx hb dX5_bring_63 (by decide) (fun c_2 => ?_) (fun c_2 => ?_)
    · refine lv_aload_n hx hb dX5_bring_84 rfl (lv_at hl 2 rfl) ?_
      refine va_get (D := (dC, dI)) (ws := [(L 0 0, .inr (5, [.ref (L 1 0), .ref (L 20 0), .ref (L 21 0), .ref (L 22 0), .ref (L 23 0), va_rf tr, .int ((b3 0 0) 0), .int ((b3 0 0) 1), .int ((b3 0 0) 2), .int ((b3 0 0) 3), .int ((b3 0 0) 4), .int ((b3 0 0) 5)]))]) (ci := 5) (v := .ref (L 21 0)) (C := RX5) (T := TX5) (N := 12) hx hb hts tl_X5 hown hK (hP.one (tw_mem (f := 0) (i := 0) (by decide) rfl)) 0 rfl rfl 2 (by decide) (hts _ tw_877) (fun _ h9 => h9) rfl dX5_bring_85 ?_
      refine lv_aload_n hx hb dX5_bring_88 rfl (lv_at hl 1 rfl) ?_
      refine va_getN (D := (dC, dI)) (ws := [(L 14 f, .inr (0, [.int ((b3 14 f) 0), .int ((b3 14 f) 1), .int ((b3 14 f) 2), .int ((b3 14 f) 3), .int ((b3 14 f) 4), .int ((b3 14 f) 5), .int ((b3 14 f) 6), .int ((b3 14 f) 7), .int ((b3 14 f) 8), .int ((b3 14 f) 9), .int ((b3 14 f) 10), .int ((b3 14 f) 11)]))]) (ci := 0) (v := .int ((b3 14 f) 0)) (C := RX0) (T := TX0) (N := 12) hx hb hts tl_X0 hown hK (hP.one (tw_mem (f := 14) (i := f) hf rfl)) 0 rfl rfl 0 (by decide) (va_Nw.use rfl (te_f31 hE)) (fun _ h9 => h9) rfl dX5_bring_89 ?_
      have j_4 : ((b3 14 f) 0 : Int32).toNatClampNeg = ((b3 14 f) 0).toNatClampNeg := m_cl (in_nI (hwb3.2.2.2.1 f hf).1) (in_lt (hwb3.2.2.2.1 f hf).1) (by decide)
      refine va_aldq hx hb hK (ws := [(L 21 0, .inl (cy 5, 12, .inr (.inr (.inr (.inr (fun j => some (L 12 j)))))))]) (hP.one (tw_mem (f := 21) (i := 0) (by decide) rfl)) 0 5 rfl rfl (m_in (in_nI (hwb3.2.2.2.1 f hf).1) (in_lt (hwb3.2.2.2.1 f hf).1) (by decide)) dX5_bring_92 ?_
      refine W.eq (g2 := F0 m 93 ls [.ref (L 12 (((b3 14 f) 0).toNatClampNeg))]) (by first | (rw [j_4]; done) | (rw [j_4]; rfl)) ?_
      refine lv_aload_n hx hb dX5_bring_93 rfl (lv_at hl 2 rfl) ?_
      refine va_get (D := (dC, dI)) (ws := [(L 0 0, .inr (5, [.ref (L 1 0), .ref (L 20 0), .ref (L 21 0), .ref (L 22 0), .ref (L 23 0), va_rf tr, .int ((b3 0 0) 0), .int ((b3 0 0) 1), .int ((b3 0 0) 2), .int ((b3 0 0) 3), .int ((b3 0 0) 4), .int ((b3 0 0) 5)]))]) (ci := 5) (v := .int ((b3 0 0) 4)) (C := RX5) (T := TX5) (N := 12) hx hb hts tl_X5 hown hK (hP.one (tw_mem (f := 0) (i := 0) (by decide) rfl)) 0 rfl rfl 10 (by decide) (hts _ tw_893) (fun _ h9 => h9) rfl dX5_bring_94 ?_
      have hFc := m_free (C := (TW cy L tr b3 z_1 τ)) hP hS hA (fun _ _ h => h)
      refine va_callv (va_runV (As := [.int ((b3 0 0) 4)]) (rest := []) ⟨hx, hb, hml, hown, hts⟩ (c_Row_append_wait l dC dI cy L tr b3 z_1 τ (((b3 14 f) 0).toNatClampNeg) ((b3 0 0) 4) H.size hT (in_lt (hwb3.2.2.2.1 f hf).1) (hwb3.2.2.1 _ (in_lt (hwb3.2.2.2.1 f hf).1)).2.1) (tp_cwV 1 hts tw_228 tw_229 tw_230 tw_24 tw_231 rfl rfl (by decide +kernel) ⟨Nat.le_of_ble_eq_true rfl, Nat.le_of_ble_eq_true rfl⟩) ⟨m_blind, va_recv hK (hP.one (e := .inr (3, [.ref (L 13 (((b3 14 f) 0).toNatClampNeg)), .int ((b3 12 (((b3 14 f) 0).toNatClampNeg)) 0)])) (tw_mem (f := 12) (i := ((b3 14 f) 0).toNatClampNeg) (in_lt (hwb3.2.2.2.1 f hf).1) rfl)) (ci := 3) (q0 := 0) rfl rfl, fun U hU hW => ⟨rfl, m_pay hK hP hE (fun _ _ h => h) U hU hW⟩⟩ rfl rfl hl.1 rfl (lv_room (Nat.le_of_ble_eq_true rfl)) dX5_bring_97 ⟨(Nat.le_of_ble_eq_true rfl), (Nat.le_of_ble_eq_true rfl)⟩) hS (fun q _ h => hFc q h) hFc (fun u t H1 locs ht hvm hpo hB hz1 hk1 hS => ?_)
      have hP1 := hB
      rw [ht] at hP1
      have hP : mw (dC, dI) vwCl A (TW cy L tr (R_app 12 13 200 b3 (((b3 14 f) 0).toNatClampNeg) ((b3 0 0) 4)) z_1 τ) H1 := hP.join (fun _ _ h => h) hk1 hFc hP1 (fun _ _ h => Or.inl h)
      generalize H1 = H at hP hS ⊢
      clear hP1 hk1 hFc
      obtain ⟨b4, eb4⟩ : ∃ z : St, z = R_app 12 13 200 b3 (((b3 14 f) 0).toNatClampNeg) ((b3 0 0) 4) := ⟨_, rfl⟩
      rw [← eb4] at hP
      refine lv_aload_n hx hb dX5_bring_100 rfl (lv_at hl 2 rfl) ?_
      refine lv_dup hx hb dX5_bring_101 rfl ?_
      refine va_get (D := (dC, dI)) (ws := [(L 0 0, .inr (5, [.ref (L 1 0), .ref (L 20 0), .ref (L 21 0), .ref (L 22 0), .ref (L 23 0), va_rf tr, .int ((b4 0 0) 0), .int ((b4 0 0) 1), .int ((b4 0 0) 2), .int ((b4 0 0) 3), .int ((b4 0 0) 4), .int ((b4 0 0) 5)]))]) (ci := 5) (v := .int ((b4 0 0) 5)) (C := RX5) (T := TX5) (N := 12) hx hb hts tl_X5 hown hK (hP.one (tw_mem (f := 0) (i := 0) (by decide) rfl)) 0 rfl rfl 11 (by decide) (hts _ tw_895) (fun _ h9 => h9) rfl dX5_bring_102 ?_
      refine lv_iconst (v := 1) hx hb dX5_bring_105 (by decide) ?_
      refine lv_iadd hx hb dX5_bring_106 ?_
      obtain ⟨ws9, k9, hPw, hDw, hk9, -, hbk⟩ := hP.cut (e := .inr (5, [.ref (L 1 0), .ref (L 20 0), .ref (L 21 0), .ref (L 22 0), .ref (L 23 0), va_rf tr, .int ((b4 0 0) 0), .int ((b4 0 0) 1), .int ((b4 0 0) 2), .int ((b4 0 0) 3), .int ((b4 0 0) 4), .int ((b4 0 0) 5)])) (tw_mem (f := 0) (i := 0) (by decide) rfl)
      refine va_put (D := (dC, dI)) (ci := 5) (v := .int (((b4 0 0) 5) + 1)) (ty := .int) (C := RX5) (T := TX5) (N := 12) hx hb hts tl_X5 tyX5 tyX5_ok nmX5 hown hK hPw hDw hS k9 hk9 rfl 11 (by decide) (hts _ tw_895) (fun _ h9 => h9) rfl (by decide +kernel) rfl rfl (Nat.le_of_ble_eq_true rfl) dX5_bring_107 (fun H locs hPw hDw hS => ?_)
      have hP : mw (dC, dI) vwCl A (TW cy L tr (S2 b4 0 0 (upd (b4 0 0) 5 (((b4 0 0) 5) + 1))) z_1 τ) H := (hbk _ _ hPw hDw).sub (tw_set (b := S2 b4 0 0 (upd (b4 0 0) 5 (((b4 0 0) 5) + 1))) (f := 0) (i := 0) (x := upd (b4 0 0) 5 (((b4 0 0) 5) + 1)) hT (by decide) (by decide) rfl)
      clear hbk hPw hDw hk9
      obtain ⟨b5, eb5⟩ : ∃ z : St, z = S2 b4 0 0 (upd (b4 0 0) 5 (((b4 0 0) 5) + 1)) := ⟨_, rfl⟩
      rw [← eb5] at hP
      refine lv_aload_n hx hb dX5_bring_110 rfl (lv_at hl 2 rfl) ?_
      refine lv_dup hx hb dX5_bring_111 rfl ?_
      refine va_get (D := (dC, dI)) (ws := [(L 0 0, .inr (5, [.ref (L 1 0), .ref (L 20 0), .ref (L 21 0), .ref (L 22 0), .ref (L 23 0), va_rf tr, .int ((b5 0 0) 0), .int ((b5 0 0) 1), .int ((b5 0 0) 2), .int ((b5 0 0) 3), .int ((b5 0 0) 4), .int ((b5 0 0) 5)]))]) (ci := 5) (v := .int ((b5 0 0) 4)) (C := RX5) (T := TX5) (N := 12) hx hb hts tl_X5 hown hK (hP.one (tw_mem (f := 0) (i := 0) (by decide) rfl)) 0 rfl rfl 10 (by decide) (hts _ tw_893) (fun _ h9 => h9) rfl dX5_bring_112 ?_
      refine lv_iconst (v := 1) hx hb dX5_bring_115 (by decide) ?_
      refine lv_iadd hx hb dX5_bring_116 ?_
      obtain ⟨ws9, k9, hPw, hDw, hk9, -, hbk⟩ := hP.cut (e := .inr (5, [.ref (L 1 0), .ref (L 20 0), .ref (L 21 0), .ref (L 22 0), .ref (L 23 0), va_rf tr, .int ((b5 0 0) 0), .int ((b5 0 0) 1), .int ((b5 0 0) 2), .int ((b5 0 0) 3), .int ((b5 0 0) 4), .int ((b5 0 0) 5)])) (tw_mem (f := 0) (i := 0) (by decide) rfl)
      refine va_put (D := (dC, dI)) (ci := 5) (v := .int (((b5 0 0) 4) + 1)) (ty := .int) (C := RX5) (T := TX5) (N := 12) hx hb hts tl_X5 tyX5 tyX5_ok nmX5 hown hK hPw hDw hS k9 hk9 rfl 10 (by decide) (hts _ tw_893) (fun _ h9 => h9) rfl (by decide +kernel) rfl rfl (Nat.le_of_ble_eq_true rfl) dX5_bring_117 (fun H locs hPw hDw hS => ?_)
      have hP : mw (dC, dI) vwCl A (TW cy L tr (S2 b5 0 0 (upd (b5 0 0) 4 (((b5 0 0) 4) + 1))) z_1 τ) H := (hbk _ _ hPw hDw).sub (tw_set (b := S2 b5 0 0 (upd (b5 0 0) 4 (((b5 0 0) 4) + 1))) (f := 0) (i := 0) (x := upd (b5 0 0) 4 (((b5 0 0) 4) + 1)) hT (by decide) (by decide) rfl)
      clear hbk hPw hDw hk9
      refine W.widen (k := 0) (n := 0) (Nat.le_of_ble_eq_true rfl) (Nat.le_of_ble_eq_true rfl) ?_
      have s_2 : S2 b5 0 0 (upd (b5 0 0) 4 (((b5 0 0) 4) + 1)) = T_bring a f := by
        have e9 : T_br2 (T_br1 a f) f = b2 := by rw [eb2, eb1]; rfl
        unfold T_bring
        rw [e9]
        unfold T_br3
        rw [if_pos c_1, if_neg c_2, eb5, eb4, eb3]
        rfl
      rw [s_2] at hP
      have g_2 : CV (T_bring a f) z_1 := by
        refine CV.same (a := b3) (sameR.trans (b := a) ?_ T_bring_sameR) (in_le hwb3.1.1) hcb3
        rw [eb3, eb2, eb1]
        exact (((sameR.off (by decide) (by decide)).trans (sameR.off (by decide) (by decide))).trans P_way_sameR).symm
      exact W.vret hx hb hr (fun t ht hW => ⟨⟨(), rfl, trivial, ⟨z_1, g_2, by show mw _ _ _ _ t.heap; rw [ht]; exact hP⟩⟩, hS.F ht⟩) hS.2.2 dX5_bring_120
    · refine lv_aload_n hx hb dX5_bring_66 rfl (lv_at hl 0 rfl) ?_
      refine lv_iconst (v := 3) hx hb dX5_bring_67 (by decide) ?_
      obtain ⟨ws9, k9, hPw, hDw, hk9, -, hbk⟩ := hP.cut (e := .inr (7, [.int ((b3 15 ((a 0 0 4).toNatClampNeg)) 0), .int ((b3 15 ((a 0 0 4).toNatClampNeg)) 1), .int ((b3 15 ((a 0 0 4).toNatClampNeg)) 2), .int ((b3 15 ((a 0 0 4).toNatClampNeg)) 3), .int ((b3 15 ((a 0 0 4).toNatClampNeg)) 4), .int ((b3 15 ((a 0 0 4).toNatClampNeg)) 5), .int ((b3 15 ((a 0 0 4).toNatClampNeg)) 6), .int ((b3 15 ((a 0 0 4).toNatClampNeg)) 7), .int ((b3 15 ((a 0 0 4).toNatClampNeg)) 8), .int ((b3 15 ((a 0 0 4).toNatClampNeg)) 9), .int ((b3 15 ((a 0 0 4).toNatClampNeg)) 10), .int ((b3 15 ((a 0 0 4).toNatClampNeg)) 11), .ref (L 16 ((a 0 0 4).toNatClampNeg))])) (tw_mem (f := 15) (i := (a 0 0 4).toNatClampNeg) hv2 rfl)
      refine va_putN (D := (dC, dI)) (ci := 7) (v := .int 3) (ty := .int) (C := RX7) (T := TX7) (N := 13) hx hb hts tl_X7 tyX7 tyX7_ok nmX7 hown hK hPw hDw hS k9 hk9 rfl 3 (by decide) (va_Nw.use rfl (te_f49 hE)) (fun _ h9 => h9) rfl (by decide +kernel) rfl rfl (Nat.le_of_ble_eq_true rfl) dX5_bring_68 (fun H locs hPw hDw hS => ?_)
      have hP : mw (dC, dI) vwCl A (TW cy L tr (S2 b3 15 ((a 0 0 4).toNatClampNeg) (upd (b3 15 ((a 0 0 4).toNatClampNeg)) 3 3)) z_1 τ) H := (hbk _ _ hPw hDw).sub (tw_set (b := S2 b3 15 ((a 0 0 4).toNatClampNeg) (upd (b3 15 ((a 0 0 4).toNatClampNeg)) 3 3)) (f := 15) (i := (a 0 0 4).toNatClampNeg) (x := upd (b3 15 ((a 0 0 4).toNatClampNeg)) 3 3) hT hv2 (by decide) rfl)
      clear hbk hPw hDw hk9
      refine lv_aload_n hx hb dX5_bring_71 rfl (lv_at hl 1 rfl) ?_
      refine lv_dup hx hb dX5_bring_72 rfl ?_
      refine va_getN (D := (dC, dI)) (ws := [(L 14 f, .inr (0, [.int ((b3 14 f) 0), .int ((b3 14 f) 1), .int ((b3 14 f) 2), .int ((b3 14 f) 3), .int ((b3 14 f) 4), .int ((b3 14 f) 5), .int ((b3 14 f) 6), .int ((b3 14 f) 7), .int ((b3 14 f) 8), .int ((b3 14 f) 9), .int ((b3 14 f) 10), .int ((b3 14 f) 11)]))]) (ci := 0) (v := .int ((b3 14 f) 8)) (C := RX0) (T := TX0) (N := 12) hx hb hts tl_X0 hown hK (hP.one (tw_mem (f := 14) (i := f) hf (S2_nf (by decide)))) 0 rfl rfl 8 (by decide) (va_Nw.use rfl (te_f40 hE)) (fun _ h9 => h9) rfl dX5_bring_73 ?_
      refine lv_iconst (v := 1) hx hb dX5_bring_76 (by decide) ?_
      refine lv_iadd hx hb dX5_bring_77 ?_
      obtain ⟨ws9, k9, hPw, hDw, hk9, -, hbk⟩ := hP.cut (e := .inr (0, [.int ((b3 14 f) 0), .int ((b3 14 f) 1), .int ((b3 14 f) 2), .int ((b3 14 f) 3), .int ((b3 14 f) 4), .int ((b3 14 f) 5), .int ((b3 14 f) 6), .int ((b3 14 f) 7), .int ((b3 14 f) 8), .int ((b3 14 f) 9), .int ((b3 14 f) 10), .int ((b3 14 f) 11)])) (tw_mem (f := 14) (i := f) hf (S2_nf (by decide)))
      refine va_putN (D := (dC, dI)) (ci := 0) (v := .int (((b3 14 f) 8) + 1)) (ty := .int) (C := RX0) (T := TX0) (N := 12) hx hb hts tl_X0 tyX0 tyX0_ok nmX0 hown hK hPw hDw hS k9 hk9 rfl 8 (by decide) (va_Nw.use rfl (te_f40 hE)) (fun _ h9 => h9) rfl (by decide +kernel) rfl rfl (Nat.le_of_ble_eq_true rfl) dX5_bring_78 (fun H locs hPw hDw hS => ?_)
      have hP : mw (dC, dI) vwCl A (TW cy L tr (S2 (S2 b3 15 ((a 0 0 4).toNatClampNeg) (upd (b3 15 ((a 0 0 4).toNatClampNeg)) 3 3)) 14 f (upd (b3 14 f) 8 (((b3 14 f) 8) + 1))) z_1 τ) H := (hbk _ _ hPw hDw).sub (tw_set (b := S2 (S2 b3 15 ((a 0 0 4).toNatClampNeg) (upd (b3 15 ((a 0 0 4).toNatClampNeg)) 3 3)) 14 f (upd (b3 14 f) 8 (((b3 14 f) 8) + 1))) (f := 14) (i := f) (x := upd (b3 14 f) 8 (((b3 14 f) 8) + 1)) hT hf (by decide) rfl)
      clear hbk hPw hDw hk9
      obtain ⟨b4, eb4⟩ : ∃ z : St, z = S2 (S2 b3 15 ((a 0 0 4).toNatClampNeg) (upd (b3 15 ((a 0 0 4).toNatClampNeg)) 3 3)) 14 f (upd (b3 14 f) 8 (((b3 14 f) 8) + 1)) := ⟨_, rfl⟩
      rw [← eb4] at hP
      refine lv_goto (tgt := 110) hx hb dX5_bring_81 (by decide) ?_
      refine lv_aload_n hx hb dX5_bring_110 rfl (lv_at hl 2 rfl) ?_
      refine lv_dup hx hb dX5_bring_111 rfl ?_
      refine va_get (D := (dC, dI)) (ws := [(L 0 0, .inr (5, [.ref (L 1 0), .ref (L 20 0), .ref (L 21 0), .ref (L 22 0), .ref (L 23 0), va_rf tr, .int ((b4 0 0) 0), .int ((b4 0 0) 1), .int ((b4 0 0) 2), .int ((b4 0 0) 3), .int ((b4 0 0) 4), .int ((b4 0 0) 5)]))]) (ci := 5) (v := .int ((b4 0 0) 4)) (C := RX5) (T := TX5) (N := 12) hx hb hts tl_X5 hown hK (hP.one (tw_mem (f := 0) (i := 0) (by decide) rfl)) 0 rfl rfl 10 (by decide) (hts _ tw_893) (fun _ h9 => h9) rfl dX5_bring_112 ?_
      refine lv_iconst (v := 1) hx hb dX5_bring_115 (by decide) ?_
      refine lv_iadd hx hb dX5_bring_116 ?_
      obtain ⟨ws9, k9, hPw, hDw, hk9, -, hbk⟩ := hP.cut (e := .inr (5, [.ref (L 1 0), .ref (L 20 0), .ref (L 21 0), .ref (L 22 0), .ref (L 23 0), va_rf tr, .int ((b4 0 0) 0), .int ((b4 0 0) 1), .int ((b4 0 0) 2), .int ((b4 0 0) 3), .int ((b4 0 0) 4), .int ((b4 0 0) 5)])) (tw_mem (f := 0) (i := 0) (by decide) rfl)
      refine va_put (D := (dC, dI)) (ci := 5) (v := .int (((b4 0 0) 4) + 1)) (ty := .int) (C := RX5) (T := TX5) (N := 12) hx hb hts tl_X5 tyX5 tyX5_ok nmX5 hown hK hPw hDw hS k9 hk9 rfl 10 (by decide) (hts _ tw_893) (fun _ h9 => h9) rfl (by decide +kernel) rfl rfl (Nat.le_of_ble_eq_true rfl) dX5_bring_117 (fun H locs hPw hDw hS => ?_)
      have hP : mw (dC, dI) vwCl A (TW cy L tr (S2 b4 0 0 (upd (b4 0 0) 4 (((b4 0 0) 4) + 1))) z_1 τ) H := (hbk _ _ hPw hDw).sub (tw_set (b := S2 b4 0 0 (upd (b4 0 0) 4 (((b4 0 0) 4) + 1))) (f := 0) (i := 0) (x := upd (b4 0 0) 4 (((b4 0 0) 4) + 1)) hT (by decide) (by decide) rfl)
      clear hbk hPw hDw hk9
      refine W.widen (k := 0) (n := 0) (Nat.le_of_ble_eq_true rfl) (Nat.le_of_ble_eq_true rfl) ?_
      have s_3 : S2 b4 0 0 (upd (b4 0 0) 4 (((b4 0 0) 4) + 1)) = T_bring a f := by
        have e9 : T_br2 (T_br1 a f) f = b2 := by rw [eb2, eb1]; rfl
        unfold T_bring
        rw [e9]
        unfold T_br3
        rw [if_pos c_1, if_pos c_2, eb4, eb3]
        rfl
      rw [s_3] at hP
      have g_3 : CV (T_bring a f) z_1 := by
        refine CV.same (a := b3) (sameR.trans (b := a) ?_ T_bring_sameR) (in_le hwb3.1.1) hcb3
        rw [eb3, eb2, eb1]
        exact (((sameR.off (by decide) (by decide)).trans (sameR.off (by decide) (by decide))).trans P_way_sameR).symm
      exact W.vret hx hb hr (fun t ht hW => ⟨⟨(), rfl, trivial, ⟨z_1, g_3, by show mw _ _ _ _ t.heap; rw [ht]; exact hP⟩⟩, hS.F ht⟩) hS.2.2 dX5_bring_120
set_option maxRecDepth 100000 in
set_option maxHeartbeats 4000000 in
/-- Traffic.bringVehicles -/
theorem c_Traffic_bringVehicles (l : Launch) (dC : Nat → ClassId) (dI : Nat → Nat → Nat) (cy : Nat → ClassId) (L : Lay) (tr : Option Nat) (a : St) (κ : Kap) (τ : Tau) (M : Nat) (sz : Nat) (hT : TL L tr τ) (hw : Wf M a) (hκ : CV a κ) : Met l yX5_bringVehicles (tp_w yX5_bringVehicles cX5_bringVehicles 2 none) ({ frames := 5, cells := 0, slots := 0, locals := 126 }) (va_Pc [.ref (L 0 0)] (mPre dC dI cy (TW cy L tr a κ τ) sz)) (va_Qv (fun _ : Unit => True) (fun (_ : Unit) (t : State) => ∃ (κ2 : Kap), (CV (T_flows a) κ2) ∧ mw (dC, dI) vwCl (mA (TW cy L tr a κ τ) sz) (TW cy L tr (T_flows a) κ2 τ) t.heap) (mA (TW cy L tr a κ τ) sz)) (0) (0) (mA (TW cy L tr a κ τ) sz) := by
  refine Met.ofW (cc := cX5_bringVehicles) (maxL := 2) (ret := none) (by decide) rfl ?_
  intro p e s m args below meth c s₁ B hml hv
  obtain ⟨rfl, hsz, hP, hK, hE⟩ := hv
  have hx := B.exec
  have hb := B.bytes
  have hr := B.returns
  have hts0 := atoms_spec (ws := tp_w yX5_bringVehicles cX5_bringVehicles 2 none) B.pre
  have hts : ∀ w ∈ tp_all, w.before _ s = true := fun w h => hts0 w (List.mem_cons_of_mem _ h)
  have hown : s.vm.findClass RX5 = some m.cls := findClass_of_methodNamed B.named
  have hlocks := B.notSynchronized
  subst hsz
  have hP := hP.self s.heap.size
  generalize hAe : mA (TW cy L tr a κ τ) s.heap.size = A at hP ⊢
  have hA : ∀ q : Nat, s.heap.size ≤ q → A q := fun q h => by rw [← hAe]; exact Or.inr h
  have hS : va_S A s.heap s.heap [] := va_S.rf
  have hl9 := lv_entry ([.ref (L 0 0)]) (n := 2) (Nat.le_of_ble_eq_true rfl)
  rw [lg_entry_eq]
  generalize (lg_sl ([.ref (L 0 0)]) ++ List.replicate (2 - (lg_sl ([.ref (L 0 0)])).length) Slot.unset).toArray = ls at hl9 ⊢
  have hl : lv_has ls 2 [(0, .ref (L 0 0))] := hl9
  refine lv_iconst (v := 0) hx hb dX5_bringVehicles_0 (by decide) ?_
  refine lv_istore_n (lv' := [(1, .int 0), (0, .ref (L 0 0))]) hx hb dX5_bringVehicles_1 rfl hl (by decide) rfl (fun ls hl => ?_)
  have hN : nFl a ≤ 10 := in_le hw.1.2.2.1
  refine W.widen (k := (fun i => 0 + 0 * i) 0) (n := (fun i => 0 + 0 * i) 0) (Nat.le_refl _) (Nat.le_refl _) ?_
  refine tp_for (σ := Kap) (nFl a) (fun i => 0 + 0 * i) (fun i => 0 + 0 * i) (fun (i : Nat) (x : Kap) (H : Heap) (locs : List Loc) (ls : Array Slot) => CV (itN (T_flow) i a) x ∧ mw (dC, dI) vwCl A (TW cy L tr (itN (T_flow) i a) x τ) H ∧ va_S A s.heap H locs ∧ lv_has ls 2 [(1, .int (nI i)), (0, .ref (L 0 0))]) ?_ ?_ (nFl a) 0 (Nat.zero_add _) κ _ _ ls ⟨hκ, hP, hS, lv_sub hl [0, 1] rfl⟩
  · rintro κ9 H locs ls ⟨hκ9, hP, hS, hl⟩
    have hl : lv_has ls 2 [(1, .int (nI (nFl a))), (0, .ref (L 0 0))] := hl
    have hκ9 : CV (itN (T_flow) (nFl a) a) κ9 := hκ9
    obtain ⟨b1, eb1⟩ : ∃ z : St, z = itN (T_flow) (nFl a) a := ⟨_, rfl⟩
    rw [← eb1] at hP
    rw [← eb1] at hκ9
    have h0b1 : ∀ k, k ≠ 4 → k ≠ 5 → b1 0 0 k = a 0 0 k := fun k h4 h5 => by rw [eb1]; exact itN_keep (P := fun b => b 0 0 k = a 0 0 k) rfl (fun i b h => by rw [T_flow_00 h4 h5]; exact h) _
    refine lv_iload_n hx hb dX5_bringVehicles_2 rfl (lv_at hl 0 rfl) ?_
    refine lv_aload_n hx hb dX5_bringVehicles_3 rfl (lv_at hl 1 rfl) ?_
    refine va_get (D := (dC, dI)) (ws := [(L 0 0, .inr (5, [.ref (L 1 0), .ref (L 20 0), .ref (L 21 0), .ref (L 22 0), .ref (L 23 0), va_rf tr, .int ((b1 0 0) 0), .int ((b1 0 0) 1), .int ((b1 0 0) 2), .int ((b1 0 0) 3), .int ((b1 0 0) 4), .int ((b1 0 0) 5)]))]) (ci := 5) (v := .int ((b1 0 0) 3)) (C := RX5) (T := TX5) (N := 12) hx hb hts tl_X5 hown hK (hP.one (tw_mem (f := 0) (i := 0) (by decide) rfl)) 0 rfl rfl 9 (by decide) (hts _ tw_891) (fun _ h9 => h9) rfl dX5_bringVehicles_4 ?_
    refine W.eq (g2 := F0 m 7 ls [.int (nI (nFl a)), .int (nI (nFl a))]) (by rw [h0b1 3 (by decide) (by decide), in_nI hw.1.2.2.1]) ?_
    refine lv_icmp_ge (tgt := 47) hx hb dX5_bringVehicles_7 (by decide) (fun _ => ?_) (fun c_1 => absurd (Int32.le_refl _) c_1)
    refine W.widen (k := 0) (n := 0) (by show 0 + 0 * (nFl a) + 0 ≤ 0; omega) (by show 0 + 0 * (nFl a) + 0 ≤ 0; omega) ?_
    have s_1 : b1 = T_flows a := by
      rw [eb1]
      rfl
    rw [s_1] at hP
    have g_1 : CV (T_flows a) κ9 := by
      rw [← s_1]
      exact hκ9
    exact W.vret hx hb hr (fun t ht hW => ⟨⟨(), rfl, trivial, ⟨κ9, g_1, by show mw _ _ _ _ t.heap; rw [ht]; exact hP⟩⟩, hS.F ht⟩) hS.2.2 dX5_bringVehicles_47
  · rintro i κ9 H locs ls hi ⟨hκ9, hP, hS, hl⟩ ih
    have hl : lv_has ls 2 [(1, .int (nI i)), (0, .ref (L 0 0))] := hl
    have hκ9 : CV (itN (T_flow) i a) κ9 := hκ9
    obtain ⟨b1, eb1⟩ : ∃ z : St, z = itN (T_flow) i a := ⟨_, rfl⟩
    rw [← eb1] at hP
    rw [← eb1] at hκ9
    have h0b1 : ∀ k, k ≠ 4 → k ≠ 5 → b1 0 0 k = a 0 0 k := fun k h4 h5 => by rw [eb1]; exact itN_keep (P := fun b => b 0 0 k = a 0 0 k) rfl (fun i b h => by rw [T_flow_00 h4 h5]; exact h) _
    have hwb1 : Wf M b1 := by rw [eb1]; exact itN_keepB (N := nFl a) hw (fun j _ hj hb => T_flow_Wf (Nat.lt_of_lt_of_le hj (in_le hw.1.2.2.1)) hb) _ (Nat.le_of_lt hi)
    refine lv_iload_n hx hb dX5_bringVehicles_2 rfl (lv_at hl 0 rfl) ?_
    refine lv_aload_n hx hb dX5_bringVehicles_3 rfl (lv_at hl 1 rfl) ?_
    refine va_get (D := (dC, dI)) (ws := [(L 0 0, .inr (5, [.ref (L 1 0), .ref (L 20 0), .ref (L 21 0), .ref (L 22 0), .ref (L 23 0), va_rf tr, .int ((b1 0 0) 0), .int ((b1 0 0) 1), .int ((b1 0 0) 2), .int ((b1 0 0) 3), .int ((b1 0 0) 4), .int ((b1 0 0) 5)]))]) (ci := 5) (v := .int ((b1 0 0) 3)) (C := RX5) (T := TX5) (N := 12) hx hb hts tl_X5 hown hK (hP.one (tw_mem (f := 0) (i := 0) (by decide) rfl)) 0 rfl rfl 9 (by decide) (hts _ tw_891) (fun _ h9 => h9) rfl dX5_bringVehicles_4 ?_
    refine W.eq (g2 := F0 m 7 ls [.int (nI (nFl a)), .int (nI i)]) (by rw [h0b1 3 (by decide) (by decide), in_nI hw.1.2.2.1]) ?_
    refine lv_icmp_ge (tgt := 47) hx hb dX5_bringVehicles_7 (by decide) (fun c_2 => absurd c_2 (nI_ge hi (by omega))) (fun _ => ?_)
    refine lv_aload_n hx hb dX5_bringVehicles_10 rfl (lv_at hl 1 rfl) ?_
    refine va_get (D := (dC, dI)) (ws := [(L 0 0, .inr (5, [.ref (L 1 0), .ref (L 20 0), .ref (L 21 0), .ref (L 22 0), .ref (L 23 0), va_rf tr, .int ((b1 0 0) 0), .int ((b1 0 0) 1), .int ((b1 0 0) 2), .int ((b1 0 0) 3), .int ((b1 0 0) 4), .int ((b1 0 0) 5)]))]) (ci := 5) (v := .ref (L 22 0)) (C := RX5) (T := TX5) (N := 12) hx hb hts tl_X5 hown hK (hP.one (tw_mem (f := 0) (i := 0) (by decide) rfl)) 0 rfl rfl 3 (by decide) (hts _ tw_879) (fun _ h9 => h9) rfl dX5_bringVehicles_11 ?_
    refine lv_iload_n hx hb dX5_bringVehicles_14 rfl (lv_at hl 0 rfl) ?_
    have j_1 : (nI i : Int32).toNatClampNeg = i := m_cl rfl (Nat.lt_of_lt_of_le hi hN) (by decide)
    refine va_aldq hx hb hK (ws := [(L 22 0, .inl (cy 6, 10, .inr (.inr (.inr (.inr (fun j => some (L 14 j)))))))]) (hP.one (tw_mem (f := 22) (i := 0) (by decide) rfl)) 0 6 rfl rfl (m_in rfl (Nat.lt_of_lt_of_le hi hN) (by decide)) dX5_bringVehicles_15 ?_
    refine W.eq (g2 := F0 m 16 ls [.ref (L 14 i)]) (by first | (rw [j_1]; done) | (rw [j_1]; rfl)) ?_
    refine lv_aload_n hx hb dX5_bringVehicles_16 rfl (lv_at hl 1 rfl) ?_
    refine va_get (D := (dC, dI)) (ws := [(L 0 0, .inr (5, [.ref (L 1 0), .ref (L 20 0), .ref (L 21 0), .ref (L 22 0), .ref (L 23 0), va_rf tr, .int ((b1 0 0) 0), .int ((b1 0 0) 1), .int ((b1 0 0) 2), .int ((b1 0 0) 3), .int ((b1 0 0) 4), .int ((b1 0 0) 5)]))]) (ci := 5) (v := .int ((b1 0 0) 0)) (C := RX5) (T := TX5) (N := 12) hx hb hts tl_X5 hown hK (hP.one (tw_mem (f := 0) (i := 0) (by decide) rfl)) 0 rfl rfl 6 (by decide) (hts _ tw_885) (fun _ h9 => h9) rfl dX5_bringVehicles_17 ?_
    have hFc := m_free (C := (TW cy L tr b1 κ9 τ)) hP hS hA (fun _ _ h => h)
    refine va_calli (va_runV (As := [.int ((b1 0 0) 0)]) (rest := []) ⟨hx, hb, hml, hown, hts⟩ (c_Flow_bringsIn l dC dI cy L tr b1 κ9 τ i ((b1 0 0) 0) H.size hT (Nat.lt_of_lt_of_le hi hN)) (tp_cwV 1 hts tw_196 tw_197 tw_198 tw_28 tw_199 rfl rfl (by decide +kernel) ⟨Nat.le_of_ble_eq_true rfl, Nat.le_of_ble_eq_true rfl⟩) ⟨m_blind, va_recv hK (hP.one (e := .inr (0, [.int ((b1 14 i) 0), .int ((b1 14 i) 1), .int ((b1 14 i) 2), .int ((b1 14 i) 3), .int ((b1 14 i) 4), .int ((b1 14 i) 5), .int ((b1 14 i) 6), .int ((b1 14 i) 7), .int ((b1 14 i) 8), .int ((b1 14 i) 9), .int ((b1 14 i) 10), .int ((b1 14 i) 11)])) (tw_mem (f := 14) (i := i) (Nat.lt_of_lt_of_le hi hN) rfl)) (ci := 0) (q0 := 0) rfl rfl, fun U hU hW => ⟨rfl, m_pay hK hP hE (fun _ _ h => h) U hU hW⟩⟩ rfl rfl hl.1 rfl (lv_room (Nat.le_of_ble_eq_true rfl)) dX5_bringVehicles_20 ⟨(by show 0 + 0 * i + 0 ≤ 0; omega), (by show 0 + 0 * i + 0 ≤ 0; omega)⟩) hS (fun q _ h => hFc q h) hFc (fun r_1 u t H1 locs ht hvm hpo hB hz1 hk1 hS => ?_)
    obtain rfl := hpo
    obtain ⟨f_1, hP1⟩ := hB
    subst f_1
    rw [ht] at hP1
    have hP : mw (dC, dI) vwCl A (TW cy L tr b1 κ9 τ) H1 := hP.join (fun _ _ h => h) hk1 hFc hP1 (fun _ _ h => Or.inl h)
    generalize H1 = H at hP hS ⊢
    clear hP1 hk1 hFc
    refine lv_if_eq (tgt := 41) hx hb dX5_bringVehicles_23 (by decide) (fun c_3 => ?_) (fun c_3 => ?_)
    · refine lv_iinc (v := nI (i + 1)) (lv' := [(1, .int (nI (i + 1))), (0, .ref (L 0 0))]) hx hb dX5_bringVehicles_41 hl (k := 0) rfl (nI_1 i) (by decide) rfl (fun ls hl => ?_)
      refine lv_goto (tgt := 2) hx hb dX5_bringVehicles_44 (by decide) ?_
      have e9 : b1 = itN (T_flow) (i + 1) a := by
        rw [show itN T_flow (i + 1) a = T_flow i b1 from by rw [eb1]; rfl]
        unfold T_flow
        rw [if_pos c_3]
      rw [e9] at hP
      refine W.widen (k := (fun i => 0 + 0 * i) (i + 1)) (n := (fun i => 0 + 0 * i) (i + 1)) (by show _ ≤ 0 + 0 * (i + 1); omega) (by show _ ≤ 0 + 0 * (i + 1); omega) ?_
      exact ih κ9 _ _ ls ⟨(by rw [← e9]; exact hκ9), hP, hS, lv_sub hl [0, 1] rfl⟩
    · refine lv_aload_n hx hb dX5_bringVehicles_26 rfl (lv_at hl 1 rfl) ?_
      refine va_get (D := (dC, dI)) (ws := [(L 0 0, .inr (5, [.ref (L 1 0), .ref (L 20 0), .ref (L 21 0), .ref (L 22 0), .ref (L 23 0), va_rf tr, .int ((b1 0 0) 0), .int ((b1 0 0) 1), .int ((b1 0 0) 2), .int ((b1 0 0) 3), .int ((b1 0 0) 4), .int ((b1 0 0) 5)]))]) (ci := 5) (v := .int ((b1 0 0) 4)) (C := RX5) (T := TX5) (N := 12) hx hb hts tl_X5 hown hK (hP.one (tw_mem (f := 0) (i := 0) (by decide) rfl)) 0 rfl rfl 10 (by decide) (hts _ tw_893) (fun _ h9 => h9) rfl dX5_bringVehicles_27 ?_
      refine lv_sipush (v := 200) hx hb dX5_bringVehicles_30 (by decide) ?_
      refine lv_icmp_ge (tgt := 41) hx hb dX5_bringVehicles_33 (by decide) (fun c_4 => ?_) (fun c_4 => ?_)
      · refine lv_iinc (v := nI (i + 1)) (lv' := [(1, .int (nI (i + 1))), (0, .ref (L 0 0))]) hx hb dX5_bringVehicles_41 hl (k := 0) rfl (nI_1 i) (by decide) rfl (fun ls hl => ?_)
        refine lv_goto (tgt := 2) hx hb dX5_bringVehicles_44 (by decide) ?_
        have e9 : b1 = itN (T_flow) (i + 1) a := by
          rw [show itN T_flow (i + 1) a = T_flow i b1 from by rw [eb1]; rfl]
          unfold T_flow
          rw [if_neg c_3, if_pos c_4]
        rw [e9] at hP
        refine W.widen (k := (fun i => 0 + 0 * i) (i + 1)) (n := (fun i => 0 + 0 * i) (i + 1)) (by show _ ≤ 0 + 0 * (i + 1); omega) (by show _ ≤ 0 + 0 * (i + 1); omega) ?_
        exact ih κ9 _ _ ls ⟨(by rw [← e9]; exact hκ9), hP, hS, lv_sub hl [0, 1] rfl⟩
      · refine lv_aload_n hx hb dX5_bringVehicles_36 rfl (lv_at hl 1 rfl) ?_
        refine lv_iload_n hx hb dX5_bringVehicles_37 rfl (lv_at hl 0 rfl) ?_
        have hFc := m_free (C := (TW cy L tr b1 κ9 τ)) hP hS hA (fun _ _ h => h)
        refine va_callv (va_runV (As := [.int (nI i)]) (rest := []) ⟨hx, hb, hml, hown, hts⟩ (c_Traffic_bring l dC dI cy L tr b1 κ9 τ M i H.size hT hwb1 (Nat.lt_of_lt_of_le hi hN) (m_ge c_4) hκ9) (tp_cwV 1 hts tw_200 tw_202 tw_3 tw_21 tw_203 rfl rfl (by decide +kernel) ⟨Nat.le_of_ble_eq_true rfl, Nat.le_of_ble_eq_true rfl⟩) ⟨m_blind, va_recv hK (hP.one (e := .inr (5, [.ref (L 1 0), .ref (L 20 0), .ref (L 21 0), .ref (L 22 0), .ref (L 23 0), va_rf tr, .int ((b1 0 0) 0), .int ((b1 0 0) 1), .int ((b1 0 0) 2), .int ((b1 0 0) 3), .int ((b1 0 0) 4), .int ((b1 0 0) 5)])) (tw_mem (f := 0) (i := 0) (by decide) rfl)) (ci := 5) (q0 := 0) rfl rfl, fun U hU hW => ⟨rfl, m_pay hK hP hE (fun _ _ h => h) U hU hW⟩⟩ rfl rfl hl.1 rfl (lv_room (Nat.le_of_ble_eq_true rfl)) dX5_bringVehicles_38 ⟨(by show 0 + 0 * i + 0 + 0 ≤ 0; omega), (by show 0 + 0 * i + 0 + 0 ≤ 0; omega)⟩) hS (fun q _ h => hFc q h) hFc (fun u t H1 locs ht hvm hpo hB hz1 hk1 hS => ?_)
        obtain ⟨z_1, f_2, hP1⟩ := hB
        rw [ht] at hP1
        have hP : mw (dC, dI) vwCl A (TW cy L tr (T_bring b1 i) z_1 τ) H1 := hP.join (fun _ _ h => h) hk1 hFc hP1 (fun _ _ h => Or.inl h)
        generalize H1 = H at hP hS ⊢
        clear hP1 hk1 hFc
        obtain ⟨b2, eb2⟩ : ∃ z : St, z = T_bring b1 i := ⟨_, rfl⟩
        rw [← eb2] at hP
        refine lv_iinc (v := nI (i + 1)) (lv' := [(1, .int (nI (i + 1))), (0, .ref (L 0 0))]) hx hb dX5_bringVehicles_41 hl (k := 0) rfl (nI_1 i) (by decide) rfl (fun ls hl => ?_)
        refine lv_goto (tgt := 2) hx hb dX5_bringVehicles_44 (by decide) ?_
        have e9 : b2 = itN (T_flow) (i + 1) a := by
          rw [show itN T_flow (i + 1) a = T_flow i b1 from by rw [eb1]; rfl]
          unfold T_flow
          rw [if_neg c_3, if_neg c_4, eb2]
        rw [e9] at hP
        refine W.widen (k := (fun i => 0 + 0 * i) (i + 1)) (n := (fun i => 0 + 0 * i) (i + 1)) (by show _ ≤ 0 + 0 * (i + 1); omega) (by show _ ≤ 0 + 0 * (i + 1); omega) ?_
        exact ih z_1 _ _ ls ⟨(by rw [← e9, eb2]; exact f_2), hP, hS, lv_sub hl [0, 1] rfl⟩

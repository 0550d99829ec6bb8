theorem tw_181 : Cond.code yX1_costIn cX1_costIn 3 (some .int) ∈ tp_all := tp_mem 181 (by decide +kernel) rfl
theorem tw_178 : Cond.methodLink RX2 58 yX1_costIn ∈ tp_all := tp_mem 178 (by decide +kernel) rfl
theorem tw_179 : Cond.instanceMethod yX1_costIn ∈ tp_all := tp_mem 179 (by decide +kernel) rfl
theorem tw_180 : Cond.selects RX1 yX1_costIn yX1_costIn ∈ tp_all := tp_mem 180 (by decide +kernel) rfl
theorem tw_150 : Cond.code yX2_forgetWays cX2_forgetWays 1 none ∈ tp_all := tp_mem 150 (by decide +kernel) rfl
theorem tw_190 : Cond.methodLink RX2 48 yX2_forgetWays ∈ tp_all := tp_mem 190 (by decide +kernel) rfl
theorem tw_148 : Cond.instanceMethod yX2_forgetWays ∈ tp_all := tp_mem 148 (by decide +kernel) rfl
theorem tw_149 : Cond.selects RX2 yX2_forgetWays yX2_forgetWays ∈ tp_all := tp_mem 149 (by decide +kernel) rfl
theorem tw_22 : Cond.initialized RX2 ∈ tp_all := tp_mem 22 (by decide +kernel) rfl
theorem tw_700 : Cond.fieldLink RX2 19 "Turnpike$Roads" "costs" "[[I" ∈ tp_all := tp_mem 700 (by decide +kernel) rfl
theorem tw_222 : Cond.code yJ7_fill_53178 cJ7_fill_53178 4 none ∈ tp_all := tp_mem 222 (by decide +kernel) rfl
theorem tw_220 : Cond.methodLink RX2 69 yJ7_fill_53178 ∈ tp_all := tp_mem 220 (by decide +kernel) rfl
theorem tw_221 : Cond.static yJ7_fill_53178 ∈ tp_all := tp_mem 221 (by decide +kernel) rfl
theorem tw_37 : Cond.initialized RJ7 ∈ tp_all := tp_mem 37 (by decide +kernel) rfl
theorem te_f15 {U : State} (h : tp_E U) : va_Nw (.fieldLinkNest "Turnpike$Roads" 45 "Turnpike$Link" "cost" "I" "Turnpike") U := h.1 _ (List.mem_of_getElem? (i := 15) rfl)
theorem te_f3 {U : State} (h : tp_E U) : va_Nw (.fieldLinkNest "Turnpike$Roads" 30 "Turnpike$Link" "to" "I" "Turnpike") U := h.1 _ (List.mem_of_getElem? (i := 3) rfl)
theorem te_f2 {U : State} (h : tp_E U) : va_Nw (.fieldLinkNest "Turnpike$Roads" 27 "Turnpike$Link" "from" "I" "Turnpike") U := h.1 _ (List.mem_of_getElem? (i := 2) rfl)
theorem te_f14 {U : State} (h : tp_E U) : va_Nw (.fieldLinkNest "Turnpike$Roads" 75 "Turnpike$Link" "shut" "Z" "Turnpike") U := h.1 _ (List.mem_of_getElem? (i := 14) rfl)
theorem dX2_reckonCostsIn_0 : decode cX2_reckonCostsIn 0 = .ok (.iconst 0, 1) := by decide +kernel
theorem dX2_reckonCostsIn_1 : decode cX2_reckonCostsIn 1 = .ok (.istore_n 2, 1) := by decide +kernel
theorem dX2_reckonCostsIn_2 : decode cX2_reckonCostsIn 2 = .ok (.iload_n 2, 1) := by decide +kernel
theorem dX2_reckonCostsIn_3 : decode cX2_reckonCostsIn 3 = .ok (.aload_n 0, 1) := by decide +kernel
theorem dX2_reckonCostsIn_4 : decode cX2_reckonCostsIn 4 = .ok (.getfield 23, 3) := by decide +kernel
theorem dX2_reckonCostsIn_7 : decode cX2_reckonCostsIn 7 = .ok (.if_icmp .ge 47, 3) := by decide +kernel
theorem dX2_reckonCostsIn_54 : decode cX2_reckonCostsIn 54 = .ok (.return_, 1) := by decide +kernel
theorem dX2_reckonCostsIn_10 : decode cX2_reckonCostsIn 10 = .ok (.aload_n 0, 1) := by decide +kernel
theorem dX2_reckonCostsIn_11 : decode cX2_reckonCostsIn 11 = .ok (.getfield 11, 3) := by decide +kernel
theorem dX2_reckonCostsIn_14 : decode cX2_reckonCostsIn 14 = .ok (.iload_n 2, 1) := by decide +kernel
theorem dX2_reckonCostsIn_15 : decode cX2_reckonCostsIn 15 = .ok (.aaload, 1) := by decide +kernel
theorem dX2_reckonCostsIn_16 : decode cX2_reckonCostsIn 16 = .ok (.iload_n 1, 1) := by decide +kernel
theorem dX2_reckonCostsIn_17 : decode cX2_reckonCostsIn 17 = .ok (.invokevirtual 58, 3) := by decide +kernel
theorem dX2_reckonCostsIn_20 : decode cX2_reckonCostsIn 20 = .ok (.istore_n 3, 1) := by decide +kernel
theorem dX2_reckonCostsIn_21 : decode cX2_reckonCostsIn 21 = .ok (.iload_n 3, 1) := by decide +kernel
theorem dX2_reckonCostsIn_22 : decode cX2_reckonCostsIn 22 = .ok (.aload_n 0, 1) := by decide +kernel
theorem dX2_reckonCostsIn_23 : decode cX2_reckonCostsIn 23 = .ok (.getfield 11, 3) := by decide +kernel
theorem dX2_reckonCostsIn_26 : decode cX2_reckonCostsIn 26 = .ok (.iload_n 2, 1) := by decide +kernel
theorem dX2_reckonCostsIn_27 : decode cX2_reckonCostsIn 27 = .ok (.aaload, 1) := by decide +kernel
theorem dX2_reckonCostsIn_28 : decode cX2_reckonCostsIn 28 = .ok (.getfield 45, 3) := by decide +kernel
theorem dX2_reckonCostsIn_31 : decode cX2_reckonCostsIn 31 = .ok (.if_icmp .eq 17, 3) := by decide +kernel
theorem dX2_reckonCostsIn_48 : decode cX2_reckonCostsIn 48 = .ok (.iinc 2 1, 3) := by decide +kernel
theorem dX2_reckonCostsIn_51 : decode cX2_reckonCostsIn 51 = .ok (.goto (-49), 3) := by decide +kernel
theorem dX2_reckonCostsIn_34 : decode cX2_reckonCostsIn 34 = .ok (.aload_n 0, 1) := by decide +kernel
theorem dX2_reckonCostsIn_35 : decode cX2_reckonCostsIn 35 = .ok (.getfield 11, 3) := by decide +kernel
theorem dX2_reckonCostsIn_38 : decode cX2_reckonCostsIn 38 = .ok (.iload_n 2, 1) := by decide +kernel
theorem dX2_reckonCostsIn_39 : decode cX2_reckonCostsIn 39 = .ok (.aaload, 1) := by decide +kernel
theorem dX2_reckonCostsIn_40 : decode cX2_reckonCostsIn 40 = .ok (.iload_n 3, 1) := by decide +kernel
theorem dX2_reckonCostsIn_41 : decode cX2_reckonCostsIn 41 = .ok (.putfield 45, 3) := by decide +kernel
theorem dX2_reckonCostsIn_44 : decode cX2_reckonCostsIn 44 = .ok (.aload_n 0, 1) := by decide +kernel
theorem dX2_reckonCostsIn_45 : decode cX2_reckonCostsIn 45 = .ok (.invokevirtual 48, 3) := by decide +kernel
theorem dJ7_fill_53178_0 : decode cJ7_fill_53178 0 = .ok (.iconst 0, 1) := by decide +kernel
theorem dJ7_fill_53178_1 : decode cJ7_fill_53178 1 = .ok (.istore_n 2, 1) := by decide +kernel
theorem dJ7_fill_53178_2 : decode cJ7_fill_53178 2 = .ok (.aload_n 0, 1) := by decide +kernel
theorem dJ7_fill_53178_3 : decode cJ7_fill_53178 3 = .ok (.arraylength, 1) := by decide +kernel
theorem dJ7_fill_53178_4 : decode cJ7_fill_53178 4 = .ok (.istore_n 3, 1) := by decide +kernel
theorem dJ7_fill_53178_5 : decode cJ7_fill_53178 5 = .ok (.iload_n 2, 1) := by decide +kernel
theorem dJ7_fill_53178_6 : decode cJ7_fill_53178 6 = .ok (.iload_n 3, 1) := by decide +kernel
theorem dJ7_fill_53178_7 : decode cJ7_fill_53178 7 = .ok (.if_icmp .ge 13, 3) := by decide +kernel
theorem dJ7_fill_53178_20 : decode cJ7_fill_53178 20 = .ok (.return_, 1) := by decide +kernel
theorem dJ7_fill_53178_10 : decode cJ7_fill_53178 10 = .ok (.aload_n 0, 1) := by decide +kernel
theorem dJ7_fill_53178_11 : decode cJ7_fill_53178 11 = .ok (.iload_n 2, 1) := by decide +kernel
theorem dJ7_fill_53178_12 : decode cJ7_fill_53178 12 = .ok (.iload_n 1, 1) := by decide +kernel
theorem dJ7_fill_53178_13 : decode cJ7_fill_53178 13 = .ok (.iastore, 1) := by decide +kernel
theorem dJ7_fill_53178_14 : decode cJ7_fill_53178 14 = .ok (.iinc 2 1, 3) := by decide +kernel
theorem dJ7_fill_53178_17 : decode cJ7_fill_53178 17 = .ok (.goto (-12), 3) := by decide +kernel
theorem dX2_costsTo_0 : decode cX2_costsTo 0 = .ok (.aload_n 0, 1) := by decide +kernel
theorem dX2_costsTo_1 : decode cX2_costsTo 1 = .ok (.getfield 19, 3) := by decide +kernel
theorem dX2_costsTo_4 : decode cX2_costsTo 4 = .ok (.iload_n 1, 1) := by decide +kernel
theorem dX2_costsTo_5 : decode cX2_costsTo 5 = .ok (.aaload, 1) := by decide +kernel
theorem dX2_costsTo_6 : decode cX2_costsTo 6 = .ok (.astore_n 2, 1) := by decide +kernel
theorem dX2_costsTo_7 : decode cX2_costsTo 7 = .ok (.aload_n 0, 1) := by decide +kernel
theorem dX2_costsTo_8 : decode cX2_costsTo 8 = .ok (.getfield 66, 3) := by decide +kernel
theorem dX2_costsTo_11 : decode cX2_costsTo 11 = .ok (.iload_n 1, 1) := by decide +kernel
theorem dX2_costsTo_12 : decode cX2_costsTo 12 = .ok (.ishr, 1) := by decide +kernel
theorem dX2_costsTo_13 : decode cX2_costsTo 13 = .ok (.iconst 1, 1) := by decide +kernel
theorem dX2_costsTo_14 : decode cX2_costsTo 14 = .ok (.iand, 1) := by decide +kernel
theorem dX2_costsTo_15 : decode cX2_costsTo 15 = .ok (.iconst 1, 1) := by decide +kernel
theorem dX2_costsTo_16 : decode cX2_costsTo 16 = .ok (.if_icmp .ne 5, 3) := by decide +kernel
theorem dX2_costsTo_21 : decode cX2_costsTo 21 = .ok (.aload_n 0, 1) := by decide +kernel
theorem dX2_costsTo_22 : decode cX2_costsTo 22 = .ok (.dup, 1) := by decide +kernel
theorem dX2_costsTo_23 : decode cX2_costsTo 23 = .ok (.getfield 66, 3) := by decide +kernel
theorem dX2_costsTo_26 : decode cX2_costsTo 26 = .ok (.iconst 1, 1) := by decide +kernel
theorem dX2_costsTo_27 : decode cX2_costsTo 27 = .ok (.iload_n 1, 1) := by decide +kernel
theorem dX2_costsTo_28 : decode cX2_costsTo 28 = .ok (.ishl, 1) := by decide +kernel
theorem dX2_costsTo_29 : decode cX2_costsTo 29 = .ok (.ior, 1) := by decide +kernel
theorem dX2_costsTo_30 : decode cX2_costsTo 30 = .ok (.putfield 66, 3) := by decide +kernel
theorem dX2_costsTo_33 : decode cX2_costsTo 33 = .ok (.aload_n 2, 1) := by decide +kernel
theorem dX2_costsTo_34 : decode cX2_costsTo 34 = .ok (.iconst (-1), 1) := by decide +kernel
theorem dX2_costsTo_35 : decode cX2_costsTo 35 = .ok (.invokestatic 69, 3) := by decide +kernel
theorem dX2_costsTo_38 : decode cX2_costsTo 38 = .ok (.aload_n 2, 1) := by decide +kernel
theorem dX2_costsTo_39 : decode cX2_costsTo 39 = .ok (.iload_n 1, 1) := by decide +kernel
theorem dX2_costsTo_40 : decode cX2_costsTo 40 = .ok (.iconst 0, 1) := by decide +kernel
theorem dX2_costsTo_41 : decode cX2_costsTo 41 = .ok (.iastore, 1) := by decide +kernel
theorem dX2_costsTo_42 : decode cX2_costsTo 42 = .ok (.iconst 1, 1) := by decide +kernel
theorem dX2_costsTo_43 : decode cX2_costsTo 43 = .ok (.istore_n 3, 1) := by decide +kernel
theorem dX2_costsTo_44 : decode cX2_costsTo 44 = .ok (.iconst 0, 1) := by decide +kernel
theorem dX2_costsTo_45 : decode cX2_costsTo 45 = .ok (.istore 4, 2) := by decide +kernel
theorem dX2_costsTo_47 : decode cX2_costsTo 47 = .ok (.iload_n 3, 1) := by decide +kernel
theorem dX2_costsTo_48 : decode cX2_costsTo 48 = .ok (.ifCond .eq 113, 3) := by decide +kernel
theorem dX2_costsTo_161 : decode cX2_costsTo 161 = .ok (.aload_n 2, 1) := by decide +kernel
theorem dX2_costsTo_162 : decode cX2_costsTo 162 = .ok (.areturn, 1) := by decide +kernel
theorem dX2_costsTo_51 : decode cX2_costsTo 51 = .ok (.iload 4, 2) := by decide +kernel
theorem dX2_costsTo_53 : decode cX2_costsTo 53 = .ok (.bipush 12, 2) := by decide +kernel
theorem dX2_costsTo_55 : decode cX2_costsTo 55 = .ok (.if_icmp .ge 106, 3) := by decide +kernel
theorem dX2_costsTo_58 : decode cX2_costsTo 58 = .ok (.iconst 0, 1) := by decide +kernel
theorem dX2_costsTo_59 : decode cX2_costsTo 59 = .ok (.istore_n 3, 1) := by decide +kernel
theorem dX2_costsTo_60 : decode cX2_costsTo 60 = .ok (.iconst 0, 1) := by decide +kernel
theorem dX2_costsTo_61 : decode cX2_costsTo 61 = .ok (.istore 5, 2) := by decide +kernel
theorem dX2_costsTo_63 : decode cX2_costsTo 63 = .ok (.iload 5, 2) := by decide +kernel
theorem dX2_costsTo_65 : decode cX2_costsTo 65 = .ok (.aload_n 0, 1) := by decide +kernel
theorem dX2_costsTo_66 : decode cX2_costsTo 66 = .ok (.getfield 23, 3) := by decide +kernel
theorem dX2_costsTo_69 : decode cX2_costsTo 69 = .ok (.if_icmp .ge 86, 3) := by decide +kernel
theorem dX2_costsTo_155 : decode cX2_costsTo 155 = .ok (.iinc 4 1, 3) := by decide +kernel
theorem dX2_costsTo_158 : decode cX2_costsTo 158 = .ok (.goto (-111), 3) := by decide +kernel
theorem dX2_costsTo_72 : decode cX2_costsTo 72 = .ok (.aload_n 0, 1) := by decide +kernel
theorem dX2_costsTo_73 : decode cX2_costsTo 73 = .ok (.getfield 11, 3) := by decide +kernel
theorem dX2_costsTo_76 : decode cX2_costsTo 76 = .ok (.iload 5, 2) := by decide +kernel
theorem dX2_costsTo_78 : decode cX2_costsTo 78 = .ok (.aaload, 1) := by decide +kernel
theorem dX2_costsTo_79 : decode cX2_costsTo 79 = .ok (.astore 6, 2) := by decide +kernel
theorem dX2_costsTo_81 : decode cX2_costsTo 81 = .ok (.aload_n 2, 1) := by decide +kernel
theorem dX2_costsTo_82 : decode cX2_costsTo 82 = .ok (.aload 6, 2) := by decide +kernel
theorem dX2_costsTo_84 : decode cX2_costsTo 84 = .ok (.getfield 30, 3) := by decide +kernel
theorem dX2_costsTo_87 : decode cX2_costsTo 87 = .ok (.iaload, 1) := by decide +kernel
theorem dX2_costsTo_88 : decode cX2_costsTo 88 = .ok (.istore 7, 2) := by decide +kernel
theorem dX2_costsTo_90 : decode cX2_costsTo 90 = .ok (.aload_n 2, 1) := by decide +kernel
theorem dX2_costsTo_91 : decode cX2_costsTo 91 = .ok (.aload 6, 2) := by decide +kernel
theorem dX2_costsTo_93 : decode cX2_costsTo 93 = .ok (.getfield 27, 3) := by decide +kernel
theorem dX2_costsTo_96 : decode cX2_costsTo 96 = .ok (.iaload, 1) := by decide +kernel
theorem dX2_costsTo_97 : decode cX2_costsTo 97 = .ok (.istore 8, 2) := by decide +kernel
theorem dX2_costsTo_99 : decode cX2_costsTo 99 = .ok (.aload 6, 2) := by decide +kernel
theorem dX2_costsTo_101 : decode cX2_costsTo 101 = .ok (.getfield 75, 3) := by decide +kernel
theorem dX2_costsTo_104 : decode cX2_costsTo 104 = .ok (.ifCond .ne 45, 3) := by decide +kernel
theorem dX2_costsTo_149 : decode cX2_costsTo 149 = .ok (.iinc 5 1, 3) := by decide +kernel
theorem dX2_costsTo_152 : decode cX2_costsTo 152 = .ok (.goto (-89), 3) := by decide +kernel
theorem dX2_costsTo_107 : decode cX2_costsTo 107 = .ok (.iload 7, 2) := by decide +kernel
theorem dX2_costsTo_109 : decode cX2_costsTo 109 = .ok (.iconst (-1), 1) := by decide +kernel
theorem dX2_costsTo_110 : decode cX2_costsTo 110 = .ok (.if_icmp .eq 39, 3) := by decide +kernel
theorem dX2_costsTo_113 : decode cX2_costsTo 113 = .ok (.iload 8, 2) := by decide +kernel
theorem dX2_costsTo_115 : decode cX2_costsTo 115 = .ok (.iconst (-1), 1) := by decide +kernel
theorem dX2_costsTo_116 : decode cX2_costsTo 116 = .ok (.if_icmp .eq 16, 3) := by decide +kernel
theorem dX2_costsTo_132 : decode cX2_costsTo 132 = .ok (.aload_n 2, 1) := by decide +kernel
theorem dX2_costsTo_133 : decode cX2_costsTo 133 = .ok (.aload 6, 2) := by decide +kernel
theorem dX2_costsTo_135 : decode cX2_costsTo 135 = .ok (.getfield 27, 3) := by decide +kernel
theorem dX2_costsTo_138 : decode cX2_costsTo 138 = .ok (.aload 6, 2) := by decide +kernel
theorem dX2_costsTo_140 : decode cX2_costsTo 140 = .ok (.getfield 45, 3) := by decide +kernel
theorem dX2_costsTo_143 : decode cX2_costsTo 143 = .ok (.iload 7, 2) := by decide +kernel
theorem dX2_costsTo_145 : decode cX2_costsTo 145 = .ok (.iadd, 1) := by decide +kernel
theorem dX2_costsTo_146 : decode cX2_costsTo 146 = .ok (.iastore, 1) := by decide +kernel
theorem dX2_costsTo_147 : decode cX2_costsTo 147 = .ok (.iconst 1, 1) := by decide +kernel
theorem dX2_costsTo_148 : decode cX2_costsTo 148 = .ok (.istore_n 3, 1) := by decide +kernel
theorem dX2_costsTo_119 : decode cX2_costsTo 119 = .ok (.aload 6, 2) := by decide +kernel
theorem dX2_costsTo_121 : decode cX2_costsTo 121 = .ok (.getfield 45, 3) := by decide +kernel
theorem dX2_costsTo_124 : decode cX2_costsTo 124 = .ok (.iload 7, 2) := by decide +kernel
theorem dX2_costsTo_126 : decode cX2_costsTo 126 = .ok (.iadd, 1) := by decide +kernel
theorem dX2_costsTo_127 : decode cX2_costsTo 127 = .ok (.iload 8, 2) := by decide +kernel
theorem dX2_costsTo_129 : decode cX2_costsTo 129 = .ok (.if_icmp .ge 20, 3) := by decide +kernel
theorem dX2_costsTo_19 : decode cX2_costsTo 19 = .ok (.aload_n 2, 1) := by decide +kernel
theorem dX2_costsTo_20 : decode cX2_costsTo 20 = .ok (.areturn, 1) := by decide +kernel
set_option maxRecDepth 100000 in
set_option maxHeartbeats 4000000 in
/-- Roads.reckonCostsIn -/
theorem c_Roads_reckonCostsIn (l : Launch) (dC : Nat → ClassId) (dI : Nat → Nat → Nat) (cy : Nat → ClassId) (L : Lay) (tr : Option Nat) (a : St) (κ : Kap) (τ : Tau) (M : Nat) (tk : Int32) (sz : Nat) (hT : TL L tr τ) (hw : Wf M a) (hκ : CV a κ) : Met l yX2_reckonCostsIn (tp_w yX2_reckonCostsIn cX2_reckonCostsIn 4 none) ({ frames := 3, cells := 0, slots := 0, locals := 65 }) (va_Pc [.ref (L 1 0), .int tk] (mPre dC dI cy (TW cy L tr a κ τ) sz)) (va_Qv (fun _ : Unit => True) (fun (_ : Unit) (t : State) => ∃ (κ2 : Kap), (CV (G_reck a tk) κ2) ∧ mw (dC, dI) vwCl (mA (TW cy L tr a κ τ) sz) (TW cy L tr (G_reck a tk) κ2 τ) t.heap) (mA (TW cy L tr a κ τ) sz)) (0) (0) (mA (TW cy L tr a κ τ) sz) := by
  refine Met.ofW (cc := cX2_reckonCostsIn) (maxL := 4) (ret := none) (by decide) rfl ?_
  intro p e s m args below meth c s₁ B hml hv
  obtain ⟨rfl, hsz, hP, hK, hE⟩ := hv
  have hx := B.exec
  have hb := B.bytes
  have hr := B.returns
  have hts0 := atoms_spec (ws := tp_w yX2_reckonCostsIn cX2_reckonCostsIn 4 none) B.pre
  have hts : ∀ w ∈ tp_all, w.before _ s = true := fun w h => hts0 w (List.mem_cons_of_mem _ h)
  have hown : s.vm.findClass RX2 = some m.cls := findClass_of_methodNamed B.named
  have hlocks := B.notSynchronized
  subst hsz
  have hP := hP.self s.heap.size
  generalize hAe : mA (TW cy L tr a κ τ) s.heap.size = A at hP ⊢
  have hA : ∀ q : Nat, s.heap.size ≤ q → A q := fun q h => by rw [← hAe]; exact Or.inr h
  have hS : va_S A s.heap s.heap [] := va_S.rf
  have hl9 := lv_entry ([.ref (L 1 0), .int tk]) (n := 4) (Nat.le_of_ble_eq_true rfl)
  rw [lg_entry_eq]
  generalize (lg_sl ([.ref (L 1 0), .int tk]) ++ List.replicate (4 - (lg_sl ([.ref (L 1 0), .int tk])).length) Slot.unset).toArray = ls at hl9 ⊢
  have hl : lv_has ls 4 [(0, .ref (L 1 0)), (1, .int tk)] := hl9
  refine lv_iconst (v := 0) hx hb dX2_reckonCostsIn_0 (by decide) ?_
  refine lv_istore_n (lv' := [(2, .int 0), (0, .ref (L 1 0)), (1, .int tk)]) hx hb dX2_reckonCostsIn_1 rfl hl (by decide) rfl (fun ls hl => ?_)
  have hN : nL a ≤ 24 := in_le hw.1.1
  refine W.widen (k := (fun i => 0 + 0 * i) 0) (n := (fun i => 0 + 0 * i) 0) (Nat.le_refl _) (Nat.le_refl _) ?_
  refine tp_for (σ := Kap) (nL a) (fun i => 0 + 0 * i) (fun i => 0 + 0 * i) (fun (i : Nat) (x : Kap) (H : Heap) (locs : List Loc) (ls : Array Slot) => CV (itN (L_reck tk) i a) x ∧ mw (dC, dI) vwCl A (TW cy L tr (itN (L_reck tk) i a) x τ) H ∧ va_S A s.heap H locs ∧ lv_has ls 4 [(2, .int (nI i)), (0, .ref (L 1 0)), (1, .int tk)]) ?_ ?_ (nL a) 0 (Nat.zero_add _) κ _ _ ls ⟨hκ, hP, hS, lv_sub hl [0, 1, 2] rfl⟩
  · rintro κ9 H locs ls ⟨hκ9, hP, hS, hl⟩
    have hl : lv_has ls 4 [(2, .int (nI (nL a))), (0, .ref (L 1 0)), (1, .int tk)] := hl
    have hκ9 : CV (itN (L_reck tk) (nL a) a) κ9 := hκ9
    obtain ⟨b1, eb1⟩ : ∃ z : St, z = itN (L_reck tk) (nL a) a := ⟨_, rfl⟩
    rw [← eb1] at hP
    rw [← eb1] at hκ9
    have h1b1 : b1 1 0 0 = a 1 0 0 := by rw [eb1]; exact itN_keep (P := fun b => b 1 0 0 = a 1 0 0) rfl (fun i b h => by rw [L_reck_off (by decide)]; exact h) _
    refine lv_iload_n hx hb dX2_reckonCostsIn_2 rfl (lv_at hl 0 rfl) ?_
    refine lv_aload_n hx hb dX2_reckonCostsIn_3 rfl (lv_at hl 1 rfl) ?_
    refine va_get (D := (dC, dI)) (ws := [(L 1 0, .inr (2, [.ref (L 24 0), .int ((b1 1 0) 0), .ref (L 25 0), .int κ9.1]))]) (ci := 2) (v := .int ((b1 1 0) 0)) (C := RX2) (T := TX2) (N := 4) hx hb hts tl_X2 hown hK (hP.one (tw_mem (f := 1) (i := 0) (by decide) rfl)) 0 rfl rfl 1 (by decide) (hts _ tw_697) (fun _ h9 => h9) rfl dX2_reckonCostsIn_4 ?_
    refine W.eq (g2 := F0 m 7 ls [.int (nI (nL a)), .int (nI (nL a))]) (by rw [h1b1, in_nI hw.1.1]) ?_
    refine lv_icmp_ge (tgt := 54) hx hb dX2_reckonCostsIn_7 (by decide) (fun _ => ?_) (fun c_1 => absurd (Int32.le_refl _) c_1)
    refine W.widen (k := 0) (n := 0) (by show 0 + 0 * (nL a) + 0 ≤ 0; omega) (by show 0 + 0 * (nL a) + 0 ≤ 0; omega) ?_
    have s_1 : b1 = G_reck a tk := by
      rw [eb1]
      rfl
    rw [s_1] at hP
    have g_1 : CV (G_reck a tk) κ9 := by
      rw [← s_1]
      exact hκ9
    exact W.vret hx hb hr (fun t ht hW => ⟨⟨(), rfl, trivial, ⟨κ9, g_1, by show mw _ _ _ _ t.heap; rw [ht]; exact hP⟩⟩, hS.F ht⟩) hS.2.2 dX2_reckonCostsIn_54
  · rintro i κ9 H locs ls hi ⟨hκ9, hP, hS, hl⟩ ih
    have hl : lv_has ls 4 [(2, .int (nI i)), (0, .ref (L 1 0)), (1, .int tk)] := hl
    have hκ9 : CV (itN (L_reck tk) i a) κ9 := hκ9
    obtain ⟨b2, eb2⟩ : ∃ z : St, z = itN (L_reck tk) i a := ⟨_, rfl⟩
    rw [← eb2] at hP
    rw [← eb2] at hκ9
    have h1b2 : b2 1 0 0 = a 1 0 0 := by rw [eb2]; exact itN_keep (P := fun b => b 1 0 0 = a 1 0 0) rfl (fun i b h => by rw [L_reck_off (by decide)]; exact h) _
    have h5b2 : in_ (b2 5 i 0) 30 := by rw [eb2]; exact itN_keep (P := fun b => in_ (b 5 i 0) 30) (hw.2.1 i (Nat.lt_of_lt_of_le hi hN)).2.2.2.2.2 (fun j b h => by rw [L_reck_off (by decide)]; exact h) _
    refine lv_iload_n hx hb dX2_reckonCostsIn_2 rfl (lv_at hl 0 rfl) ?_
    refine lv_aload_n hx hb dX2_reckonCostsIn_3 rfl (lv_at hl 1 rfl) ?_
    refine va_get (D := (dC, dI)) (ws := [(L 1 0, .inr (2, [.ref (L 24 0), .int ((b2 1 0) 0), .ref (L 25 0), .int κ9.1]))]) (ci := 2) (v := .int ((b2 1 0) 0)) (C := RX2) (T := TX2) (N := 4) hx hb hts tl_X2 hown hK (hP.one (tw_mem (f := 1) (i := 0) (by decide) rfl)) 0 rfl rfl 1 (by decide) (hts _ tw_697) (fun _ h9 => h9) rfl dX2_reckonCostsIn_4 ?_
    refine W.eq (g2 := F0 m 7 ls [.int (nI (nL a)), .int (nI i)]) (by rw [h1b2, in_nI hw.1.1]) ?_
    refine lv_icmp_ge (tgt := 54) hx hb dX2_reckonCostsIn_7 (by decide) (fun c_2 => absurd c_2 (nI_ge hi (by omega))) (fun _ => ?_)
    refine lv_aload_n hx hb dX2_reckonCostsIn_10 rfl (lv_at hl 1 rfl) ?_
    refine va_get (D := (dC, dI)) (ws := [(L 1 0, .inr (2, [.ref (L 24 0), .int ((b2 1 0) 0), .ref (L 25 0), .int κ9.1]))]) (ci := 2) (v := .ref (L 24 0)) (C := RX2) (T := TX2) (N := 4) hx hb hts tl_X2 hown hK (hP.one (tw_mem (f := 1) (i := 0) (by decide) rfl)) 0 rfl rfl 0 (by decide) (hts _ tw_695) (fun _ h9 => h9) rfl dX2_reckonCostsIn_11 ?_
    refine lv_iload_n hx hb dX2_reckonCostsIn_14 rfl (lv_at hl 0 rfl) ?_
    have j_1 : (nI i : Int32).toNatClampNeg = i := m_cl rfl (Nat.lt_of_lt_of_le hi hN) (by decide)
    refine va_aldq hx hb hK (ws := [(L 24 0, .inl (cy 3, 24, .inr (.inr (.inr (.inr (fun j => some (L 2 j)))))))]) (hP.one (tw_mem (f := 24) (i := 0) (by decide) rfl)) 0 3 rfl rfl (m_in rfl (Nat.lt_of_lt_of_le hi hN) (by decide)) dX2_reckonCostsIn_15 ?_
    refine W.eq (g2 := F0 m 16 ls [.ref (L 2 i)]) (by first | (rw [j_1]; done) | (rw [j_1]; rfl)) ?_
    refine lv_iload_n hx hb dX2_reckonCostsIn_16 rfl (lv_at hl 2 rfl) ?_
    have hFc := m_free (C := (TW cy L tr b2 κ9 τ)) hP hS hA (fun _ _ h => h)
    refine va_calli (va_runV (As := [.int tk]) (rest := []) ⟨hx, hb, hml, hown, hts⟩ (c_Link_costIn l dC dI cy L tr b2 κ9 τ i tk H.size hT (Nat.lt_of_lt_of_le hi hN) h5b2.1 h5b2.2) (tp_cwV 1 hts tw_178 tw_179 tw_180 tw_23 tw_181 rfl rfl (by decide +kernel) ⟨Nat.le_of_ble_eq_true rfl, Nat.le_of_ble_eq_true rfl⟩) ⟨m_blind, va_recv hK (hP.one (e := .inr (1, [.int ((b2 2 i) 0), .int ((b2 2 i) 1), .int ((b2 2 i) 2), .int ((b2 2 i) 3), .int ((b2 2 i) 4), .int ((b2 2 i) 5), .int ((b2 2 i) 6), .int ((b2 2 i) 7), .int ((b2 2 i) 8), .ref (L 3 i), .ref (L 5 i), .int ((b2 2 i) 9), .int ((b2 2 i) 10), .int ((b2 2 i) 11), .int ((b2 2 i) 12), .ref (L 7 i)])) (tw_mem (f := 2) (i := i) (Nat.lt_of_lt_of_le hi hN) rfl)) (ci := 1) (q0 := 0) rfl rfl, fun U hU hW => ⟨rfl, m_pay hK hP hE (fun _ _ h => h) U hU hW⟩⟩ rfl rfl hl.1 rfl (lv_room (Nat.le_of_ble_eq_true rfl)) dX2_reckonCostsIn_17 ⟨(by show 0 + 0 * i + 0 ≤ 0; omega), (by show 0 + 0 * i + 0 ≤ 0; omega)⟩) hS (fun q _ h => hFc q h) hFc (fun r_1 u t H1 locs ht hvm hpo hB hz1 hk1 hS => ?_)
    obtain rfl := hpo
    obtain ⟨f_1, hP1⟩ := hB
    subst f_1
    rw [ht] at hP1
    have hP : mw (dC, dI) vwCl A (TW cy L tr b2 κ9 τ) H1 := hP.join (fun _ _ h => h) hk1 hFc hP1 (fun _ _ h => Or.inl h)
    generalize H1 = H at hP hS ⊢
    clear hP1 hk1 hFc
    refine lv_istore_n (lv' := [(3, .int (L_cost b2 i tk)), (2, .int (nI i)), (0, .ref (L 1 0)), (1, .int tk)]) hx hb dX2_reckonCostsIn_20 rfl hl (by decide) rfl (fun ls hl => ?_)
    refine lv_iload_n hx hb dX2_reckonCostsIn_21 rfl (lv_at hl 0 rfl) ?_
    refine lv_aload_n hx hb dX2_reckonCostsIn_22 rfl (lv_at hl 2 rfl) ?_
    refine va_get (D := (dC, dI)) (ws := [(L 1 0, .inr (2, [.ref (L 24 0), .int ((b2 1 0) 0), .ref (L 25 0), .int κ9.1]))]) (ci := 2) (v := .ref (L 24 0)) (C := RX2) (T := TX2) (N := 4) hx hb hts tl_X2 hown hK (hP.one (tw_mem (f := 1) (i := 0) (by decide) rfl)) 0 rfl rfl 0 (by decide) (hts _ tw_695) (fun _ h9 => h9) rfl dX2_reckonCostsIn_23 ?_
    refine lv_iload_n hx hb dX2_reckonCostsIn_26 rfl (lv_at hl 1 rfl) ?_
    have j_2 : (nI i : Int32).toNatClampNeg = i := m_cl rfl (Nat.lt_of_lt_of_le hi hN) (by decide)
    refine va_aldq hx hb hK (ws := [(L 24 0, .inl (cy 3, 24, .inr (.inr (.inr (.inr (fun j => some (L 2 j)))))))]) (hP.one (tw_mem (f := 24) (i := 0) (by decide) rfl)) 0 3 rfl rfl (m_in rfl (Nat.lt_of_lt_of_le hi hN) (by decide)) dX2_reckonCostsIn_27 ?_
    refine W.eq (g2 := F0 m 28 ls [.ref (L 2 i), .int (L_cost b2 i tk)]) (by first | (rw [j_2]; done) | (rw [j_2]; rfl)) ?_
    refine va_getN (D := (dC, dI)) (ws := [(L 2 i, .inr (1, [.int ((b2 2 i) 0), .int ((b2 2 i) 1), .int ((b2 2 i) 2), .int ((b2 2 i) 3), .int ((b2 2 i) 4), .int ((b2 2 i) 5), .int ((b2 2 i) 6), .int ((b2 2 i) 7), .int ((b2 2 i) 8), .ref (L 3 i), .ref (L 5 i), .int ((b2 2 i) 9), .int ((b2 2 i) 10), .int ((b2 2 i) 11), .int ((b2 2 i) 12), .ref (L 7 i)]))]) (ci := 1) (v := .int ((b2 2 i) 8)) (C := RX1) (T := TX1) (N := 16) hx hb hts tl_X1 hown hK (hP.one (tw_mem (f := 2) (i := i) (Nat.lt_of_lt_of_le hi hN) rfl)) 0 rfl rfl 8 (by decide) (va_Nw.use rfl (te_f15 hE)) (fun _ h9 => h9) rfl dX2_reckonCostsIn_28 ?_
    refine lv_icmp_eq (tgt := 48) hx hb dX2_reckonCostsIn_31 (by decide) (fun c_3 => ?_) (fun c_3 => ?_)
    · refine lv_iinc (v := nI (i + 1)) (lv' := [(2, .int (nI (i + 1))), (3, .int (L_cost b2 i tk)), (0, .ref (L 1 0)), (1, .int tk)]) hx hb dX2_reckonCostsIn_48 hl (k := 1) rfl (nI_1 i) (by decide) rfl (fun ls hl => ?_)
      refine lv_goto (tgt := 2) hx hb dX2_reckonCostsIn_51 (by decide) ?_
      have e9 : b2 = itN (L_reck tk) (i + 1) a := by
        rw [show itN (L_reck tk) (i + 1) a = L_reck tk i b2 from by rw [eb2]; rfl]
        unfold L_reck
        rw [upd_id c_3, S2_id]
      rw [e9] at hP
      refine W.widen (k := (fun i => 0 + 0 * i) (i + 1)) (n := (fun i => 0 + 0 * i) (i + 1)) (by show _ ≤ 0 + 0 * (i + 1); omega) (by show _ ≤ 0 + 0 * (i + 1); omega) ?_
      exact ih κ9 _ _ ls ⟨(by rw [← e9]; exact hκ9), hP, hS, lv_sub hl [0, 2, 3] rfl⟩
    · refine lv_aload_n hx hb dX2_reckonCostsIn_34 rfl (lv_at hl 2 rfl) ?_
      refine va_get (D := (dC, dI)) (ws := [(L 1 0, .inr (2, [.ref (L 24 0), .int ((b2 1 0) 0), .ref (L 25 0), .int κ9.1]))]) (ci := 2) (v := .ref (L 24 0)) (C := RX2) (T := TX2) (N := 4) hx hb hts tl_X2 hown hK (hP.one (tw_mem (f := 1) (i := 0) (by decide) rfl)) 0 rfl rfl 0 (by decide) (hts _ tw_695) (fun _ h9 => h9) rfl dX2_reckonCostsIn_35 ?_
      refine lv_iload_n hx hb dX2_reckonCostsIn_38 rfl (lv_at hl 1 rfl) ?_
      have j_3 : (nI i : Int32).toNatClampNeg = i := m_cl rfl (Nat.lt_of_lt_of_le hi hN) (by decide)
      refine va_aldq hx hb hK (ws := [(L 24 0, .inl (cy 3, 24, .inr (.inr (.inr (.inr (fun j => some (L 2 j)))))))]) (hP.one (tw_mem (f := 24) (i := 0) (by decide) rfl)) 0 3 rfl rfl (m_in rfl (Nat.lt_of_lt_of_le hi hN) (by decide)) dX2_reckonCostsIn_39 ?_
      refine W.eq (g2 := F0 m 40 ls [.ref (L 2 i)]) (by first | (rw [j_3]; done) | (rw [j_3]; rfl)) ?_
      refine lv_iload_n hx hb dX2_reckonCostsIn_40 rfl (lv_at hl 0 rfl) ?_
      obtain ⟨ws9, k9, hPw, hDw, hk9, -, hbk⟩ := hP.cut (e := .inr (1, [.int ((b2 2 i) 0), .int ((b2 2 i) 1), .int ((b2 2 i) 2), .int ((b2 2 i) 3), .int ((b2 2 i) 4), .int ((b2 2 i) 5), .int ((b2 2 i) 6), .int ((b2 2 i) 7), .int ((b2 2 i) 8), .ref (L 3 i), .ref (L 5 i), .int ((b2 2 i) 9), .int ((b2 2 i) 10), .int ((b2 2 i) 11), .int ((b2 2 i) 12), .ref (L 7 i)])) (tw_mem (f := 2) (i := i) (Nat.lt_of_lt_of_le hi hN) rfl)
      refine va_putN (D := (dC, dI)) (ci := 1) (v := .int (L_cost b2 i tk)) (ty := .int) (C := RX1) (T := TX1) (N := 16) hx hb hts tl_X1 tyX1 tyX1_ok nmX1 hown hK hPw hDw hS k9 hk9 rfl 8 (by decide) (va_Nw.use rfl (te_f15 hE)) (fun _ h9 => h9) rfl (by decide +kernel) rfl rfl (Nat.le_of_ble_eq_true rfl) dX2_reckonCostsIn_41 (fun H locs hPw hDw hS => ?_)
      have hP : mw (dC, dI) vwCl A (TW cy L tr (S2 b2 2 i (upd (b2 2 i) 8 (L_cost b2 i tk))) κ9 τ) H := (hbk _ _ hPw hDw).sub (tw_set (b := S2 b2 2 i (upd (b2 2 i) 8 (L_cost b2 i tk))) (f := 2) (i := i) (x := upd (b2 2 i) 8 (L_cost b2 i tk)) hT (Nat.lt_of_lt_of_le hi hN) (by decide) rfl)
      clear hbk hPw hDw hk9
      refine lv_aload_n hx hb dX2_reckonCostsIn_44 rfl (lv_at hl 2 rfl) ?_
      obtain ⟨b3, eb3⟩ : ∃ z : St, z = S2 b2 2 i (upd (b2 2 i) 8 (L_cost b2 i tk)) := ⟨_, rfl⟩
      rw [← eb3] at hP
      have hFc := m_free (C := (TW cy L tr b3 κ9 τ)) hP hS hA (fun _ _ h => h)
      refine va_callv (va_runV (As := []) (rest := []) ⟨hx, hb, hml, hown, hts⟩ (c_Roads_forgetWays l dC dI cy L tr b3 κ9 τ H.size hT) (tp_cwV 0 hts tw_190 tw_148 tw_149 tw_22 tw_150 rfl rfl (by decide +kernel) ⟨Nat.le_of_ble_eq_true rfl, Nat.le_of_ble_eq_true rfl⟩) ⟨m_blind, va_recv hK (hP.one (e := .inr (2, [.ref (L 24 0), .int ((b3 1 0) 0), .ref (L 25 0), .int κ9.1])) (tw_mem (f := 1) (i := 0) (by decide) rfl)) (ci := 2) (q0 := 0) rfl rfl, fun U hU hW => ⟨rfl, m_pay hK hP hE (fun _ _ h => h) U hU hW⟩⟩ rfl rfl hl.1 rfl (lv_room (Nat.le_of_ble_eq_true rfl)) dX2_reckonCostsIn_45 ⟨(by show 0 + 0 * i + 0 + 0 ≤ 0; omega), (by show 0 + 0 * i + 0 + 0 ≤ 0; omega)⟩) hS (fun q _ h => hFc q h) hFc (fun u t H1 locs ht hvm hpo hB hz1 hk1 hS => ?_)
      have hP1 := hB
      rw [ht] at hP1
      have hP : mw (dC, dI) vwCl A (TW cy L tr b3 ((0, κ9.2)) τ) H1 := hP.join (fun _ _ h => h) hk1 hFc hP1 (fun _ _ h => Or.inl h)
      generalize H1 = H at hP hS ⊢
      clear hP1 hk1 hFc
      refine lv_iinc (v := nI (i + 1)) (lv' := [(2, .int (nI (i + 1))), (3, .int (L_cost b2 i tk)), (0, .ref (L 1 0)), (1, .int tk)]) hx hb dX2_reckonCostsIn_48 hl (k := 1) rfl (nI_1 i) (by decide) rfl (fun ls hl => ?_)
      refine lv_goto (tgt := 2) hx hb dX2_reckonCostsIn_51 (by decide) ?_
      have e9 : b3 = itN (L_reck tk) (i + 1) a := by
        rw [eb3, eb2]
        rfl
      rw [e9] at hP
      refine W.widen (k := (fun i => 0 + 0 * i) (i + 1)) (n := (fun i => 0 + 0 * i) (i + 1)) (by show _ ≤ 0 + 0 * (i + 1); omega) (by show _ ≤ 0 + 0 * (i + 1); omega) ?_
      exact ih ((0, κ9.2)) _ _ ls ⟨CV.none, hP, hS, lv_sub hl [0, 2, 3] rfl⟩
set_option maxRecDepth 100000 in
set_option maxHeartbeats 4000000 in
/-- Arrays.fill of a row of costs -/
theorem c_fill (l : Launch) (dC : Nat → ClassId) (dI : Nat → Nat → Nat) (cy : Nat → ClassId) (L : Lay) (tr : Option Nat) (a : St) (κ : Kap) (τ : Tau) (i : Nat) (v : Int32) (sz : Nat) (hT : TL L tr τ) (hi : i < 12) : Met l yJ7_fill_53178 (tp_w yJ7_fill_53178 cJ7_fill_53178 4 none) ({ frames := 0, cells := 0, slots := 0, locals := 0 }) (va_Pc [.ref (L 17 i), .int v] (mPre dC dI cy (TW cy L tr a κ τ) sz)) (va_Qv (fun _ : Unit => True) (fun (_ : Unit) (t : State) => mw (dC, dI) vwCl (mA (TW cy L tr a κ τ) sz) (TW cy L tr a (KR κ.1 κ i (fun _ => v)) τ) t.heap) (mA (TW cy L tr a κ τ) sz)) (0) (0) (mA (TW cy L tr a κ τ) sz) := by
  refine Met.ofW (cc := cJ7_fill_53178) (maxL := 4) (ret := none) (by decide) rfl ?_
  intro p e s m args below meth c s₁ B hml hv
  obtain ⟨rfl, hsz, hP, hK, hE⟩ := hv
  have hx := B.exec
  have hb := B.bytes
  have hr := B.returns
  have hts0 := atoms_spec (ws := tp_w yJ7_fill_53178 cJ7_fill_53178 4 none) B.pre
  have hts : ∀ w ∈ tp_all, w.before _ s = true := fun w h => hts0 w (List.mem_cons_of_mem _ h)
  have hown : s.vm.findClass RJ7 = some m.cls := findClass_of_methodNamed B.named
  have hlocks := B.notSynchronized
  subst hsz
  have hP := hP.self s.heap.size
  generalize hAe : mA (TW cy L tr a κ τ) s.heap.size = A at hP ⊢
  have hA : ∀ q : Nat, s.heap.size ≤ q → A q := fun q h => by rw [← hAe]; exact Or.inr h
  have hS : va_S A s.heap s.heap [] := va_S.rf
  have hl9 := lv_entry ([.ref (L 17 i), .int v]) (n := 4) (Nat.le_of_ble_eq_true rfl)
  rw [lg_entry_eq]
  generalize (lg_sl ([.ref (L 17 i), .int v]) ++ List.replicate (4 - (lg_sl ([.ref (L 17 i), .int v])).length) Slot.unset).toArray = ls at hl9 ⊢
  have hl : lv_has ls 4 [(0, .ref (L 17 i)), (1, .int v)] := hl9
  refine lv_iconst (v := 0) hx hb dJ7_fill_53178_0 (by decide) ?_
  refine lv_istore_n (lv' := [(2, .int 0), (0, .ref (L 17 i)), (1, .int v)]) hx hb dJ7_fill_53178_1 rfl hl (by decide) rfl (fun ls hl => ?_)
  refine lv_aload_n hx hb dJ7_fill_53178_2 rfl (lv_at hl 1 rfl) ?_
  refine va_alen hx hb hK (ws := [(L 17 i, .inl (cy 0, 12, .inl (κ.2 i)))]) (hP.one (tw_mem (f := 17) (i := i) hi rfl)) 0 0 rfl rfl (v := 12) rfl dJ7_fill_53178_3 ?_
  refine lv_istore_n (lv' := [(3, .int 12), (2, .int 0), (0, .ref (L 17 i)), (1, .int v)]) hx hb dJ7_fill_53178_4 rfl hl (by decide) rfl (fun ls hl => ?_)
  have e0 : KR κ.1 κ i (fillN (κ.2 i) v 0) = κ := by rw [fillN_0, KR_id]
  rw [← e0] at hP
  have hN : 12 ≤ 12 := (Nat.le_refl _)
  suffices hloop : ∀ (d k : Nat), k + d = 12 → ∀ ls : Array Slot, lv_has ls 4 [(2, .int (nI k)), (3, .int 12), (0, .ref (L 17 i)), (1, .int v)] → ∀ (H : Heap) (locs : List Loc), mw (dC, dI) vwCl A (TW cy L tr a (KR κ.1 κ i (fillN (κ.2 i) v k)) τ) H → va_S A s.heap H locs → W p l e _ s m _ below meth c H locs (0) (0) _ (F0 m 5 ls []) from hloop 12 0 (by omega)   ls (lv_sub hl [1, 0, 2, 3] rfl) _ _ hP hS
  clear hP hS hl ls hl9
  intro d
  induction d with
  | zero =>
    intro k hk  ls hl H locs hP hS
    refine lv_iload_n hx hb dJ7_fill_53178_5 rfl (lv_at hl 0 rfl) ?_
    refine lv_iload_n hx hb dJ7_fill_53178_6 rfl (lv_at hl 1 rfl) ?_
    have e9 : k = 12 := by omega
    refine lv_icmp_ge (tgt := 20) hx hb dJ7_fill_53178_7 (by decide) (fun _ => ?_) (fun c_1 => absurd (by rw [e9]; exact Int32.le_refl _) c_1)
    have hP := (hP.fill (n := 12) (f := (KR κ.1 κ i (fillN (κ.2 i) v k)).2 i) (g := fun _ => v) (tw_mem (f := 17) (i := i) hi rfl) (fun j hj => by rw [KR_at]; unfold fillN; rw [if_pos (by omega)])).sub (tw_set17 (κ' := KR κ.1 κ i (fun _ => v)) (z := fun _ => v) hT hi KR_KR.symm)
    refine W.widen (k := 0) (n := 0) (Nat.le_of_ble_eq_true rfl) (Nat.le_of_ble_eq_true rfl) ?_
    exact W.vret hx hb hr (fun t ht hW => ⟨⟨(), rfl, trivial, (by show mw _ _ _ _ t.heap; rw [ht]; exact hP)⟩, hS.F ht⟩) hS.2.2 dJ7_fill_53178_20
  | succ d ih =>
    intro k hk  ls hl H locs hP hS
    refine lv_iload_n hx hb dJ7_fill_53178_5 rfl (lv_at hl 0 rfl) ?_
    refine lv_iload_n hx hb dJ7_fill_53178_6 rfl (lv_at hl 1 rfl) ?_
    refine lv_icmp_ge (tgt := 20) hx hb dJ7_fill_53178_7 (by decide) (fun c_2 => absurd c_2 (nI_ge (a := k) (b := 12) (by omega) (by omega))) (fun _ => ?_)
    refine lv_aload_n hx hb dJ7_fill_53178_10 rfl (lv_at hl 2 rfl) ?_
    refine lv_iload_n hx hb dJ7_fill_53178_11 rfl (lv_at hl 0 rfl) ?_
    refine lv_iload_n hx hb dJ7_fill_53178_12 rfl (lv_at hl 3 rfl) ?_
    have j_1 : (nI k : Int32).toNatClampNeg = k := m_cl rfl (by omega : k < 12) (by decide)
    obtain ⟨ws9, k9, hPw, hDw, hk9, -, hbk⟩ := hP.cut (e := .inl (cy 0, 12, .inl ((KR κ.1 κ i (fillN (κ.2 i) v k)).2 i))) (tw_mem (f := 17) (i := i) hi rfl)
    refine va_iast hx hb hK hPw hDw hS k9 0 hk9 rfl (m_in rfl (by omega : k < 12) (by decide)) dJ7_fill_53178_13 (fun H locs hPw hDw hS => ?_)
    rw [j_1] at hPw hDw
    obtain ⟨κ_1, eκ_1⟩ : ∃ y9 : Kap, y9 = ((KR κ.1 κ i (fillN (κ.2 i) v k)).1, fun j => if j = i then upd ((KR κ.1 κ i (fillN (κ.2 i) v k)).2 i) k v else (KR κ.1 κ i (fillN (κ.2 i) v k)).2 j) := ⟨_, rfl⟩
    have hP : mw (dC, dI) vwCl A (TW cy L tr a κ_1 τ) H := (hbk _ _ hPw hDw).sub (tw_set17 (κ' := κ_1) (z := upd ((KR κ.1 κ i (fillN (κ.2 i) v k)).2 i) k v) hT hi eκ_1)
    clear hbk hPw hDw hk9
    rw [show κ_1 = KR κ.1 κ i (fillN (κ.2 i) v (k + 1)) from by rw [KR_put eκ_1, fillN_s]] at hP
    refine lv_iinc (v := nI (k + 1)) (lv' := [(2, .int (nI (k + 1))), (3, .int 12), (0, .ref (L 17 i)), (1, .int v)]) hx hb dJ7_fill_53178_14 hl (k := 0) rfl (nI_1 k) (by decide) rfl (fun ls hl => ?_)
    refine lv_goto (tgt := 5) hx hb dJ7_fill_53178_17 (by decide) ?_
    exact ih (k + 1) (by omega)   ls (lv_sub hl [0, 1, 2, 3] rfl) H locs hP hS
set_option maxRecDepth 100000 in
set_option maxHeartbeats 4000000 in
/-- Roads.costsTo -/
theorem c_Roads_costsTo (l : Launch) (dC : Nat → ClassId) (dI : Nat → Nat → Nat) (cy : Nat → ClassId) (L : Lay) (tr : Option Nat) (a : St) (κ : Kap) (τ : Tau) (M : Nat) (to : Int32) (sz : Nat) (hT : TL L tr τ) (hw : Wf M a) (hto : in_ to 11) (hκ : CV a κ) : Met l yX2_costsTo (tp_w yX2_costsTo cX2_costsTo 9 (some (.array .int))) ({ frames := 1, cells := 0, slots := 0, locals := 23 }) (va_Pc [.ref (L 1 0), .int to] (mPre dC dI cy (TW cy L tr a κ τ) sz)) (va_Qr (fun _ : Unit => True) (fun (_ : Unit) (rv : Nat) (t : State) => ∃ (κ2 : Kap), (rv = L 17 to.toNatClampNeg) ∧ (CV a κ2) ∧ (κ2.2 to.toNatClampNeg = bf a to.toNatClampNeg) ∧ mw (dC, dI) vwCl (mA (TW cy L tr a κ τ) sz) (TW cy L tr a κ2 τ) t.heap) (mA (TW cy L tr a κ τ) sz)) (0) (0) (mA (TW cy L tr a κ τ) sz) := by
  refine Met.ofW (cc := cX2_costsTo) (maxL := 9) (ret := (some (.array .int))) (by decide) rfl ?_
  intro p e s m args below meth c s₁ B hml hv
  obtain ⟨rfl, hsz, hP, hK, hE⟩ := hv
  have hx := B.exec
  have hb := B.bytes
  have hr := B.returns
  have hts0 := atoms_spec (ws := tp_w yX2_costsTo cX2_costsTo 9 (some (.array .int))) B.pre
  have hts : ∀ w ∈ tp_all, w.before _ s = true := fun w h => hts0 w (List.mem_cons_of_mem _ h)
  have hown : s.vm.findClass RX2 = some m.cls := findClass_of_methodNamed B.named
  have hlocks := B.notSynchronized
  subst hsz
  have hP := hP.self s.heap.size
  generalize hAe : mA (TW cy L tr a κ τ) s.heap.size = A at hP ⊢
  have hA : ∀ q : Nat, s.heap.size ≤ q → A q := fun q h => by rw [← hAe]; exact Or.inr h
  have hS : va_S A s.heap s.heap [] := va_S.rf
  have hl9 := lv_entry ([.ref (L 1 0), .int to]) (n := 9) (Nat.le_of_ble_eq_true rfl)
  rw [lg_entry_eq]
  generalize (lg_sl ([.ref (L 1 0), .int to]) ++ List.replicate (9 - (lg_sl ([.ref (L 1 0), .int to])).length) Slot.unset).toArray = ls at hl9 ⊢
  have hl : lv_has ls 9 [(0, .ref (L 1 0)), (1, .int to)] := hl9
  refine lv_aload_n hx hb dX2_costsTo_0 rfl (lv_at hl 0 rfl) ?_
  refine va_get (D := (dC, dI)) (ws := [(L 1 0, .inr (2, [.ref (L 24 0), .int ((a 1 0) 0), .ref (L 25 0), .int κ.1]))]) (ci := 2) (v := .ref (L 25 0)) (C := RX2) (T := TX2) (N := 4) hx hb hts tl_X2 hown hK (hP.one (tw_mem (f := 1) (i := 0) (by decide) rfl)) 0 rfl rfl 2 (by decide) (hts _ tw_700) (fun _ h9 => h9) rfl dX2_costsTo_1 ?_
  refine lv_iload_n hx hb dX2_costsTo_4 rfl (lv_at hl 1 rfl) ?_
  have j_1 : (to : Int32).toNatClampNeg = to.toNatClampNeg := m_cl (in_nI hto) (in_lt hto) (by decide)
  refine m_aldA hx hb hK (ws := [(L 25 0, .inl (cy 8, 12, .inr (.inr (.inr (.inr (fun j => some (L 17 j)))))))]) (hP.one (tw_mem (f := 25) (i := 0) (by decide) rfl)) 0 8 rfl rfl (m_in (in_nI hto) (in_lt hto) (by decide)) dX2_costsTo_5 ?_
  refine W.eq (g2 := F0 m 6 ls [.ref (L 17 to.toNatClampNeg)]) (by first | (rw [j_1]; done) | (rw [j_1]; rfl)) ?_
  refine lv_astore_n (lv' := [(2, .ref (L 17 to.toNatClampNeg)), (0, .ref (L 1 0)), (1, .int to)]) hx hb dX2_costsTo_6 rfl hl (by decide) rfl (fun ls hl => ?_)
  refine lv_aload_n hx hb dX2_costsTo_7 rfl (lv_at hl 1 rfl) ?_
  refine va_get (D := (dC, dI)) (ws := [(L 1 0, .inr (2, [.ref (L 24 0), .int ((a 1 0) 0), .ref (L 25 0), .int κ.1]))]) (ci := 2) (v := .int κ.1) (C := RX2) (T := TX2) (N := 4) hx hb hts tl_X2 hown hK (hP.one (tw_mem (f := 1) (i := 0) (by decide) rfl)) 0 rfl rfl 3 (by decide) (hts _ tw_701) (fun _ h9 => h9) rfl dX2_costsTo_8 ?_
  refine lv_iload_n hx hb dX2_costsTo_11 rfl (lv_at hl 2 rfl) ?_
  refine lv_ishr hx hb dX2_costsTo_12 ?_
  refine lv_iconst (v := 1) hx hb dX2_costsTo_13 (by decide) ?_
  refine lv_iand hx hb dX2_costsTo_14 ?_
  refine lv_iconst (v := 1) hx hb dX2_costsTo_15 (by decide) ?_
  refine lv_icmp_ne (tgt := 21) hx hb dX2_costsTo_16 (by decide) (fun c_1 => ?_) (fun c_1 => ?_)
  · refine lv_aload_n hx hb dX2_costsTo_21 rfl (lv_at hl 1 rfl) ?_
    refine lv_dup hx hb dX2_costsTo_22 rfl ?_
    refine va_get (D := (dC, dI)) (ws := [(L 1 0, .inr (2, [.ref (L 24 0), .int ((a 1 0) 0), .ref (L 25 0), .int κ.1]))]) (ci := 2) (v := .int κ.1) (C := RX2) (T := TX2) (N := 4) hx hb hts tl_X2 hown hK (hP.one (tw_mem (f := 1) (i := 0) (by decide) rfl)) 0 rfl rfl 3 (by decide) (hts _ tw_701) (fun _ h9 => h9) rfl dX2_costsTo_23 ?_
    refine lv_iconst (v := 1) hx hb dX2_costsTo_26 (by decide) ?_
    refine lv_iload_n hx hb dX2_costsTo_27 rfl (lv_at hl 2 rfl) ?_
    refine lv_ishl hx hb dX2_costsTo_28 ?_
    refine lv_ior hx hb dX2_costsTo_29 ?_
    obtain ⟨ws9, k9, hPw, hDw, hk9, -, hbk⟩ := hP.cut (e := .inr (2, [.ref (L 24 0), .int ((a 1 0) 0), .ref (L 25 0), .int κ.1])) (tw_mem (f := 1) (i := 0) (by decide) rfl)
    refine va_put (D := (dC, dI)) (ci := 2) (v := .int (κ.1 ||| (1 <<< (to &&& 31)))) (ty := .int) (C := RX2) (T := TX2) (N := 4) hx hb hts tl_X2 tyX2 tyX2_ok nmX2 hown hK hPw hDw hS k9 hk9 rfl 3 (by decide) (hts _ tw_701) (fun _ h9 => h9) rfl (by decide +kernel) rfl rfl (Nat.le_of_ble_eq_true rfl) dX2_costsTo_30 (fun H locs hPw hDw hS => ?_)
    have hP : mw (dC, dI) vwCl A (TW cy L tr a ((κ.1 ||| (1 <<< (to &&& 31)), κ.2)) τ) H := (hbk _ _ hPw hDw).sub (tw_set1 (b := a) (x := a 1 0) (r := κ.1 ||| (1 <<< (to &&& 31))) hT S2_id.symm rfl)
    clear hbk hPw hDw hk9
    refine lv_aload_n hx hb dX2_costsTo_33 rfl (lv_at hl 0 rfl) ?_
    refine lv_iconst (v := -1) hx hb dX2_costsTo_34 (by decide) ?_
    have hFc := m_free (C := (TW cy L tr a ((κ.1 ||| (1 <<< (to &&& 31)), κ.2)) τ)) hP hS hA (fun _ _ h => h)
    refine va_callv (va_runS (As := [.ref (L 17 to.toNatClampNeg), .int ((-1))]) (rest := []) ⟨hx, hb, hml, hown, hts⟩ (c_fill l dC dI cy L tr a ((κ.1 ||| (1 <<< (to &&& 31)), κ.2)) τ to.toNatClampNeg ((-1)) H.size hT (in_lt hto)) (tp_cwS 2 hts tw_220 tw_221 tw_37 tw_222 rfl rfl (by decide +kernel) ⟨Nat.le_of_ble_eq_true rfl, Nat.le_of_ble_eq_true rfl⟩) ⟨m_blind, fun U hU hW => ⟨rfl, m_pay hK hP hE (fun _ _ h => h) U hU hW⟩⟩ rfl rfl hl.1 rfl (lv_room (Nat.le_of_ble_eq_true rfl)) dX2_costsTo_35 ⟨(Nat.le_of_ble_eq_true rfl), (Nat.le_of_ble_eq_true rfl)⟩) hS (fun q _ h => hFc q h) hFc (fun u t H1 locs ht hvm hpo hB hz1 hk1 hS => ?_)
    have hP1 := hB
    rw [ht] at hP1
    have hP : mw (dC, dI) vwCl A (TW cy L tr a (KR ((κ.1 ||| (1 <<< (to &&& 31)), κ.2)).1 ((κ.1 ||| (1 <<< (to &&& 31)), κ.2)) to.toNatClampNeg (fun _ => ((-1)))) τ) H1 := hP.join (fun _ _ h => h) hk1 hFc hP1 (fun _ _ h => Or.inl h)
    generalize H1 = H at hP hS ⊢
    clear hP1 hk1 hFc
    obtain ⟨r1, er1⟩ : ∃ r : Int32, r = κ.1 ||| (1 <<< (nI to.toNatClampNeg &&& 31)) := ⟨_, rfl⟩
    have hP : mw (dC, dI) vwCl A (TW cy L tr a (KR r1 κ to.toNatClampNeg (fun _ => -1)) τ) H := by rw [er1, ← in_nI hto]; exact hP
    refine lv_aload_n hx hb dX2_costsTo_38 rfl (lv_at hl 0 rfl) ?_
    refine lv_iload_n hx hb dX2_costsTo_39 rfl (lv_at hl 2 rfl) ?_
    refine lv_iconst (v := 0) hx hb dX2_costsTo_40 (by decide) ?_
    have j_2 : (to : Int32).toNatClampNeg = to.toNatClampNeg := m_cl (in_nI hto) (in_lt hto) (by decide)
    obtain ⟨ws9, k9, hPw, hDw, hk9, -, hbk⟩ := hP.cut (e := .inl (cy 0, 12, .inl ((KR r1 κ to.toNatClampNeg (fun _ => -1)).2 to.toNatClampNeg))) (tw_mem (f := 17) (i := to.toNatClampNeg) (in_lt hto) rfl)
    refine va_iast hx hb hK hPw hDw hS k9 0 hk9 rfl (m_in (in_nI hto) (in_lt hto) (by decide)) dX2_costsTo_41 (fun H locs hPw hDw hS => ?_)
    rw [j_2] at hPw hDw
    obtain ⟨κ_1, eκ_1⟩ : ∃ y9 : Kap, y9 = ((KR r1 κ to.toNatClampNeg (fun _ => -1)).1, fun j => if j = to.toNatClampNeg then upd ((KR r1 κ to.toNatClampNeg (fun _ => -1)).2 to.toNatClampNeg) to.toNatClampNeg 0 else (KR r1 κ to.toNatClampNeg (fun _ => -1)).2 j) := ⟨_, rfl⟩
    have hP : mw (dC, dI) vwCl A (TW cy L tr a κ_1 τ) H := (hbk _ _ hPw hDw).sub (tw_set17 (κ' := κ_1) (z := upd ((KR r1 κ to.toNatClampNeg (fun _ => -1)).2 to.toNatClampNeg) to.toNatClampNeg 0) hT (in_lt hto) eκ_1)
    clear hbk hPw hDw hk9
    rw [show κ_1 = KR r1 κ to.toNatClampNeg (upd (fun _ => -1) to.toNatClampNeg 0) from KR_put eκ_1] at hP
    refine lv_iconst (v := 1) hx hb dX2_costsTo_42 (by decide) ?_
    refine lv_istore_n (lv' := [(3, .int 1), (2, .ref (L 17 to.toNatClampNeg)), (0, .ref (L 1 0)), (1, .int to)]) hx hb dX2_costsTo_43 rfl hl (by decide) rfl (fun ls hl => ?_)
    refine lv_iconst (v := 0) hx hb dX2_costsTo_44 (by decide) ?_
    refine lv_istore (lv' := [(4, .int 0), (3, .int 1), (2, .ref (L 17 to.toNatClampNeg)), (0, .ref (L 1 0)), (1, .int to)]) hx hb dX2_costsTo_45 hl (by decide) rfl (fun ls hl => ?_)
    suffices hout : ∀ (d k : Nat), k + d = 12 → ∀ (z : Nat → Int32) (bb : Int32), (if bb = 0 then z else B_out a d z) = bf a to.toNatClampNeg → ∀ ls : Array Slot, lv_has ls 9 [(4, .int (nI k)), (3, .int bb), (0, .ref (L 1 0)), (1, .int to), (2, .ref (L 17 to.toNatClampNeg))] → ∀ (H : Heap) (locs : List Loc), mw (dC, dI) vwCl A (TW cy L tr a (KR r1 κ to.toNatClampNeg z) τ) H → va_S A s.heap H locs → W p l e _ s m _ below meth c H locs (0 + 0) (0 + 0) _ (F0 m 47 ls []) from hout 12 0 (by omega) (upd (fun _ => -1) to.toNatClampNeg 0) 1 (by rw [if_neg (by decide)]; rfl) ls (lv_sub hl [0, 1, 3, 4, 2] rfl) _ _ hP hS
    clear hP hS hl ls hl9
    intro d
    induction d with
    | zero =>
      intro k hk z bb hz ls hl H locs hP hS
      refine lv_iload_n hx hb dX2_costsTo_47 rfl (lv_at hl 1 rfl) ?_
      refine lv_if_eq (tgt := 161) hx hb dX2_costsTo_48 (by decide) (fun c_2 => ?_) (fun c_2 => ?_)
      · have hz9 : z = bf a to.toNatClampNeg := by rw [if_pos c_2] at hz; exact hz
        refine lv_aload_n hx hb dX2_costsTo_161 rfl (lv_at hl 4 rfl) ?_
        refine W.widen (k := 0) (n := 0) (Nat.le_of_ble_eq_true rfl) (Nat.le_of_ble_eq_true rfl) ?_
        have g_1 : (L 17 to.toNatClampNeg) = L 17 to.toNatClampNeg := by
          rfl
        have g_2 : CV a (KR r1 κ to.toNatClampNeg z) := by
          rw [er1]
          exact CV.put (in_lt hto) hz9 hκ
        have g_3 : (KR r1 κ to.toNatClampNeg z).2 to.toNatClampNeg = bf a to.toNatClampNeg := by
          rw [KR_at]
          exact hz9
        exact W.aret (v := .ref (L 17 to.toNatClampNeg)) hx hb hr (Or.inr ⟨_, rfl⟩) (Or.inr ⟨_, rfl⟩) (fun t ht hW => ⟨⟨(), L 17 to.toNatClampNeg, rfl, trivial, ⟨(KR r1 κ to.toNatClampNeg z), g_1, g_2, g_3, by show mw _ _ _ _ t.heap; rw [ht]; exact hP⟩⟩, hS.F ht⟩) hS.2.2 dX2_costsTo_162
      · refine lv_iload hx hb dX2_costsTo_51 (lv_at hl 0 rfl) ?_
        refine lv_bipush (v := 12) hx hb dX2_costsTo_53 (by decide) ?_
        have e9 : k = 12 := by omega
        refine lv_icmp_ge (tgt := 161) hx hb dX2_costsTo_55 (by decide) (fun _ => ?_) (fun c_3 => absurd (by rw [e9]; exact Int32.le_refl _) c_3)
        have hz9 : z = bf a to.toNatClampNeg := by rw [if_neg c_2] at hz; exact hz
        refine lv_aload_n hx hb dX2_costsTo_161 rfl (lv_at hl 4 rfl) ?_
        refine W.widen (k := 0) (n := 0) (Nat.le_of_ble_eq_true rfl) (Nat.le_of_ble_eq_true rfl) ?_
        have g_4 : (L 17 to.toNatClampNeg) = L 17 to.toNatClampNeg := by
          rfl
        have g_5 : CV a (KR r1 κ to.toNatClampNeg z) := by
          rw [er1]
          exact CV.put (in_lt hto) hz9 hκ
        have g_6 : (KR r1 κ to.toNatClampNeg z).2 to.toNatClampNeg = bf a to.toNatClampNeg := by
          rw [KR_at]
          exact hz9
        exact W.aret (v := .ref (L 17 to.toNatClampNeg)) hx hb hr (Or.inr ⟨_, rfl⟩) (Or.inr ⟨_, rfl⟩) (fun t ht hW => ⟨⟨(), L 17 to.toNatClampNeg, rfl, trivial, ⟨(KR r1 κ to.toNatClampNeg z), g_4, g_5, g_6, by show mw _ _ _ _ t.heap; rw [ht]; exact hP⟩⟩, hS.F ht⟩) hS.2.2 dX2_costsTo_162
    | succ d ih =>
      intro k hk z bb hz ls hl H locs hP hS
      refine lv_iload_n hx hb dX2_costsTo_47 rfl (lv_at hl 1 rfl) ?_
      refine lv_if_eq (tgt := 161) hx hb dX2_costsTo_48 (by decide) (fun c_4 => ?_) (fun c_4 => ?_)
      · have hz9 : z = bf a to.toNatClampNeg := by rw [if_pos c_4] at hz; exact hz
        refine lv_aload_n hx hb dX2_costsTo_161 rfl (lv_at hl 4 rfl) ?_
        refine W.widen (k := 0) (n := 0) (Nat.le_of_ble_eq_true rfl) (Nat.le_of_ble_eq_true rfl) ?_
        have g_7 : (L 17 to.toNatClampNeg) = L 17 to.toNatClampNeg := by
          rfl
        have g_8 : CV a (KR r1 κ to.toNatClampNeg z) := by
          rw [er1]
          exact CV.put (in_lt hto) hz9 hκ
        have g_9 : (KR r1 κ to.toNatClampNeg z).2 to.toNatClampNeg = bf a to.toNatClampNeg := by
          rw [KR_at]
          exact hz9
        exact W.aret (v := .ref (L 17 to.toNatClampNeg)) hx hb hr (Or.inr ⟨_, rfl⟩) (Or.inr ⟨_, rfl⟩) (fun t ht hW => ⟨⟨(), L 17 to.toNatClampNeg, rfl, trivial, ⟨(KR r1 κ to.toNatClampNeg z), g_7, g_8, g_9, by show mw _ _ _ _ t.heap; rw [ht]; exact hP⟩⟩, hS.F ht⟩) hS.2.2 dX2_costsTo_162
      · refine lv_iload hx hb dX2_costsTo_51 (lv_at hl 0 rfl) ?_
        refine lv_bipush (v := 12) hx hb dX2_costsTo_53 (by decide) ?_
        refine lv_icmp_ge (tgt := 161) hx hb dX2_costsTo_55 (by decide) (fun c_5 => absurd c_5 (nI_ge (a := k) (b := 12) (by omega) (by omega))) (fun _ => ?_)
        have hz1 : B_out a (d + 1) z = bf a to.toNatClampNeg := by rw [if_neg c_4] at hz; exact hz
        refine lv_iconst (v := 0) hx hb dX2_costsTo_58 (by decide) ?_
        refine lv_istore_n (lv' := [(3, .int 0), (4, .int (nI k)), (0, .ref (L 1 0)), (1, .int to), (2, .ref (L 17 to.toNatClampNeg))]) hx hb dX2_costsTo_59 rfl hl (by decide) rfl (fun ls hl => ?_)
        refine lv_iconst (v := 0) hx hb dX2_costsTo_60 (by decide) ?_
        refine lv_istore (lv' := [(5, .int 0), (3, .int 0), (4, .int (nI k)), (0, .ref (L 1 0)), (1, .int to), (2, .ref (L 17 to.toNatClampNeg))]) hx hb dX2_costsTo_61 hl (by decide) rfl (fun ls hl => ?_)
        have hN : nL a ≤ 24 := in_le hw.1.1
        refine W.widen (k := (fun i => (0 + 0) + 0 * i) 0) (n := (fun i => (0 + 0) + 0 * i) 0) (Nat.le_refl _) (Nat.le_refl _) ?_
        refine tp_for (σ := (Nat → Int32) × Int32) (nL a) (fun i => (0 + 0) + 0 * i) (fun i => (0 + 0) + 0 * i) (fun (i : Nat) (x : (Nat → Int32) × Int32) (H : Heap) (locs : List Loc) (ls : Array Slot) => x = B_in a i (z, 0) ∧ mw (dC, dI) vwCl A (TW cy L tr a (KR r1 κ to.toNatClampNeg x.1) τ) H ∧ va_S A s.heap H locs ∧ lv_has ls 9 [(5, .int (nI i)), (3, .int x.2), (0, .ref (L 1 0)), (1, .int to), (2, .ref (L 17 to.toNatClampNeg)), (4, .int (nI k))]) ?_ ?_ (nL a) 0 (Nat.zero_add _) (z, 0) _ _ ls ⟨rfl, hP, hS, lv_sub hl [0, 1, 3, 4, 5, 2] rfl⟩
        · rintro ⟨z9, b9⟩ H locs ls ⟨hx9, hP, hS, hl⟩
          have hl : lv_has ls 9 [(5, .int (nI (nL a))), (3, .int b9), (0, .ref (L 1 0)), (1, .int to), (2, .ref (L 17 to.toNatClampNeg)), (4, .int (nI k))] := hl
          have hP : mw (dC, dI) vwCl A (TW cy L tr a (KR r1 κ to.toNatClampNeg z9) τ) H := hP
          refine lv_iload hx hb dX2_costsTo_63 (lv_at hl 0 rfl) ?_
          refine lv_aload_n hx hb dX2_costsTo_65 rfl (lv_at hl 2 rfl) ?_
          refine va_get (D := (dC, dI)) (ws := [(L 1 0, .inr (2, [.ref (L 24 0), .int ((a 1 0) 0), .ref (L 25 0), .int ((KR r1 κ to.toNatClampNeg z9).1)]))]) (ci := 2) (v := .int ((a 1 0) 0)) (C := RX2) (T := TX2) (N := 4) hx hb hts tl_X2 hown hK (hP.one (tw_mem (f := 1) (i := 0) (by decide) rfl)) 0 rfl rfl 1 (by decide) (hts _ tw_697) (fun _ h9 => h9) rfl dX2_costsTo_66 ?_
          refine W.eq (g2 := F0 m 69 ls [.int (nI (nL a)), .int (nI (nL a))]) (by rw [in_nI hw.1.1]) ?_
          refine lv_icmp_ge (tgt := 155) hx hb dX2_costsTo_69 (by decide) (fun _ => ?_) (fun c_6 => absurd (Int32.le_refl _) c_6)
          refine lv_iinc (v := nI (k + 1)) (lv' := [(4, .int (nI (k + 1))), (5, .int (nI (nL a))), (3, .int b9), (0, .ref (L 1 0)), (1, .int to), (2, .ref (L 17 to.toNatClampNeg))]) hx hb dX2_costsTo_155 hl (k := 5) rfl (nI_1 k) (by decide) rfl (fun ls hl => ?_)
          refine lv_goto (tgt := 47) hx hb dX2_costsTo_158 (by decide) ?_
          refine W.widen (k := 0 + 0) (n := 0 + 0) (by omega) (by omega) ?_
          exact ih (k + 1) (by omega) z9 b9 (by rw [← hz1]; exact (B_out_done hx9.symm).symm) ls (lv_sub hl [0, 2, 3, 4, 5] rfl) H locs hP hS
        · rintro i ⟨z9, b9⟩ H locs ls hi ⟨hx9, hP, hS, hl⟩ ih9
          have hl : lv_has ls 9 [(5, .int (nI i)), (3, .int b9), (0, .ref (L 1 0)), (1, .int to), (2, .ref (L 17 to.toNatClampNeg)), (4, .int (nI k))] := hl
          have hP : mw (dC, dI) vwCl A (TW cy L tr a (KR r1 κ to.toNatClampNeg z9) τ) H := hP
          refine lv_iload hx hb dX2_costsTo_63 (lv_at hl 0 rfl) ?_
          refine lv_aload_n hx hb dX2_costsTo_65 rfl (lv_at hl 2 rfl) ?_
          refine va_get (D := (dC, dI)) (ws := [(L 1 0, .inr (2, [.ref (L 24 0), .int ((a 1 0) 0), .ref (L 25 0), .int ((KR r1 κ to.toNatClampNeg z9).1)]))]) (ci := 2) (v := .int ((a 1 0) 0)) (C := RX2) (T := TX2) (N := 4) hx hb hts tl_X2 hown hK (hP.one (tw_mem (f := 1) (i := 0) (by decide) rfl)) 0 rfl rfl 1 (by decide) (hts _ tw_697) (fun _ h9 => h9) rfl dX2_costsTo_66 ?_
          refine W.eq (g2 := F0 m 69 ls [.int (nI (nL a)), .int (nI i)]) (by rw [in_nI hw.1.1]) ?_
          refine lv_icmp_ge (tgt := 155) hx hb dX2_costsTo_69 (by decide) (fun c_7 => absurd c_7 (nI_ge hi (by omega))) (fun _ => ?_)
          have hLi := hw.2.1 i (Nat.lt_of_lt_of_le hi hN)
          refine lv_aload_n hx hb dX2_costsTo_72 rfl (lv_at hl 2 rfl) ?_
          refine va_get (D := (dC, dI)) (ws := [(L 1 0, .inr (2, [.ref (L 24 0), .int ((a 1 0) 0), .ref (L 25 0), .int ((KR r1 κ to.toNatClampNeg z9).1)]))]) (ci := 2) (v := .ref (L 24 0)) (C := RX2) (T := TX2) (N := 4) hx hb hts tl_X2 hown hK (hP.one (tw_mem (f := 1) (i := 0) (by decide) rfl)) 0 rfl rfl 0 (by decide) (hts _ tw_695) (fun _ h9 => h9) rfl dX2_costsTo_73 ?_
          refine lv_iload hx hb dX2_costsTo_76 (lv_at hl 0 rfl) ?_
          have j_3 : (nI i : Int32).toNatClampNeg = i := m_cl rfl (Nat.lt_of_lt_of_le hi hN) (by decide)
          refine va_aldq hx hb hK (ws := [(L 24 0, .inl (cy 3, 24, .inr (.inr (.inr (.inr (fun j => some (L 2 j)))))))]) (hP.one (tw_mem (f := 24) (i := 0) (by decide) rfl)) 0 3 rfl rfl (m_in rfl (Nat.lt_of_lt_of_le hi hN) (by decide)) dX2_costsTo_78 ?_
          refine W.eq (g2 := F0 m 79 ls [.ref (L 2 i)]) (by first | (rw [j_3]; done) | (rw [j_3]; rfl)) ?_
          refine lv_astore (lv' := [(6, .ref (L 2 i)), (5, .int (nI i)), (3, .int b9), (0, .ref (L 1 0)), (1, .int to), (2, .ref (L 17 to.toNatClampNeg)), (4, .int (nI k))]) hx hb dX2_costsTo_79 hl (by decide) rfl (fun ls hl => ?_)
          refine lv_aload_n hx hb dX2_costsTo_81 rfl (lv_at hl 5 rfl) ?_
          refine lv_aload hx hb dX2_costsTo_82 (lv_at hl 0 rfl) ?_
          refine va_getN (D := (dC, dI)) (ws := [(L 2 i, .inr (1, [.int ((a 2 i) 0), .int ((a 2 i) 1), .int ((a 2 i) 2), .int ((a 2 i) 3), .int ((a 2 i) 4), .int ((a 2 i) 5), .int ((a 2 i) 6), .int ((a 2 i) 7), .int ((a 2 i) 8), .ref (L 3 i), .ref (L 5 i), .int ((a 2 i) 9), .int ((a 2 i) 10), .int ((a 2 i) 11), .int ((a 2 i) 12), .ref (L 7 i)]))]) (ci := 1) (v := .int ((a 2 i) 1)) (C := RX1) (T := TX1) (N := 16) hx hb hts tl_X1 hown hK (hP.one (tw_mem (f := 2) (i := i) (Nat.lt_of_lt_of_le hi hN) rfl)) 0 rfl rfl 1 (by decide) (va_Nw.use rfl (te_f3 hE)) (fun _ h9 => h9) rfl dX2_costsTo_84 ?_
          have j_4 : ((a 2 i) 1 : Int32).toNatClampNeg = (a 2 i 1).toNatClampNeg := m_cl (in_nI hLi.2.1) (in_lt hLi.2.1) (by decide)
          refine va_iald hx hb hK (ws := [(L 17 to.toNatClampNeg, .inl (cy 0, 12, .inl ((KR r1 κ to.toNatClampNeg z9).2 to.toNatClampNeg)))]) (hP.one (tw_mem (f := 17) (i := to.toNatClampNeg) (in_lt hto) rfl)) 0 0 rfl rfl (m_in (in_nI hLi.2.1) (in_lt hLi.2.1) (by decide)) dX2_costsTo_87 ?_
          refine W.eq (g2 := F0 m 88 ls [.int (((KR r1 κ to.toNatClampNeg z9).2 to.toNatClampNeg) ((a 2 i 1).toNatClampNeg))]) (by first | (rw [j_4]; done) | (rw [j_4]; rfl)) ?_
          refine W.eq (g2 := F0 m 88 ls [.int (z9 ((a 2 i 1).toNatClampNeg))]) (by rw [KR_at]) ?_
          refine lv_istore (lv' := [(7, .int (z9 ((a 2 i 1).toNatClampNeg))), (6, .ref (L 2 i)), (5, .int (nI i)), (3, .int b9), (0, .ref (L 1 0)), (1, .int to), (2, .ref (L 17 to.toNatClampNeg)), (4, .int (nI k))]) hx hb dX2_costsTo_88 hl (by decide) rfl (fun ls hl => ?_)
          refine lv_aload_n hx hb dX2_costsTo_90 rfl (lv_at hl 6 rfl) ?_
          refine lv_aload hx hb dX2_costsTo_91 (lv_at hl 1 rfl) ?_
          refine va_getN (D := (dC, dI)) (ws := [(L 2 i, .inr (1, [.int ((a 2 i) 0), .int ((a 2 i) 1), .int ((a 2 i) 2), .int ((a 2 i) 3), .int ((a 2 i) 4), .int ((a 2 i) 5), .int ((a 2 i) 6), .int ((a 2 i) 7), .int ((a 2 i) 8), .ref (L 3 i), .ref (L 5 i), .int ((a 2 i) 9), .int ((a 2 i) 10), .int ((a 2 i) 11), .int ((a 2 i) 12), .ref (L 7 i)]))]) (ci := 1) (v := .int ((a 2 i) 0)) (C := RX1) (T := TX1) (N := 16) hx hb hts tl_X1 hown hK (hP.one (tw_mem (f := 2) (i := i) (Nat.lt_of_lt_of_le hi hN) rfl)) 0 rfl rfl 0 (by decide) (va_Nw.use rfl (te_f2 hE)) (fun _ h9 => h9) rfl dX2_costsTo_93 ?_
          have j_5 : ((a 2 i) 0 : Int32).toNatClampNeg = (a 2 i 0).toNatClampNeg := m_cl (in_nI hLi.1) (in_lt hLi.1) (by decide)
          refine va_iald hx hb hK (ws := [(L 17 to.toNatClampNeg, .inl (cy 0, 12, .inl ((KR r1 κ to.toNatClampNeg z9).2 to.toNatClampNeg)))]) (hP.one (tw_mem (f := 17) (i := to.toNatClampNeg) (in_lt hto) rfl)) 0 0 rfl rfl (m_in (in_nI hLi.1) (in_lt hLi.1) (by decide)) dX2_costsTo_96 ?_
          refine W.eq (g2 := F0 m 97 ls [.int (((KR r1 κ to.toNatClampNeg z9).2 to.toNatClampNeg) ((a 2 i 0).toNatClampNeg))]) (by first | (rw [j_5]; done) | (rw [j_5]; rfl)) ?_
          refine W.eq (g2 := F0 m 97 ls [.int (z9 ((a 2 i 0).toNatClampNeg))]) (by rw [KR_at]) ?_
          refine lv_istore (lv' := [(8, .int (z9 ((a 2 i 0).toNatClampNeg))), (7, .int (z9 ((a 2 i 1).toNatClampNeg))), (6, .ref (L 2 i)), (5, .int (nI i)), (3, .int b9), (0, .ref (L 1 0)), (1, .int to), (2, .ref (L 17 to.toNatClampNeg)), (4, .int (nI k))]) hx hb dX2_costsTo_97 hl (by decide) rfl (fun ls hl => ?_)
          refine lv_aload hx hb dX2_costsTo_99 (lv_at hl 2 rfl) ?_
          refine va_getN (D := (dC, dI)) (ws := [(L 2 i, .inr (1, [.int ((a 2 i) 0), .int ((a 2 i) 1), .int ((a 2 i) 2), .int ((a 2 i) 3), .int ((a 2 i) 4), .int ((a 2 i) 5), .int ((a 2 i) 6), .int ((a 2 i) 7), .int ((a 2 i) 8), .ref (L 3 i), .ref (L 5 i), .int ((a 2 i) 9), .int ((a 2 i) 10), .int ((a 2 i) 11), .int ((a 2 i) 12), .ref (L 7 i)]))]) (ci := 1) (v := .int ((a 2 i) 7)) (C := RX1) (T := TX1) (N := 16) hx hb hts tl_X1 hown hK (hP.one (tw_mem (f := 2) (i := i) (Nat.lt_of_lt_of_le hi hN) rfl)) 0 rfl rfl 7 (by decide) (va_Nw.use rfl (te_f14 hE)) (fun _ h9 => h9) rfl dX2_costsTo_101 ?_
          refine lv_if_ne (tgt := 149) hx hb dX2_costsTo_104 (by decide) (fun c_8 => ?_) (fun c_8 => ?_)
          · refine lv_iinc (v := nI (i + 1)) (lv' := [(5, .int (nI (i + 1))), (8, .int (z9 ((a 2 i 0).toNatClampNeg))), (7, .int (z9 ((a 2 i 1).toNatClampNeg))), (6, .ref (L 2 i)), (3, .int b9), (0, .ref (L 1 0)), (1, .int to), (2, .ref (L 17 to.toNatClampNeg)), (4, .int (nI k))]) hx hb dX2_costsTo_149 hl (k := 3) rfl (nI_1 i) (by decide) rfl (fun ls hl => ?_)
            refine lv_goto (tgt := 63) hx hb dX2_costsTo_152 (by decide) ?_
            exact ih9 (z9, b9) _ _ ls ⟨(by show _ = B_one a i (B_in a i (z, 0)); rw [← hx9]; unfold B_one; simp only [if_neg c_8]), hP, hS, lv_sub hl [0, 4, 5, 6, 7, 8] rfl⟩
          · refine lv_iload hx hb dX2_costsTo_107 (lv_at hl 1 rfl) ?_
            refine lv_iconst (v := -1) hx hb dX2_costsTo_109 (by decide) ?_
            refine lv_icmp_eq (tgt := 149) hx hb dX2_costsTo_110 (by decide) (fun c_9 => ?_) (fun c_9 => ?_)
            · refine lv_iinc (v := nI (i + 1)) (lv' := [(5, .int (nI (i + 1))), (8, .int (z9 ((a 2 i 0).toNatClampNeg))), (7, .int (z9 ((a 2 i 1).toNatClampNeg))), (6, .ref (L 2 i)), (3, .int b9), (0, .ref (L 1 0)), (1, .int to), (2, .ref (L 17 to.toNatClampNeg)), (4, .int (nI k))]) hx hb dX2_costsTo_149 hl (k := 3) rfl (nI_1 i) (by decide) rfl (fun ls hl => ?_)
              refine lv_goto (tgt := 63) hx hb dX2_costsTo_152 (by decide) ?_
              exact ih9 (z9, b9) _ _ ls ⟨(by show _ = B_one a i (B_in a i (z, 0)); rw [← hx9]; unfold B_one; simp only [if_pos c_8, if_pos c_9]), hP, hS, lv_sub hl [0, 4, 5, 6, 7, 8] rfl⟩
            · refine lv_iload hx hb dX2_costsTo_113 (lv_at hl 0 rfl) ?_
              refine lv_iconst (v := -1) hx hb dX2_costsTo_115 (by decide) ?_
              refine lv_icmp_eq (tgt := 132) hx hb dX2_costsTo_116 (by decide) (fun c_10 => ?_) (fun c_10 => ?_)
              · refine lv_aload_n hx hb dX2_costsTo_132 rfl (lv_at hl 7 rfl) ?_
                refine lv_aload hx hb dX2_costsTo_133 (lv_at hl 2 rfl) ?_
                refine va_getN (D := (dC, dI)) (ws := [(L 2 i, .inr (1, [.int ((a 2 i) 0), .int ((a 2 i) 1), .int ((a 2 i) 2), .int ((a 2 i) 3), .int ((a 2 i) 4), .int ((a 2 i) 5), .int ((a 2 i) 6), .int ((a 2 i) 7), .int ((a 2 i) 8), .ref (L 3 i), .ref (L 5 i), .int ((a 2 i) 9), .int ((a 2 i) 10), .int ((a 2 i) 11), .int ((a 2 i) 12), .ref (L 7 i)]))]) (ci := 1) (v := .int ((a 2 i) 0)) (C := RX1) (T := TX1) (N := 16) hx hb hts tl_X1 hown hK (hP.one (tw_mem (f := 2) (i := i) (Nat.lt_of_lt_of_le hi hN) rfl)) 0 rfl rfl 0 (by decide) (va_Nw.use rfl (te_f2 hE)) (fun _ h9 => h9) rfl dX2_costsTo_135 ?_
                refine lv_aload hx hb dX2_costsTo_138 (lv_at hl 2 rfl) ?_
                refine va_getN (D := (dC, dI)) (ws := [(L 2 i, .inr (1, [.int ((a 2 i) 0), .int ((a 2 i) 1), .int ((a 2 i) 2), .int ((a 2 i) 3), .int ((a 2 i) 4), .int ((a 2 i) 5), .int ((a 2 i) 6), .int ((a 2 i) 7), .int ((a 2 i) 8), .ref (L 3 i), .ref (L 5 i), .int ((a 2 i) 9), .int ((a 2 i) 10), .int ((a 2 i) 11), .int ((a 2 i) 12), .ref (L 7 i)]))]) (ci := 1) (v := .int ((a 2 i) 8)) (C := RX1) (T := TX1) (N := 16) hx hb hts tl_X1 hown hK (hP.one (tw_mem (f := 2) (i := i) (Nat.lt_of_lt_of_le hi hN) rfl)) 0 rfl rfl 8 (by decide) (va_Nw.use rfl (te_f15 hE)) (fun _ h9 => h9) rfl dX2_costsTo_140 ?_
                refine lv_iload hx hb dX2_costsTo_143 (lv_at hl 1 rfl) ?_
                refine lv_iadd hx hb dX2_costsTo_145 ?_
                have j_6 : ((a 2 i) 0 : Int32).toNatClampNeg = (a 2 i 0).toNatClampNeg := m_cl (in_nI hLi.1) (in_lt hLi.1) (by decide)
                obtain ⟨ws9, k9, hPw, hDw, hk9, -, hbk⟩ := hP.cut (e := .inl (cy 0, 12, .inl ((KR r1 κ to.toNatClampNeg z9).2 to.toNatClampNeg))) (tw_mem (f := 17) (i := to.toNatClampNeg) (in_lt hto) rfl)
                refine va_iast hx hb hK hPw hDw hS k9 0 hk9 rfl (m_in (in_nI hLi.1) (in_lt hLi.1) (by decide)) dX2_costsTo_146 (fun H locs hPw hDw hS => ?_)
                rw [j_6] at hPw hDw
                obtain ⟨κ_2, eκ_2⟩ : ∃ y9 : Kap, y9 = ((KR r1 κ to.toNatClampNeg z9).1, fun j => if j = to.toNatClampNeg then upd ((KR r1 κ to.toNatClampNeg z9).2 to.toNatClampNeg) ((a 2 i 0).toNatClampNeg) (((a 2 i) 8) + (z9 ((a 2 i 1).toNatClampNeg))) else (KR r1 κ to.toNatClampNeg z9).2 j) := ⟨_, rfl⟩
                have hP : mw (dC, dI) vwCl A (TW cy L tr a κ_2 τ) H := (hbk _ _ hPw hDw).sub (tw_set17 (κ' := κ_2) (z := upd ((KR r1 κ to.toNatClampNeg z9).2 to.toNatClampNeg) ((a 2 i 0).toNatClampNeg) (((a 2 i) 8) + (z9 ((a 2 i 1).toNatClampNeg)))) hT (in_lt hto) eκ_2)
                clear hbk hPw hDw hk9
                rw [show κ_2 = KR r1 κ to.toNatClampNeg (upd z9 (a 2 i 0).toNatClampNeg (a 2 i 8 + z9 (a 2 i 1).toNatClampNeg)) from KR_put eκ_2] at hP
                refine lv_iconst (v := 1) hx hb dX2_costsTo_147 (by decide) ?_
                refine lv_istore_n (lv' := [(3, .int 1), (8, .int (z9 ((a 2 i 0).toNatClampNeg))), (7, .int (z9 ((a 2 i 1).toNatClampNeg))), (6, .ref (L 2 i)), (5, .int (nI i)), (0, .ref (L 1 0)), (1, .int to), (2, .ref (L 17 to.toNatClampNeg)), (4, .int (nI k))]) hx hb dX2_costsTo_148 rfl hl (by decide) rfl (fun ls hl => ?_)
                refine lv_iinc (v := nI (i + 1)) (lv' := [(5, .int (nI (i + 1))), (3, .int 1), (8, .int (z9 ((a 2 i 0).toNatClampNeg))), (7, .int (z9 ((a 2 i 1).toNatClampNeg))), (6, .ref (L 2 i)), (0, .ref (L 1 0)), (1, .int to), (2, .ref (L 17 to.toNatClampNeg)), (4, .int (nI k))]) hx hb dX2_costsTo_149 hl (k := 4) rfl (nI_1 i) (by decide) rfl (fun ls hl => ?_)
                refine lv_goto (tgt := 63) hx hb dX2_costsTo_152 (by decide) ?_
                exact ih9 (upd z9 (a 2 i 0).toNatClampNeg (a 2 i 8 + z9 (a 2 i 1).toNatClampNeg), 1) _ _ ls ⟨(by show _ = B_one a i (B_in a i (z, 0)); rw [← hx9]; unfold B_one; simp only [if_pos c_8, if_neg c_9, if_pos c_10]), hP, hS, lv_sub hl [0, 1, 5, 6, 7, 8] rfl⟩
              · refine lv_aload hx hb dX2_costsTo_119 (lv_at hl 2 rfl) ?_
                refine va_getN (D := (dC, dI)) (ws := [(L 2 i, .inr (1, [.int ((a 2 i) 0), .int ((a 2 i) 1), .int ((a 2 i) 2), .int ((a 2 i) 3), .int ((a 2 i) 4), .int ((a 2 i) 5), .int ((a 2 i) 6), .int ((a 2 i) 7), .int ((a 2 i) 8), .ref (L 3 i), .ref (L 5 i), .int ((a 2 i) 9), .int ((a 2 i) 10), .int ((a 2 i) 11), .int ((a 2 i) 12), .ref (L 7 i)]))]) (ci := 1) (v := .int ((a 2 i) 8)) (C := RX1) (T := TX1) (N := 16) hx hb hts tl_X1 hown hK (hP.one (tw_mem (f := 2) (i := i) (Nat.lt_of_lt_of_le hi hN) rfl)) 0 rfl rfl 8 (by decide) (va_Nw.use rfl (te_f15 hE)) (fun _ h9 => h9) rfl dX2_costsTo_121 ?_
                refine lv_iload hx hb dX2_costsTo_124 (lv_at hl 1 rfl) ?_
                refine lv_iadd hx hb dX2_costsTo_126 ?_
                refine lv_iload hx hb dX2_costsTo_127 (lv_at hl 0 rfl) ?_
                refine lv_icmp_ge (tgt := 149) hx hb dX2_costsTo_129 (by decide) (fun c_11 => ?_) (fun c_11 => ?_)
                · refine lv_iinc (v := nI (i + 1)) (lv' := [(5, .int (nI (i + 1))), (8, .int (z9 ((a 2 i 0).toNatClampNeg))), (7, .int (z9 ((a 2 i 1).toNatClampNeg))), (6, .ref (L 2 i)), (3, .int b9), (0, .ref (L 1 0)), (1, .int to), (2, .ref (L 17 to.toNatClampNeg)), (4, .int (nI k))]) hx hb dX2_costsTo_149 hl (k := 3) rfl (nI_1 i) (by decide) rfl (fun ls hl => ?_)
                  refine lv_goto (tgt := 63) hx hb dX2_costsTo_152 (by decide) ?_
                  exact ih9 (z9, b9) _ _ ls ⟨(by show _ = B_one a i (B_in a i (z, 0)); rw [← hx9]; unfold B_one; simp only [if_pos c_8, if_neg c_9, if_neg c_10, if_pos c_11]), hP, hS, lv_sub hl [0, 4, 5, 6, 7, 8] rfl⟩
                · refine lv_aload_n hx hb dX2_costsTo_132 rfl (lv_at hl 7 rfl) ?_
                  refine lv_aload hx hb dX2_costsTo_133 (lv_at hl 2 rfl) ?_
                  refine va_getN (D := (dC, dI)) (ws := [(L 2 i, .inr (1, [.int ((a 2 i) 0), .int ((a 2 i) 1), .int ((a 2 i) 2), .int ((a 2 i) 3), .int ((a 2 i) 4), .int ((a 2 i) 5), .int ((a 2 i) 6), .int ((a 2 i) 7), .int ((a 2 i) 8), .ref (L 3 i), .ref (L 5 i), .int ((a 2 i) 9), .int ((a 2 i) 10), .int ((a 2 i) 11), .int ((a 2 i) 12), .ref (L 7 i)]))]) (ci := 1) (v := .int ((a 2 i) 0)) (C := RX1) (T := TX1) (N := 16) hx hb hts tl_X1 hown hK (hP.one (tw_mem (f := 2) (i := i) (Nat.lt_of_lt_of_le hi hN) rfl)) 0 rfl rfl 0 (by decide) (va_Nw.use rfl (te_f2 hE)) (fun _ h9 => h9) rfl dX2_costsTo_135 ?_
                  refine lv_aload hx hb dX2_costsTo_138 (lv_at hl 2 rfl) ?_
                  refine va_getN (D := (dC, dI)) (ws := [(L 2 i, .inr (1, [.int ((a 2 i) 0), .int ((a 2 i) 1), .int ((a 2 i) 2), .int ((a 2 i) 3), .int ((a 2 i) 4), .int ((a 2 i) 5), .int ((a 2 i) 6), .int ((a 2 i) 7), .int ((a 2 i) 8), .ref (L 3 i), .ref (L 5 i), .int ((a 2 i) 9), .int ((a 2 i) 10), .int ((a 2 i) 11), .int ((a 2 i) 12), .ref (L 7 i)]))]) (ci := 1) (v := .int ((a 2 i) 8)) (C := RX1) (T := TX1) (N := 16) hx hb hts tl_X1 hown hK (hP.one (tw_mem (f := 2) (i := i) (Nat.lt_of_lt_of_le hi hN) rfl)) 0 rfl rfl 8 (by decide) (va_Nw.use rfl (te_f15 hE)) (fun _ h9 => h9) rfl dX2_costsTo_140 ?_
                  refine lv_iload hx hb dX2_costsTo_143 (lv_at hl 1 rfl) ?_
                  refine lv_iadd hx hb dX2_costsTo_145 ?_
                  have j_7 : ((a 2 i) 0 : Int32).toNatClampNeg = (a 2 i 0).toNatClampNeg := m_cl (in_nI hLi.1) (in_lt hLi.1) (by decide)
                  obtain ⟨ws9, k9, hPw, hDw, hk9, -, hbk⟩ := hP.cut (e := .inl (cy 0, 12, .inl ((KR r1 κ to.toNatClampNeg z9).2 to.toNatClampNeg))) (tw_mem (f := 17) (i := to.toNatClampNeg) (in_lt hto) rfl)
                  refine va_iast hx hb hK hPw hDw hS k9 0 hk9 rfl (m_in (in_nI hLi.1) (in_lt hLi.1) (by decide)) dX2_costsTo_146 (fun H locs hPw hDw hS => ?_)
                  rw [j_7] at hPw hDw
                  obtain ⟨κ_3, eκ_3⟩ : ∃ y9 : Kap, y9 = ((KR r1 κ to.toNatClampNeg z9).1, fun j => if j = to.toNatClampNeg then upd ((KR r1 κ to.toNatClampNeg z9).2 to.toNatClampNeg) ((a 2 i 0).toNatClampNeg) (((a 2 i) 8) + (z9 ((a 2 i 1).toNatClampNeg))) else (KR r1 κ to.toNatClampNeg z9).2 j) := ⟨_, rfl⟩
                  have hP : mw (dC, dI) vwCl A (TW cy L tr a κ_3 τ) H := (hbk _ _ hPw hDw).sub (tw_set17 (κ' := κ_3) (z := upd ((KR r1 κ to.toNatClampNeg z9).2 to.toNatClampNeg) ((a 2 i 0).toNatClampNeg) (((a 2 i) 8) + (z9 ((a 2 i 1).toNatClampNeg)))) hT (in_lt hto) eκ_3)
                  clear hbk hPw hDw hk9
                  rw [show κ_3 = KR r1 κ to.toNatClampNeg (upd z9 (a 2 i 0).toNatClampNeg (a 2 i 8 + z9 (a 2 i 1).toNatClampNeg)) from KR_put eκ_3] at hP
                  refine lv_iconst (v := 1) hx hb dX2_costsTo_147 (by decide) ?_
                  refine lv_istore_n (lv' := [(3, .int 1), (8, .int (z9 ((a 2 i 0).toNatClampNeg))), (7, .int (z9 ((a 2 i 1).toNatClampNeg))), (6, .ref (L 2 i)), (5, .int (nI i)), (0, .ref (L 1 0)), (1, .int to), (2, .ref (L 17 to.toNatClampNeg)), (4, .int (nI k))]) hx hb dX2_costsTo_148 rfl hl (by decide) rfl (fun ls hl => ?_)
                  refine lv_iinc (v := nI (i + 1)) (lv' := [(5, .int (nI (i + 1))), (3, .int 1), (8, .int (z9 ((a 2 i 0).toNatClampNeg))), (7, .int (z9 ((a 2 i 1).toNatClampNeg))), (6, .ref (L 2 i)), (0, .ref (L 1 0)), (1, .int to), (2, .ref (L 17 to.toNatClampNeg)), (4, .int (nI k))]) hx hb dX2_costsTo_149 hl (k := 4) rfl (nI_1 i) (by decide) rfl (fun ls hl => ?_)
                  refine lv_goto (tgt := 63) hx hb dX2_costsTo_152 (by decide) ?_
                  exact ih9 (upd z9 (a 2 i 0).toNatClampNeg (a 2 i 8 + z9 (a 2 i 1).toNatClampNeg), 1) _ _ ls ⟨(by show _ = B_one a i (B_in a i (z, 0)); rw [← hx9]; unfold B_one; simp only [if_pos c_8, if_neg c_9, if_neg c_10, if_neg c_11]), hP, hS, lv_sub hl [0, 1, 5, 6, 7, 8] rfl⟩
  · refine lv_aload_n hx hb dX2_costsTo_19 rfl (lv_at hl 0 rfl) ?_
    refine W.widen (k := 0) (n := 0) (Nat.le_of_ble_eq_true rfl) (Nat.le_of_ble_eq_true rfl) ?_
    have g_10 : (L 17 to.toNatClampNeg) = L 17 to.toNatClampNeg := by
      rfl
    have g_11 : CV a κ := by
      exact hκ
    have g_12 : κ.2 to.toNatClampNeg = bf a to.toNatClampNeg := by
      exact hκ _ (in_lt hto) (show bitA κ.1 (nI to.toNatClampNeg) from by rw [← in_nI hto]; exact c_1)
    exact W.aret (v := .ref (L 17 to.toNatClampNeg)) hx hb hr (Or.inr ⟨_, rfl⟩) (Or.inr ⟨_, rfl⟩) (fun t ht hW => ⟨⟨(), L 17 to.toNatClampNeg, rfl, trivial, ⟨κ, g_10, g_11, g_12, by show mw _ _ _ _ t.heap; rw [ht]; exact hP⟩⟩, hS.F ht⟩) hS.2.2 dX2_costsTo_20

theorem tw_219 : Cond.code yX2_costsTo cX2_costsTo 9 (some (.array .int)) ∈ tp_all := tp_mem 219 (by decide +kernel) rfl
theorem tw_216 : Cond.methodLink RX2 79 yX2_costsTo ∈ tp_all := tp_mem 216 (by decide +kernel) rfl
theorem tw_217 : Cond.instanceMethod yX2_costsTo ∈ tp_all := tp_mem 217 (by decide +kernel) rfl
theorem tw_218 : Cond.selects RX2 yX2_costsTo yX2_costsTo ∈ tp_all := tp_mem 218 (by decide +kernel) rfl
theorem tw_215 : Cond.code yX2_firstOfWay cX2_firstOfWay 7 (some .int) ∈ tp_all := tp_mem 215 (by decide +kernel) rfl
theorem tw_212 : Cond.methodLink RX2 86 yX2_firstOfWay ∈ tp_all := tp_mem 212 (by decide +kernel) rfl
theorem tw_213 : Cond.instanceMethod yX2_firstOfWay ∈ tp_all := tp_mem 213 (by decide +kernel) rfl
theorem tw_214 : Cond.selects RX2 yX2_firstOfWay yX2_firstOfWay ∈ tp_all := tp_mem 214 (by decide +kernel) rfl
theorem tw_130 : Cond.code yX2_find cX2_find 2 (some (.object "Turnpike$Link")) ∈ tp_all := tp_mem 130 (by decide +kernel) rfl
theorem tw_223 : Cond.methodLink RX2 90 yX2_find ∈ tp_all := tp_mem 223 (by decide +kernel) rfl
theorem tw_128 : Cond.instanceMethod yX2_find ∈ tp_all := tp_mem 128 (by decide +kernel) rfl
theorem tw_129 : Cond.selects RX2 yX2_find yX2_find ∈ tp_all := tp_mem 129 (by decide +kernel) rfl
theorem tw_227 : Cond.code yX7_planOver cX7_planOver 2 none ∈ tp_all := tp_mem 227 (by decide +kernel) rfl
theorem tw_224 : Cond.methodLink RX2 94 yX7_planOver ∈ tp_all := tp_mem 224 (by decide +kernel) rfl
theorem tw_225 : Cond.instanceMethod yX7_planOver ∈ tp_all := tp_mem 225 (by decide +kernel) rfl
theorem tw_226 : Cond.selects RX7 yX7_planOver yX7_planOver ∈ tp_all := tp_mem 226 (by decide +kernel) rfl
theorem tw_29 : Cond.initialized RX7 ∈ tp_all := tp_mem 29 (by decide +kernel) rfl
theorem te_f47 {U : State} (h : tp_E U) : va_Nw (.fieldLinkNest "Turnpike$Roads" 83 "Turnpike$Vehicle" "to" "I" "Turnpike") U := h.1 _ (List.mem_of_getElem? (i := 47) rfl)
theorem dX2_firstOfWay_0 : decode cX2_firstOfWay 0 = .ok (.aload_n 0, 1) := by decide +kernel
theorem dX2_firstOfWay_1 : decode cX2_firstOfWay 1 = .ok (.iload_n 2, 1) := by decide +kernel
theorem dX2_firstOfWay_2 : decode cX2_firstOfWay 2 = .ok (.invokevirtual 79, 3) := by decide +kernel
theorem dX2_firstOfWay_5 : decode cX2_firstOfWay 5 = .ok (.astore_n 3, 1) := by decide +kernel
theorem dX2_firstOfWay_6 : decode cX2_firstOfWay 6 = .ok (.iload_n 1, 1) := by decide +kernel
theorem dX2_firstOfWay_7 : decode cX2_firstOfWay 7 = .ok (.iload_n 2, 1) := by decide +kernel
theorem dX2_firstOfWay_8 : decode cX2_firstOfWay 8 = .ok (.if_icmp .eq 10, 3) := by decide +kernel
theorem dX2_firstOfWay_18 : decode cX2_firstOfWay 18 = .ok (.iconst (-1), 1) := by decide +kernel
theorem dX2_firstOfWay_19 : decode cX2_firstOfWay 19 = .ok (.ireturn, 1) := by decide +kernel
theorem dX2_firstOfWay_11 : decode cX2_firstOfWay 11 = .ok (.aload_n 3, 1) := by decide +kernel
theorem dX2_firstOfWay_12 : decode cX2_firstOfWay 12 = .ok (.iload_n 1, 1) := by decide +kernel
theorem dX2_firstOfWay_13 : decode cX2_firstOfWay 13 = .ok (.iaload, 1) := by decide +kernel
theorem dX2_firstOfWay_14 : decode cX2_firstOfWay 14 = .ok (.iconst (-1), 1) := by decide +kernel
theorem dX2_firstOfWay_15 : decode cX2_firstOfWay 15 = .ok (.if_icmp .ne 5, 3) := by decide +kernel
theorem dX2_firstOfWay_20 : decode cX2_firstOfWay 20 = .ok (.iconst 0, 1) := by decide +kernel
theorem dX2_firstOfWay_21 : decode cX2_firstOfWay 21 = .ok (.istore 4, 2) := by decide +kernel
theorem dX2_firstOfWay_23 : decode cX2_firstOfWay 23 = .ok (.iload 4, 2) := by decide +kernel
theorem dX2_firstOfWay_25 : decode cX2_firstOfWay 25 = .ok (.aload_n 0, 1) := by decide +kernel
theorem dX2_firstOfWay_26 : decode cX2_firstOfWay 26 = .ok (.getfield 23, 3) := by decide +kernel
theorem dX2_firstOfWay_29 : decode cX2_firstOfWay 29 = .ok (.if_icmp .ge 67, 3) := by decide +kernel
theorem dX2_firstOfWay_96 : decode cX2_firstOfWay 96 = .ok (.iconst (-1), 1) := by decide +kernel
theorem dX2_firstOfWay_97 : decode cX2_firstOfWay 97 = .ok (.ireturn, 1) := by decide +kernel
theorem dX2_firstOfWay_32 : decode cX2_firstOfWay 32 = .ok (.aload_n 0, 1) := by decide +kernel
theorem dX2_firstOfWay_33 : decode cX2_firstOfWay 33 = .ok (.getfield 11, 3) := by decide +kernel
theorem dX2_firstOfWay_36 : decode cX2_firstOfWay 36 = .ok (.iload 4, 2) := by decide +kernel
theorem dX2_firstOfWay_38 : decode cX2_firstOfWay 38 = .ok (.aaload, 1) := by decide +kernel
theorem dX2_firstOfWay_39 : decode cX2_firstOfWay 39 = .ok (.astore 5, 2) := by decide +kernel
theorem dX2_firstOfWay_41 : decode cX2_firstOfWay 41 = .ok (.aload_n 3, 1) := by decide +kernel
theorem dX2_firstOfWay_42 : decode cX2_firstOfWay 42 = .ok (.aload 5, 2) := by decide +kernel
theorem dX2_firstOfWay_44 : decode cX2_firstOfWay 44 = .ok (.getfield 30, 3) := by decide +kernel
theorem dX2_firstOfWay_47 : decode cX2_firstOfWay 47 = .ok (.iaload, 1) := by decide +kernel
theorem dX2_firstOfWay_48 : decode cX2_firstOfWay 48 = .ok (.istore 6, 2) := by decide +kernel
theorem dX2_firstOfWay_50 : decode cX2_firstOfWay 50 = .ok (.aload 5, 2) := by decide +kernel
theorem dX2_firstOfWay_52 : decode cX2_firstOfWay 52 = .ok (.getfield 27, 3) := by decide +kernel
theorem dX2_firstOfWay_55 : decode cX2_firstOfWay 55 = .ok (.iload_n 1, 1) := by decide +kernel
theorem dX2_firstOfWay_56 : decode cX2_firstOfWay 56 = .ok (.if_icmp .ne 34, 3) := by decide +kernel
theorem dX2_firstOfWay_90 : decode cX2_firstOfWay 90 = .ok (.iinc 4 1, 3) := by decide +kernel
theorem dX2_firstOfWay_93 : decode cX2_firstOfWay 93 = .ok (.goto (-70), 3) := by decide +kernel
theorem dX2_firstOfWay_59 : decode cX2_firstOfWay 59 = .ok (.aload 5, 2) := by decide +kernel
theorem dX2_firstOfWay_61 : decode cX2_firstOfWay 61 = .ok (.getfield 75, 3) := by decide +kernel
theorem dX2_firstOfWay_64 : decode cX2_firstOfWay 64 = .ok (.ifCond .ne 26, 3) := by decide +kernel
theorem dX2_firstOfWay_67 : decode cX2_firstOfWay 67 = .ok (.iload 6, 2) := by decide +kernel
theorem dX2_firstOfWay_69 : decode cX2_firstOfWay 69 = .ok (.iconst (-1), 1) := by decide +kernel
theorem dX2_firstOfWay_70 : decode cX2_firstOfWay 70 = .ok (.if_icmp .eq 20, 3) := by decide +kernel
theorem dX2_firstOfWay_73 : decode cX2_firstOfWay 73 = .ok (.aload 5, 2) := by decide +kernel
theorem dX2_firstOfWay_75 : decode cX2_firstOfWay 75 = .ok (.getfield 45, 3) := by decide +kernel
theorem dX2_firstOfWay_78 : decode cX2_firstOfWay 78 = .ok (.iload 6, 2) := by decide +kernel
theorem dX2_firstOfWay_80 : decode cX2_firstOfWay 80 = .ok (.iadd, 1) := by decide +kernel
theorem dX2_firstOfWay_81 : decode cX2_firstOfWay 81 = .ok (.aload_n 3, 1) := by decide +kernel
theorem dX2_firstOfWay_82 : decode cX2_firstOfWay 82 = .ok (.iload_n 1, 1) := by decide +kernel
theorem dX2_firstOfWay_83 : decode cX2_firstOfWay 83 = .ok (.iaload, 1) := by decide +kernel
theorem dX2_firstOfWay_84 : decode cX2_firstOfWay 84 = .ok (.if_icmp .ne 6, 3) := by decide +kernel
theorem dX2_firstOfWay_87 : decode cX2_firstOfWay 87 = .ok (.iload 4, 2) := by decide +kernel
theorem dX2_firstOfWay_89 : decode cX2_firstOfWay 89 = .ok (.ireturn, 1) := by decide +kernel
theorem dX2_planWay_0 : decode cX2_planWay 0 = .ok (.iload_n 2, 1) := by decide +kernel
theorem dX2_planWay_1 : decode cX2_planWay 1 = .ok (.istore_n 3, 1) := by decide +kernel
theorem dX2_planWay_2 : decode cX2_planWay 2 = .ok (.iconst 0, 1) := by decide +kernel
theorem dX2_planWay_3 : decode cX2_planWay 3 = .ok (.istore 4, 2) := by decide +kernel
theorem dX2_planWay_5 : decode cX2_planWay 5 = .ok (.iload 4, 2) := by decide +kernel
theorem dX2_planWay_7 : decode cX2_planWay 7 = .ok (.bipush 12, 2) := by decide +kernel
theorem dX2_planWay_9 : decode cX2_planWay 9 = .ok (.if_icmp .ge 55, 3) := by decide +kernel
theorem dX2_planWay_64 : decode cX2_planWay 64 = .ok (.iload_n 3, 1) := by decide +kernel
theorem dX2_planWay_65 : decode cX2_planWay 65 = .ok (.aload_n 1, 1) := by decide +kernel
theorem dX2_planWay_66 : decode cX2_planWay 66 = .ok (.getfield 83, 3) := by decide +kernel
theorem dX2_planWay_69 : decode cX2_planWay 69 = .ok (.if_icmp .ne 7, 3) := by decide +kernel
theorem dX2_planWay_76 : decode cX2_planWay 76 = .ok (.iconst 0, 1) := by decide +kernel
theorem dX2_planWay_77 : decode cX2_planWay 77 = .ok (.ireturn, 1) := by decide +kernel
theorem dX2_planWay_72 : decode cX2_planWay 72 = .ok (.iconst 1, 1) := by decide +kernel
theorem dX2_planWay_73 : decode cX2_planWay 73 = .ok (.goto 4, 3) := by decide +kernel
theorem dX2_planWay_12 : decode cX2_planWay 12 = .ok (.iload_n 3, 1) := by decide +kernel
theorem dX2_planWay_13 : decode cX2_planWay 13 = .ok (.aload_n 1, 1) := by decide +kernel
theorem dX2_planWay_14 : decode cX2_planWay 14 = .ok (.getfield 83, 3) := by decide +kernel
theorem dX2_planWay_17 : decode cX2_planWay 17 = .ok (.if_icmp .eq 47, 3) := by decide +kernel
theorem dX2_planWay_20 : decode cX2_planWay 20 = .ok (.aload_n 0, 1) := by decide +kernel
theorem dX2_planWay_21 : decode cX2_planWay 21 = .ok (.iload_n 3, 1) := by decide +kernel
theorem dX2_planWay_22 : decode cX2_planWay 22 = .ok (.aload_n 1, 1) := by decide +kernel
theorem dX2_planWay_23 : decode cX2_planWay 23 = .ok (.getfield 83, 3) := by decide +kernel
theorem dX2_planWay_26 : decode cX2_planWay 26 = .ok (.invokevirtual 86, 3) := by decide +kernel
theorem dX2_planWay_29 : decode cX2_planWay 29 = .ok (.istore 5, 2) := by decide +kernel
theorem dX2_planWay_31 : decode cX2_planWay 31 = .ok (.aload_n 0, 1) := by decide +kernel
theorem dX2_planWay_32 : decode cX2_planWay 32 = .ok (.iload 5, 2) := by decide +kernel
theorem dX2_planWay_34 : decode cX2_planWay 34 = .ok (.invokevirtual 90, 3) := by decide +kernel
theorem dX2_planWay_37 : decode cX2_planWay 37 = .ok (.astore 6, 2) := by decide +kernel
theorem dX2_planWay_39 : decode cX2_planWay 39 = .ok (.aload 6, 2) := by decide +kernel
theorem dX2_planWay_41 : decode cX2_planWay 41 = .ok (.ifnonnull 5, 3) := by decide +kernel
theorem dX2_planWay_44 : decode cX2_planWay 44 = .ok (.iconst 0, 1) := by decide +kernel
theorem dX2_planWay_45 : decode cX2_planWay 45 = .ok (.ireturn, 1) := by decide +kernel
theorem dX2_planWay_46 : decode cX2_planWay 46 = .ok (.aload_n 1, 1) := by decide +kernel
theorem dX2_planWay_47 : decode cX2_planWay 47 = .ok (.iload 5, 2) := by decide +kernel
theorem dX2_planWay_49 : decode cX2_planWay 49 = .ok (.invokevirtual 94, 3) := by decide +kernel
theorem dX2_planWay_52 : decode cX2_planWay 52 = .ok (.aload 6, 2) := by decide +kernel
theorem dX2_planWay_54 : decode cX2_planWay 54 = .ok (.getfield 30, 3) := by decide +kernel
theorem dX2_planWay_57 : decode cX2_planWay 57 = .ok (.istore_n 3, 1) := by decide +kernel
theorem dX2_planWay_58 : decode cX2_planWay 58 = .ok (.iinc 4 1, 3) := by decide +kernel
theorem dX2_planWay_61 : decode cX2_planWay 61 = .ok (.goto (-56), 3) := by decide +kernel
set_option maxRecDepth 100000 in
set_option maxHeartbeats 4000000 in
/-- Roads.firstOfWay -/
theorem c_Roads_firstOfWay (l : Launch) (dC : Nat → ClassId) (dI : Nat → Nat → Nat) (cy : Nat → ClassId) (L : Lay) (tr : Option Nat) (a : St) (κ : Kap) (τ : Tau) (M : Nat) (fr : Int32) (to : Int32) (sz : Nat) (hT : TL L tr τ) (hw : Wf M a) (hfr : in_ fr 11) (hto : in_ to 11) (hκ : CV a κ) : Met l yX2_firstOfWay (tp_w yX2_firstOfWay cX2_firstOfWay 7 (some .int)) ({ frames := 2, cells := 0, slots := 0, locals := 51 }) (va_Pc [.ref (L 1 0), .int fr, .int to] (mPre dC dI cy (TW cy L tr a κ τ) sz)) (va_Qi (fun (r u : Int32) => r = u) (fun (u : Int32) (t : State) => ∃ (κ2 : Kap), (u = G_first a fr to) ∧ (CV a κ2) ∧ mw (dC, dI) vwCl (mA (TW cy L tr a κ τ) sz) (TW cy L tr a κ2 τ) t.heap) (mA (TW cy L tr a κ τ) sz)) (0) (0) (mA (TW cy L tr a κ τ) sz) := by
  refine Met.ofW (cc := cX2_firstOfWay) (maxL := 7) (ret := (some .int)) (by decide) rfl ?_
  intro p e s m args below meth c s₁ B hml hv
  obtain ⟨rfl, hsz, hP, hK, hE⟩ := hv
  have hx := B.exec
  have hb := B.bytes
  have hr := B.returns
  have hts0 := atoms_spec (ws := tp_w yX2_firstOfWay cX2_firstOfWay 7 (some .int)) B.pre
  have hts : ∀ w ∈ tp_all, w.before _ s = true := fun w h => hts0 w (List.mem_cons_of_mem _ h)
  have hown : s.vm.findClass RX2 = some m.cls := findClass_of_methodNamed B.named
  have hlocks := B.notSynchronized
  subst hsz
  have hP := hP.self s.heap.size
  generalize hAe : mA (TW cy L tr a κ τ) s.heap.size = A at hP ⊢
  have hA : ∀ q : Nat, s.heap.size ≤ q → A q := fun q h => by rw [← hAe]; exact Or.inr h
  have hS : va_S A s.heap s.heap [] := va_S.rf
  have hl9 := lv_entry ([.ref (L 1 0), .int fr, .int to]) (n := 7) (Nat.le_of_ble_eq_true rfl)
  rw [lg_entry_eq]
  generalize (lg_sl ([.ref (L 1 0), .int fr, .int to]) ++ List.replicate (7 - (lg_sl ([.ref (L 1 0), .int fr, .int to])).length) Slot.unset).toArray = ls at hl9 ⊢
  have hl : lv_has ls 7 [(0, .ref (L 1 0)), (1, .int fr), (2, .int to)] := hl9
  refine lv_aload_n hx hb dX2_firstOfWay_0 rfl (lv_at hl 0 rfl) ?_
  refine lv_iload_n hx hb dX2_firstOfWay_1 rfl (lv_at hl 2 rfl) ?_
  have hFc := m_free (C := (TW cy L tr a κ τ)) hP hS hA (fun _ _ h => h)
  refine va_callr (va_runV (As := [.int to]) (rest := []) ⟨hx, hb, hml, hown, hts⟩ (c_Roads_costsTo l dC dI cy L tr a κ τ M to s.heap.size hT hw hto hκ) (tp_cwV 1 hts tw_216 tw_217 tw_218 tw_22 tw_219 rfl rfl (by decide +kernel) ⟨Nat.le_of_ble_eq_true rfl, Nat.le_of_ble_eq_true rfl⟩) ⟨m_blind, va_recv hK (hP.one (e := .inr (2, [.ref (L 24 0), .int ((a 1 0) 0), .ref (L 25 0), .int κ.1])) (tw_mem (f := 1) (i := 0) (by decide) rfl)) (ci := 2) (q0 := 0) rfl rfl, fun U hU hW => ⟨rfl, m_pay hK hP hE (fun _ _ h => h) U hU hW⟩⟩ rfl rfl hl.1 rfl (lv_room (Nat.le_of_ble_eq_true rfl)) dX2_firstOfWay_2 ⟨(Nat.le_of_ble_eq_true rfl), (Nat.le_of_ble_eq_true rfl)⟩) hS (fun q _ h => hFc q h) hFc (fun u r_1 t H1 locs ht hvm hpo hB hz1 hk1 hS => ?_)
  obtain ⟨z_1, f_1, f_2, f_3, hP1⟩ := hB
  subst f_1
  rw [ht] at hP1
  have hP : mw (dC, dI) vwCl A (TW cy L tr a z_1 τ) H1 := hP.join (fun _ _ h => h) hk1 hFc hP1 (fun _ _ h => Or.inl h)
  generalize H1 = H at hP hS ⊢
  clear hP1 hk1 hFc
  refine lv_astore_n (lv' := [(3, .ref (L 17 to.toNatClampNeg)), (0, .ref (L 1 0)), (1, .int fr), (2, .int to)]) hx hb dX2_firstOfWay_5 rfl hl (by decide) rfl (fun ls hl => ?_)
  refine lv_iload_n hx hb dX2_firstOfWay_6 rfl (lv_at hl 2 rfl) ?_
  refine lv_iload_n hx hb dX2_firstOfWay_7 rfl (lv_at hl 3 rfl) ?_
  refine lv_icmp_eq (tgt := 18) hx hb dX2_firstOfWay_8 (by decide) (fun c_1 => ?_) (fun c_1 => ?_)
  · refine lv_iconst (v := -1) hx hb dX2_firstOfWay_18 (by decide) ?_
    refine W.widen (k := 0) (n := 0) (Nat.le_of_ble_eq_true rfl) (Nat.le_of_ble_eq_true rfl) ?_
    have g_1 : ((-1)) = G_first a fr to := by
      show _ = if fr = to then -1 else if bf a to.toNatClampNeg fr.toNatClampNeg = -1 then -1 else G_scan a (bf a to.toNatClampNeg) fr (nL a) 0
      simp only [if_pos c_1]
    have g_2 : CV a z_1 := by
      exact f_2
    exact W.iret (v := (-1)) hx hb hr (fun t ht hW => ⟨⟨((-1)), ((-1)), rfl, rfl, ⟨z_1, g_1, g_2, by show mw _ _ _ _ t.heap; rw [ht]; exact hP⟩⟩, hS.F ht⟩) hS.2.2 dX2_firstOfWay_19
  · refine lv_aload_n hx hb dX2_firstOfWay_11 rfl (lv_at hl 0 rfl) ?_
    refine lv_iload_n hx hb dX2_firstOfWay_12 rfl (lv_at hl 2 rfl) ?_
    have j_1 : (fr : Int32).toNatClampNeg = fr.toNatClampNeg := m_cl (in_nI hfr) (in_lt hfr) (by decide)
    refine va_iald hx hb hK (ws := [(L 17 to.toNatClampNeg, .inl (cy 0, 12, .inl (z_1.2 to.toNatClampNeg)))]) (hP.one (tw_mem (f := 17) (i := to.toNatClampNeg) (in_lt hto) rfl)) 0 0 rfl rfl (m_in (in_nI hfr) (in_lt hfr) (by decide)) dX2_firstOfWay_13 ?_
    refine W.eq (g2 := F0 m 14 ls [.int ((z_1.2 to.toNatClampNeg) fr.toNatClampNeg)]) (by first | (rw [j_1]; done) | (rw [j_1]; rfl)) ?_
    refine W.eq (g2 := F0 m 14 ls [.int (bf a to.toNatClampNeg fr.toNatClampNeg)]) (by rw [f_3]) ?_
    refine lv_iconst (v := -1) hx hb dX2_firstOfWay_14 (by decide) ?_
    refine lv_icmp_ne (tgt := 20) hx hb dX2_firstOfWay_15 (by decide) (fun c_2 => ?_) (fun c_2 => ?_)
    · refine lv_iconst (v := 0) hx hb dX2_firstOfWay_20 (by decide) ?_
      refine lv_istore (lv' := [(4, .int 0), (3, .ref (L 17 to.toNatClampNeg)), (0, .ref (L 1 0)), (1, .int fr), (2, .int to)]) hx hb dX2_firstOfWay_21 hl (by decide) rfl (fun ls hl => ?_)
      have hN : nL a ≤ 24 := in_le hw.1.1
      suffices hloop : ∀ (d k : Nat), k + d = (nL a) → G_scan a (bf a to.toNatClampNeg) fr d k = G_scan a (bf a to.toNatClampNeg) fr (nL a) 0 → ∀ ls : Array Slot, lv_has ls 7 [(4, .int (nI k)), (3, .ref (L 17 to.toNatClampNeg)), (0, .ref (L 1 0)), (1, .int fr), (2, .int to)] → ∀ (H : Heap) (locs : List Loc), mw (dC, dI) vwCl A (TW cy L tr a z_1 τ) H → va_S A s.heap H locs → W p l e _ s m _ below meth c H locs (0 + 0) (0 + 0) _ (F0 m 23 ls []) from hloop (nL a) 0 (by omega)  rfl ls (lv_sub hl [0, 1, 2, 3, 4] rfl) _ _ hP hS
      clear hP hS hl ls hl9
      intro d
      induction d with
      | zero =>
        intro k hk  hq ls hl H locs hP hS
        refine lv_iload hx hb dX2_firstOfWay_23 (lv_at hl 0 rfl) ?_
        refine lv_aload_n hx hb dX2_firstOfWay_25 rfl (lv_at hl 2 rfl) ?_
        refine va_get (D := (dC, dI)) (ws := [(L 1 0, .inr (2, [.ref (L 24 0), .int ((a 1 0) 0), .ref (L 25 0), .int z_1.1]))]) (ci := 2) (v := .int ((a 1 0) 0)) (C := RX2) (T := TX2) (N := 4) hx hb hts tl_X2 hown hK (hP.one (tw_mem (f := 1) (i := 0) (by decide) rfl)) 0 rfl rfl 1 (by decide) (hts _ tw_697) (fun _ h9 => h9) rfl dX2_firstOfWay_26 ?_
        refine W.eq (g2 := F0 m 29 ls [.int (nI (nL a)), .int (nI k)]) (by rw [in_nI hw.1.1]) ?_
        have e9 : k = nL a := by omega
        refine lv_icmp_ge (tgt := 96) hx hb dX2_firstOfWay_29 (by decide) (fun _ => ?_) (fun c_3 => absurd (by rw [e9]; exact Int32.le_refl _) c_3)
        refine lv_iconst (v := -1) hx hb dX2_firstOfWay_96 (by decide) ?_
        refine W.widen (k := 0) (n := 0) (Nat.le_of_ble_eq_true rfl) (Nat.le_of_ble_eq_true rfl) ?_
        have g_3 : ((-1)) = G_first a fr to := by
          show _ = if fr = to then -1 else if bf a to.toNatClampNeg fr.toNatClampNeg = -1 then -1 else G_scan a (bf a to.toNatClampNeg) fr (nL a) 0
          simp only [if_neg c_1, if_neg c_2]
          rw [← hq]
          rfl
        have g_4 : CV a z_1 := by
          exact f_2
        exact W.iret (v := (-1)) hx hb hr (fun t ht hW => ⟨⟨((-1)), ((-1)), rfl, rfl, ⟨z_1, g_3, g_4, by show mw _ _ _ _ t.heap; rw [ht]; exact hP⟩⟩, hS.F ht⟩) hS.2.2 dX2_firstOfWay_97
      | succ d ih =>
        intro k hk  hq ls hl H locs hP hS
        refine lv_iload hx hb dX2_firstOfWay_23 (lv_at hl 0 rfl) ?_
        refine lv_aload_n hx hb dX2_firstOfWay_25 rfl (lv_at hl 2 rfl) ?_
        refine va_get (D := (dC, dI)) (ws := [(L 1 0, .inr (2, [.ref (L 24 0), .int ((a 1 0) 0), .ref (L 25 0), .int z_1.1]))]) (ci := 2) (v := .int ((a 1 0) 0)) (C := RX2) (T := TX2) (N := 4) hx hb hts tl_X2 hown hK (hP.one (tw_mem (f := 1) (i := 0) (by decide) rfl)) 0 rfl rfl 1 (by decide) (hts _ tw_697) (fun _ h9 => h9) rfl dX2_firstOfWay_26 ?_
        refine W.eq (g2 := F0 m 29 ls [.int (nI (nL a)), .int (nI k)]) (by rw [in_nI hw.1.1]) ?_
        refine lv_icmp_ge (tgt := 96) hx hb dX2_firstOfWay_29 (by decide) (fun c_4 => absurd c_4 (nI_ge (a := k) (b := (nL a)) (by omega) (by omega))) (fun _ => ?_)
        refine lv_aload_n hx hb dX2_firstOfWay_32 rfl (lv_at hl 2 rfl) ?_
        refine va_get (D := (dC, dI)) (ws := [(L 1 0, .inr (2, [.ref (L 24 0), .int ((a 1 0) 0), .ref (L 25 0), .int z_1.1]))]) (ci := 2) (v := .ref (L 24 0)) (C := RX2) (T := TX2) (N := 4) hx hb hts tl_X2 hown hK (hP.one (tw_mem (f := 1) (i := 0) (by decide) rfl)) 0 rfl rfl 0 (by decide) (hts _ tw_695) (fun _ h9 => h9) rfl dX2_firstOfWay_33 ?_
        refine lv_iload hx hb dX2_firstOfWay_36 (lv_at hl 0 rfl) ?_
        have j_2 : (nI k : Int32).toNatClampNeg = k := m_cl rfl (by omega : k < 24) (by decide)
        refine va_aldq hx hb hK (ws := [(L 24 0, .inl (cy 3, 24, .inr (.inr (.inr (.inr (fun j => some (L 2 j)))))))]) (hP.one (tw_mem (f := 24) (i := 0) (by decide) rfl)) 0 3 rfl rfl (m_in rfl (by omega : k < 24) (by decide)) dX2_firstOfWay_38 ?_
        refine W.eq (g2 := F0 m 39 ls [.ref (L 2 k)]) (by first | (rw [j_2]; done) | (rw [j_2]; rfl)) ?_
        refine lv_astore (lv' := [(5, .ref (L 2 k)), (4, .int (nI k)), (3, .ref (L 17 to.toNatClampNeg)), (0, .ref (L 1 0)), (1, .int fr), (2, .int to)]) hx hb dX2_firstOfWay_39 hl (by decide) rfl (fun ls hl => ?_)
        have hLk := hw.2.1 k (by omega)
        refine lv_aload_n hx hb dX2_firstOfWay_41 rfl (lv_at hl 2 rfl) ?_
        refine lv_aload hx hb dX2_firstOfWay_42 (lv_at hl 0 rfl) ?_
        refine va_getN (D := (dC, dI)) (ws := [(L 2 k, .inr (1, [.int ((a 2 k) 0), .int ((a 2 k) 1), .int ((a 2 k) 2), .int ((a 2 k) 3), .int ((a 2 k) 4), .int ((a 2 k) 5), .int ((a 2 k) 6), .int ((a 2 k) 7), .int ((a 2 k) 8), .ref (L 3 k), .ref (L 5 k), .int ((a 2 k) 9), .int ((a 2 k) 10), .int ((a 2 k) 11), .int ((a 2 k) 12), .ref (L 7 k)]))]) (ci := 1) (v := .int ((a 2 k) 1)) (C := RX1) (T := TX1) (N := 16) hx hb hts tl_X1 hown hK (hP.one (tw_mem (f := 2) (i := k) (by omega : k < 24) rfl)) 0 rfl rfl 1 (by decide) (va_Nw.use rfl (te_f3 hE)) (fun _ h9 => h9) rfl dX2_firstOfWay_44 ?_
        have j_3 : ((a 2 k) 1 : Int32).toNatClampNeg = (a 2 k 1).toNatClampNeg := m_cl (in_nI hLk.2.1) (in_lt hLk.2.1) (by decide)
        refine va_iald hx hb hK (ws := [(L 17 to.toNatClampNeg, .inl (cy 0, 12, .inl (z_1.2 to.toNatClampNeg)))]) (hP.one (tw_mem (f := 17) (i := to.toNatClampNeg) (in_lt hto) rfl)) 0 0 rfl rfl (m_in (in_nI hLk.2.1) (in_lt hLk.2.1) (by decide)) dX2_firstOfWay_47 ?_
        refine W.eq (g2 := F0 m 48 ls [.int ((z_1.2 to.toNatClampNeg) ((a 2 k 1).toNatClampNeg))]) (by first | (rw [j_3]; done) | (rw [j_3]; rfl)) ?_
        refine W.eq (g2 := F0 m 48 ls [.int (bf a to.toNatClampNeg ((a 2 k 1).toNatClampNeg))]) (by rw [f_3]) ?_
        refine lv_istore (lv' := [(6, .int (bf a to.toNatClampNeg ((a 2 k 1).toNatClampNeg))), (5, .ref (L 2 k)), (4, .int (nI k)), (3, .ref (L 17 to.toNatClampNeg)), (0, .ref (L 1 0)), (1, .int fr), (2, .int to)]) hx hb dX2_firstOfWay_48 hl (by decide) rfl (fun ls hl => ?_)
        refine lv_aload hx hb dX2_firstOfWay_50 (lv_at hl 1 rfl) ?_
        refine va_getN (D := (dC, dI)) (ws := [(L 2 k, .inr (1, [.int ((a 2 k) 0), .int ((a 2 k) 1), .int ((a 2 k) 2), .int ((a 2 k) 3), .int ((a 2 k) 4), .int ((a 2 k) 5), .int ((a 2 k) 6), .int ((a 2 k) 7), .int ((a 2 k) 8), .ref (L 3 k), .ref (L 5 k), .int ((a 2 k) 9), .int ((a 2 k) 10), .int ((a 2 k) 11), .int ((a 2 k) 12), .ref (L 7 k)]))]) (ci := 1) (v := .int ((a 2 k) 0)) (C := RX1) (T := TX1) (N := 16) hx hb hts tl_X1 hown hK (hP.one (tw_mem (f := 2) (i := k) (by omega : k < 24) rfl)) 0 rfl rfl 0 (by decide) (va_Nw.use rfl (te_f2 hE)) (fun _ h9 => h9) rfl dX2_firstOfWay_52 ?_
        refine lv_iload_n hx hb dX2_firstOfWay_55 rfl (lv_at hl 5 rfl) ?_
        refine lv_icmp_ne (tgt := 90) hx hb dX2_firstOfWay_56 (by decide) (fun c_5 => ?_) (fun c_5 => ?_)
        · refine lv_iinc (v := nI (k + 1)) (lv' := [(4, .int (nI (k + 1))), (6, .int (bf a to.toNatClampNeg ((a 2 k 1).toNatClampNeg))), (5, .ref (L 2 k)), (3, .ref (L 17 to.toNatClampNeg)), (0, .ref (L 1 0)), (1, .int fr), (2, .int to)]) hx hb dX2_firstOfWay_90 hl (k := 2) rfl (nI_1 k) (by decide) rfl (fun ls hl => ?_)
          refine lv_goto (tgt := 23) hx hb dX2_firstOfWay_93 (by decide) ?_
          exact ih (k + 1) (by omega)  (by rw [← hq]; show _ = (if a 2 k 0 = fr then (if a 2 k 7 = 0 then (if bf a to.toNatClampNeg (a 2 k 1).toNatClampNeg = -1 then _ else if a 2 k 8 + bf a to.toNatClampNeg (a 2 k 1).toNatClampNeg = bf a to.toNatClampNeg fr.toNatClampNeg then _ else _) else _) else _); simp only [if_neg c_5]) ls (lv_sub hl [0, 3, 4, 5, 6] rfl) H locs hP hS
        · refine lv_aload hx hb dX2_firstOfWay_59 (lv_at hl 1 rfl) ?_
          refine va_getN (D := (dC, dI)) (ws := [(L 2 k, .inr (1, [.int ((a 2 k) 0), .int ((a 2 k) 1), .int ((a 2 k) 2), .int ((a 2 k) 3), .int ((a 2 k) 4), .int ((a 2 k) 5), .int ((a 2 k) 6), .int ((a 2 k) 7), .int ((a 2 k) 8), .ref (L 3 k), .ref (L 5 k), .int ((a 2 k) 9), .int ((a 2 k) 10), .int ((a 2 k) 11), .int ((a 2 k) 12), .ref (L 7 k)]))]) (ci := 1) (v := .int ((a 2 k) 7)) (C := RX1) (T := TX1) (N := 16) hx hb hts tl_X1 hown hK (hP.one (tw_mem (f := 2) (i := k) (by omega : k < 24) rfl)) 0 rfl rfl 7 (by decide) (va_Nw.use rfl (te_f14 hE)) (fun _ h9 => h9) rfl dX2_firstOfWay_61 ?_
          refine lv_if_ne (tgt := 90) hx hb dX2_firstOfWay_64 (by decide) (fun c_6 => ?_) (fun c_6 => ?_)
          · refine lv_iinc (v := nI (k + 1)) (lv' := [(4, .int (nI (k + 1))), (6, .int (bf a to.toNatClampNeg ((a 2 k 1).toNatClampNeg))), (5, .ref (L 2 k)), (3, .ref (L 17 to.toNatClampNeg)), (0, .ref (L 1 0)), (1, .int fr), (2, .int to)]) hx hb dX2_firstOfWay_90 hl (k := 2) rfl (nI_1 k) (by decide) rfl (fun ls hl => ?_)
            refine lv_goto (tgt := 23) hx hb dX2_firstOfWay_93 (by decide) ?_
            exact ih (k + 1) (by omega)  (by rw [← hq]; show _ = (if a 2 k 0 = fr then (if a 2 k 7 = 0 then (if bf a to.toNatClampNeg (a 2 k 1).toNatClampNeg = -1 then _ else if a 2 k 8 + bf a to.toNatClampNeg (a 2 k 1).toNatClampNeg = bf a to.toNatClampNeg fr.toNatClampNeg then _ else _) else _) else _); simp only [if_pos c_5, if_neg c_6]) ls (lv_sub hl [0, 3, 4, 5, 6] rfl) H locs hP hS
          · refine lv_iload hx hb dX2_firstOfWay_67 (lv_at hl 0 rfl) ?_
            refine lv_iconst (v := -1) hx hb dX2_firstOfWay_69 (by decide) ?_
            refine lv_icmp_eq (tgt := 90) hx hb dX2_firstOfWay_70 (by decide) (fun c_7 => ?_) (fun c_7 => ?_)
            · refine lv_iinc (v := nI (k + 1)) (lv' := [(4, .int (nI (k + 1))), (6, .int (bf a to.toNatClampNeg ((a 2 k 1).toNatClampNeg))), (5, .ref (L 2 k)), (3, .ref (L 17 to.toNatClampNeg)), (0, .ref (L 1 0)), (1, .int fr), (2, .int to)]) hx hb dX2_firstOfWay_90 hl (k := 2) rfl (nI_1 k) (by decide) rfl (fun ls hl => ?_)
              refine lv_goto (tgt := 23) hx hb dX2_firstOfWay_93 (by decide) ?_
              exact ih (k + 1) (by omega)  (by rw [← hq]; show _ = (if a 2 k 0 = fr then (if a 2 k 7 = 0 then (if bf a to.toNatClampNeg (a 2 k 1).toNatClampNeg = -1 then _ else if a 2 k 8 + bf a to.toNatClampNeg (a 2 k 1).toNatClampNeg = bf a to.toNatClampNeg fr.toNatClampNeg then _ else _) else _) else _); simp only [if_pos c_5, if_pos c_6, if_pos c_7]) ls (lv_sub hl [0, 3, 4, 5, 6] rfl) H locs hP hS
            · refine lv_aload hx hb dX2_firstOfWay_73 (lv_at hl 1 rfl) ?_
              refine va_getN (D := (dC, dI)) (ws := [(L 2 k, .inr (1, [.int ((a 2 k) 0), .int ((a 2 k) 1), .int ((a 2 k) 2), .int ((a 2 k) 3), .int ((a 2 k) 4), .int ((a 2 k) 5), .int ((a 2 k) 6), .int ((a 2 k) 7), .int ((a 2 k) 8), .ref (L 3 k), .ref (L 5 k), .int ((a 2 k) 9), .int ((a 2 k) 10), .int ((a 2 k) 11), .int ((a 2 k) 12), .ref (L 7 k)]))]) (ci := 1) (v := .int ((a 2 k) 8)) (C := RX1) (T := TX1) (N := 16) hx hb hts tl_X1 hown hK (hP.one (tw_mem (f := 2) (i := k) (by omega : k < 24) rfl)) 0 rfl rfl 8 (by decide) (va_Nw.use rfl (te_f15 hE)) (fun _ h9 => h9) rfl dX2_firstOfWay_75 ?_
              refine lv_iload hx hb dX2_firstOfWay_78 (lv_at hl 0 rfl) ?_
              refine lv_iadd hx hb dX2_firstOfWay_80 ?_
              refine lv_aload_n hx hb dX2_firstOfWay_81 rfl (lv_at hl 3 rfl) ?_
              refine lv_iload_n hx hb dX2_firstOfWay_82 rfl (lv_at hl 5 rfl) ?_
              have j_4 : (fr : Int32).toNatClampNeg = fr.toNatClampNeg := m_cl (in_nI hfr) (in_lt hfr) (by decide)
              refine va_iald hx hb hK (ws := [(L 17 to.toNatClampNeg, .inl (cy 0, 12, .inl (z_1.2 to.toNatClampNeg)))]) (hP.one (tw_mem (f := 17) (i := to.toNatClampNeg) (in_lt hto) rfl)) 0 0 rfl rfl (m_in (in_nI hfr) (in_lt hfr) (by decide)) dX2_firstOfWay_83 ?_
              refine W.eq (g2 := F0 m 84 ls [.int ((z_1.2 to.toNatClampNeg) fr.toNatClampNeg), .int (((a 2 k) 8) + (bf a to.toNatClampNeg ((a 2 k 1).toNatClampNeg)))]) (by first | (rw [j_4]; done) | (rw [j_4]; rfl)) ?_
              refine W.eq (g2 := F0 m 84 ls [.int (bf a to.toNatClampNeg fr.toNatClampNeg), .int (((a 2 k) 8) + (bf a to.toNatClampNeg ((a 2 k 1).toNatClampNeg)))]) (by rw [f_3]) ?_
              refine lv_icmp_ne (tgt := 90) hx hb dX2_firstOfWay_84 (by decide) (fun c_8 => ?_) (fun c_8 => ?_)
              · refine lv_iinc (v := nI (k + 1)) (lv' := [(4, .int (nI (k + 1))), (6, .int (bf a to.toNatClampNeg ((a 2 k 1).toNatClampNeg))), (5, .ref (L 2 k)), (3, .ref (L 17 to.toNatClampNeg)), (0, .ref (L 1 0)), (1, .int fr), (2, .int to)]) hx hb dX2_firstOfWay_90 hl (k := 2) rfl (nI_1 k) (by decide) rfl (fun ls hl => ?_)
                refine lv_goto (tgt := 23) hx hb dX2_firstOfWay_93 (by decide) ?_
                exact ih (k + 1) (by omega)  (by rw [← hq]; show _ = (if a 2 k 0 = fr then (if a 2 k 7 = 0 then (if bf a to.toNatClampNeg (a 2 k 1).toNatClampNeg = -1 then _ else if a 2 k 8 + bf a to.toNatClampNeg (a 2 k 1).toNatClampNeg = bf a to.toNatClampNeg fr.toNatClampNeg then _ else _) else _) else _); simp only [if_pos c_5, if_pos c_6, if_neg c_7, if_neg c_8]) ls (lv_sub hl [0, 3, 4, 5, 6] rfl) H locs hP hS
              · refine lv_iload hx hb dX2_firstOfWay_87 (lv_at hl 2 rfl) ?_
                refine W.widen (k := 0) (n := 0) (Nat.le_of_ble_eq_true rfl) (Nat.le_of_ble_eq_true rfl) ?_
                have g_5 : (nI k) = G_first a fr to := by
                  show _ = if fr = to then -1 else if bf a to.toNatClampNeg fr.toNatClampNeg = -1 then -1 else G_scan a (bf a to.toNatClampNeg) fr (nL a) 0
                  simp only [if_neg c_1, if_neg c_2]
                  rw [← hq]
                  show _ = (if a 2 k 0 = fr then (if a 2 k 7 = 0 then (if bf a to.toNatClampNeg (a 2 k 1).toNatClampNeg = -1 then _ else if a 2 k 8 + bf a to.toNatClampNeg (a 2 k 1).toNatClampNeg = bf a to.toNatClampNeg fr.toNatClampNeg then _ else _) else _) else _)
                  simp only [if_pos c_5, if_pos c_6, if_neg c_7, if_pos c_8]
                have g_6 : CV a z_1 := by
                  exact f_2
                exact W.iret (v := nI k) hx hb hr (fun t ht hW => ⟨⟨(nI k), (nI k), rfl, rfl, ⟨z_1, g_5, g_6, by show mw _ _ _ _ t.heap; rw [ht]; exact hP⟩⟩, hS.F ht⟩) hS.2.2 dX2_firstOfWay_89
    · refine lv_iconst (v := -1) hx hb dX2_firstOfWay_18 (by decide) ?_
      refine W.widen (k := 0) (n := 0) (Nat.le_of_ble_eq_true rfl) (Nat.le_of_ble_eq_true rfl) ?_
      have g_7 : ((-1)) = G_first a fr to := by
        show _ = if fr = to then -1 else if bf a to.toNatClampNeg fr.toNatClampNeg = -1 then -1 else G_scan a (bf a to.toNatClampNeg) fr (nL a) 0
        simp only [if_neg c_1, if_pos c_2]
      have g_8 : CV a z_1 := by
        exact f_2
      exact W.iret (v := (-1)) hx hb hr (fun t ht hW => ⟨⟨((-1)), ((-1)), rfl, rfl, ⟨z_1, g_7, g_8, by show mw _ _ _ _ t.heap; rw [ht]; exact hP⟩⟩, hS.F ht⟩) hS.2.2 dX2_firstOfWay_19
set_option maxRecDepth 100000 in
set_option maxHeartbeats 4000000 in
/-- Roads.planWay -/
theorem c_Roads_planWay (l : Launch) (dC : Nat → ClassId) (dI : Nat → Nat → Nat) (cy : Nat → ClassId) (L : Lay) (tr : Option Nat) (a : St) (κ : Kap) (τ : Tau) (M : Nat) (v : Nat) (fr : Int32) (sz : Nat) (hT : TL L tr τ) (hw : Wf M a) (hv : v < 200) (hfr : in_ fr 11) (hκ : CV a κ) : Met l yX2_planWay (tp_w yX2_planWay cX2_planWay 7 (some .boolean)) ({ frames := 3, cells := 0, slots := 0, locals := 77 }) (va_Pc [.ref (L 1 0), .ref (L 15 v), .int fr] (mPre dC dI cy (TW cy L tr a κ τ) sz)) (va_Qi (fun (r u : Int32) => r = u) (fun (u : Int32) (t : State) => ∃ (κ2 : Kap), (u = (P_way v (a 15 v 1) 12 fr a).2) ∧ (CV (P_way v (a 15 v 1) 12 fr a).1 κ2) ∧ mw (dC, dI) vwCl (mA (TW cy L tr a κ τ) sz) (TW cy L tr ((P_way v (a 15 v 1) 12 fr a).1) κ2 τ) t.heap) (mA (TW cy L tr a κ τ) sz)) (0) (0) (mA (TW cy L tr a κ τ) sz) := by
  refine Met.ofW (cc := cX2_planWay) (maxL := 7) (ret := (some .boolean)) (by decide) rfl ?_
  intro p e s m args below meth c s₁ B hml hv
  obtain ⟨rfl, hsz, hP, hK, hE⟩ := hv
  have hx := B.exec
  have hb := B.bytes
  have hr := B.returns
  have hts0 := atoms_spec (ws := tp_w yX2_planWay cX2_planWay 7 (some .boolean)) B.pre
  have hts : ∀ w ∈ tp_all, w.before _ s = true := fun w h => hts0 w (List.mem_cons_of_mem _ h)
  have hown : s.vm.findClass RX2 = some m.cls := findClass_of_methodNamed B.named
  have hlocks := B.notSynchronized
  subst hsz
  have hP := hP.self s.heap.size
  generalize hAe : mA (TW cy L tr a κ τ) s.heap.size = A at hP ⊢
  have hA : ∀ q : Nat, s.heap.size ≤ q → A q := fun q h => by rw [← hAe]; exact Or.inr h
  have hS : va_S A s.heap s.heap [] := va_S.rf
  have hl9 := lv_entry ([.ref (L 1 0), .ref (L 15 v), .int fr]) (n := 7) (Nat.le_of_ble_eq_true rfl)
  rw [lg_entry_eq]
  generalize (lg_sl ([.ref (L 1 0), .ref (L 15 v), .int fr]) ++ List.replicate (7 - (lg_sl ([.ref (L 1 0), .ref (L 15 v), .int fr])).length) Slot.unset).toArray = ls at hl9 ⊢
  have hl : lv_has ls 7 [(0, .ref (L 1 0)), (1, .ref (L 15 v)), (2, .int fr)] := hl9
  refine lv_iload_n hx hb dX2_planWay_0 rfl (lv_at hl 2 rfl) ?_
  refine lv_istore_n (lv' := [(3, .int fr), (0, .ref (L 1 0)), (1, .ref (L 15 v)), (2, .int fr)]) hx hb dX2_planWay_1 rfl hl (by decide) rfl (fun ls hl => ?_)
  refine lv_iconst (v := 0) hx hb dX2_planWay_2 (by decide) ?_
  refine lv_istore (lv' := [(4, .int 0), (3, .int fr), (0, .ref (L 1 0)), (1, .ref (L 15 v)), (2, .int fr)]) hx hb dX2_planWay_3 hl (by decide) rfl (fun ls hl => ?_)
  obtain ⟨to, eto⟩ : ∃ y9 : Int32, y9 = a 15 v 1 := ⟨_, rfl⟩
  have hto : in_ to 11 := by rw [eto]; exact (hw.2.2.2.2 v hv).2.1
  have hN : 12 ≤ 12 := (Nat.le_refl _)
  suffices hloop : ∀ (d k : Nat), k + d = 12 → ∀ nd : Int32, ∀ bb : St, ∀ κb : Kap, P_way v to d nd bb = P_way v (a 15 v 1) 12 fr a → Wf M bb → bb 15 v 1 = to → in_ nd 11 → CV bb κb → ∀ ls : Array Slot, lv_has ls 7 [(4, .int (nI k)), (3, .int nd), (0, .ref (L 1 0)), (1, .ref (L 15 v)), (2, .int fr)] → ∀ (H : Heap) (locs : List Loc), mw (dC, dI) vwCl A (TW cy L tr bb κb τ) H → va_S A s.heap H locs → W p l e _ s m _ below meth c H locs (0) (0) _ (F0 m 5 ls []) from hloop 12 0 (by omega) fr a κ (by rw [eto]) hw eto.symm hfr hκ ls (lv_sub hl [0, 1, 2, 3, 4] rfl) _ _ hP hS
  clear hP hS hl ls hl9
  intro d
  induction d with
  | zero =>
    intro k hk nd bb κb hq hwb htb hnd hcb ls hl H locs hP hS
    refine lv_iload hx hb dX2_planWay_5 (lv_at hl 0 rfl) ?_
    refine lv_bipush (v := 12) hx hb dX2_planWay_7 (by decide) ?_
    have e9 : k = 12 := by omega
    refine lv_icmp_ge (tgt := 64) hx hb dX2_planWay_9 (by decide) (fun _ => ?_) (fun c_1 => absurd (by rw [e9]; exact Int32.le_refl _) c_1)
    refine lv_iload_n hx hb dX2_planWay_64 rfl (lv_at hl 1 rfl) ?_
    refine lv_aload_n hx hb dX2_planWay_65 rfl (lv_at hl 3 rfl) ?_
    refine va_getN (D := (dC, dI)) (ws := [(L 15 v, .inr (7, [.int ((bb 15 v) 0), .int ((bb 15 v) 1), .int ((bb 15 v) 2), .int ((bb 15 v) 3), .int ((bb 15 v) 4), .int ((bb 15 v) 5), .int ((bb 15 v) 6), .int ((bb 15 v) 7), .int ((bb 15 v) 8), .int ((bb 15 v) 9), .int ((bb 15 v) 10), .int ((bb 15 v) 11), .ref (L 16 v)]))]) (ci := 7) (v := .int ((bb 15 v) 1)) (C := RX7) (T := TX7) (N := 13) hx hb hts tl_X7 hown hK (hP.one (tw_mem (f := 15) (i := v) hv rfl)) 0 rfl rfl 1 (by decide) (va_Nw.use rfl (te_f47 hE)) (fun _ h9 => h9) rfl dX2_planWay_66 ?_
    refine W.eq (g2 := F0 m 69 ls [.int to, .int nd]) (by rw [htb]) ?_
    refine lv_icmp_ne (tgt := 76) hx hb dX2_planWay_69 (by decide) (fun c_2 => ?_) (fun c_2 => ?_)
    · refine lv_iconst (v := 0) hx hb dX2_planWay_76 (by decide) ?_
      refine W.widen (k := 0) (n := 0) (Nat.le_of_ble_eq_true rfl) (Nat.le_of_ble_eq_true rfl) ?_
      have s_1 : bb = (P_way v (a 15 v 1) 12 fr a).1 := by
        rw [← hq]
        rfl
      rw [s_1] at hP
      have g_1 : 0 = (P_way v (a 15 v 1) 12 fr a).2 := by
        rw [← hq]
        show _ = (if nd = to then (1 : Int32) else 0)
        simp only [if_neg c_2]
      have g_2 : CV (P_way v (a 15 v 1) 12 fr a).1 κb := by
        rw [← s_1]
        exact hcb
      exact W.zret (v := 0) hx hb hr rfl (fun t ht hW => ⟨⟨0, 0, rfl, rfl, ⟨κb, g_1, g_2, by show mw _ _ _ _ t.heap; rw [ht]; exact hP⟩⟩, hS.F ht⟩) hS.2.2 dX2_planWay_77
    · refine lv_iconst (v := 1) hx hb dX2_planWay_72 (by decide) ?_
      refine lv_goto (tgt := 77) hx hb dX2_planWay_73 (by decide) ?_
      refine W.widen (k := 0) (n := 0) (Nat.le_of_ble_eq_true rfl) (Nat.le_of_ble_eq_true rfl) ?_
      have s_2 : bb = (P_way v (a 15 v 1) 12 fr a).1 := by
        rw [← hq]
        rfl
      rw [s_2] at hP
      have g_3 : 1 = (P_way v (a 15 v 1) 12 fr a).2 := by
        rw [← hq]
        show _ = (if nd = to then (1 : Int32) else 0)
        simp only [if_pos c_2]
      have g_4 : CV (P_way v (a 15 v 1) 12 fr a).1 κb := by
        rw [← s_2]
        exact hcb
      exact W.zret (v := 1) hx hb hr rfl (fun t ht hW => ⟨⟨1, 1, rfl, rfl, ⟨κb, g_3, g_4, by show mw _ _ _ _ t.heap; rw [ht]; exact hP⟩⟩, hS.F ht⟩) hS.2.2 dX2_planWay_77
  | succ d ih =>
    intro k hk nd bb κb hq hwb htb hnd hcb ls hl H locs hP hS
    refine lv_iload hx hb dX2_planWay_5 (lv_at hl 0 rfl) ?_
    refine lv_bipush (v := 12) hx hb dX2_planWay_7 (by decide) ?_
    refine lv_icmp_ge (tgt := 64) hx hb dX2_planWay_9 (by decide) (fun c_3 => absurd c_3 (nI_ge (a := k) (b := 12) (by omega) (by omega))) (fun _ => ?_)
    refine lv_iload_n hx hb dX2_planWay_12 rfl (lv_at hl 1 rfl) ?_
    refine lv_aload_n hx hb dX2_planWay_13 rfl (lv_at hl 3 rfl) ?_
    refine va_getN (D := (dC, dI)) (ws := [(L 15 v, .inr (7, [.int ((bb 15 v) 0), .int ((bb 15 v) 1), .int ((bb 15 v) 2), .int ((bb 15 v) 3), .int ((bb 15 v) 4), .int ((bb 15 v) 5), .int ((bb 15 v) 6), .int ((bb 15 v) 7), .int ((bb 15 v) 8), .int ((bb 15 v) 9), .int ((bb 15 v) 10), .int ((bb 15 v) 11), .ref (L 16 v)]))]) (ci := 7) (v := .int ((bb 15 v) 1)) (C := RX7) (T := TX7) (N := 13) hx hb hts tl_X7 hown hK (hP.one (tw_mem (f := 15) (i := v) hv rfl)) 0 rfl rfl 1 (by decide) (va_Nw.use rfl (te_f47 hE)) (fun _ h9 => h9) rfl dX2_planWay_14 ?_
    refine W.eq (g2 := F0 m 17 ls [.int to, .int nd]) (by rw [htb]) ?_
    refine lv_icmp_eq (tgt := 64) hx hb dX2_planWay_17 (by decide) (fun c_4 => ?_) (fun c_4 => ?_)
    · refine lv_iload_n hx hb dX2_planWay_64 rfl (lv_at hl 1 rfl) ?_
      refine lv_aload_n hx hb dX2_planWay_65 rfl (lv_at hl 3 rfl) ?_
      refine va_getN (D := (dC, dI)) (ws := [(L 15 v, .inr (7, [.int ((bb 15 v) 0), .int ((bb 15 v) 1), .int ((bb 15 v) 2), .int ((bb 15 v) 3), .int ((bb 15 v) 4), .int ((bb 15 v) 5), .int ((bb 15 v) 6), .int ((bb 15 v) 7), .int ((bb 15 v) 8), .int ((bb 15 v) 9), .int ((bb 15 v) 10), .int ((bb 15 v) 11), .ref (L 16 v)]))]) (ci := 7) (v := .int ((bb 15 v) 1)) (C := RX7) (T := TX7) (N := 13) hx hb hts tl_X7 hown hK (hP.one (tw_mem (f := 15) (i := v) hv rfl)) 0 rfl rfl 1 (by decide) (va_Nw.use rfl (te_f47 hE)) (fun _ h9 => h9) rfl dX2_planWay_66 ?_
      refine W.eq (g2 := F0 m 69 ls [.int to, .int nd]) (by rw [htb]) ?_
      refine lv_icmp_ne (tgt := 76) hx hb dX2_planWay_69 (by decide) (fun c_5 => ?_) (fun c_5 => ?_)
      · refine lv_iconst (v := 0) hx hb dX2_planWay_76 (by decide) ?_
        refine W.widen (k := 0) (n := 0) (Nat.le_of_ble_eq_true rfl) (Nat.le_of_ble_eq_true rfl) ?_
        have s_3 : bb = (P_way v (a 15 v 1) 12 fr a).1 := by
          rw [← hq]
          show _ = (if nd = to then (bb, (1 : Int32)) else if G_no bb (G_first bb nd to) then (bb, 0) else _).1
          rw [if_pos c_4]
        rw [s_3] at hP
        have g_5 : 0 = (P_way v (a 15 v 1) 12 fr a).2 := by
          exact absurd c_4 c_5
        have g_6 : CV (P_way v (a 15 v 1) 12 fr a).1 κb := by
          rw [← s_3]
          exact hcb
        exact W.zret (v := 0) hx hb hr rfl (fun t ht hW => ⟨⟨0, 0, rfl, rfl, ⟨κb, g_5, g_6, by show mw _ _ _ _ t.heap; rw [ht]; exact hP⟩⟩, hS.F ht⟩) hS.2.2 dX2_planWay_77
      · refine lv_iconst (v := 1) hx hb dX2_planWay_72 (by decide) ?_
        refine lv_goto (tgt := 77) hx hb dX2_planWay_73 (by decide) ?_
        refine W.widen (k := 0) (n := 0) (Nat.le_of_ble_eq_true rfl) (Nat.le_of_ble_eq_true rfl) ?_
        have s_4 : bb = (P_way v (a 15 v 1) 12 fr a).1 := by
          rw [← hq]
          show _ = (if nd = to then (bb, (1 : Int32)) else if G_no bb (G_first bb nd to) then (bb, 0) else _).1
          rw [if_pos c_4]
        rw [s_4] at hP
        have g_7 : 1 = (P_way v (a 15 v 1) 12 fr a).2 := by
          rw [← hq]
          show _ = (if nd = to then (bb, (1 : Int32)) else if G_no bb (G_first bb nd to) then (bb, 0) else _).2
          rw [if_pos c_4]
        have g_8 : CV (P_way v (a 15 v 1) 12 fr a).1 κb := by
          rw [← s_4]
          exact hcb
        exact W.zret (v := 1) hx hb hr rfl (fun t ht hW => ⟨⟨1, 1, rfl, rfl, ⟨κb, g_7, g_8, by show mw _ _ _ _ t.heap; rw [ht]; exact hP⟩⟩, hS.F ht⟩) hS.2.2 dX2_planWay_77
    · refine lv_aload_n hx hb dX2_planWay_20 rfl (lv_at hl 2 rfl) ?_
      refine lv_iload_n hx hb dX2_planWay_21 rfl (lv_at hl 1 rfl) ?_
      refine lv_aload_n hx hb dX2_planWay_22 rfl (lv_at hl 3 rfl) ?_
      refine va_getN (D := (dC, dI)) (ws := [(L 15 v, .inr (7, [.int ((bb 15 v) 0), .int ((bb 15 v) 1), .int ((bb 15 v) 2), .int ((bb 15 v) 3), .int ((bb 15 v) 4), .int ((bb 15 v) 5), .int ((bb 15 v) 6), .int ((bb 15 v) 7), .int ((bb 15 v) 8), .int ((bb 15 v) 9), .int ((bb 15 v) 10), .int ((bb 15 v) 11), .ref (L 16 v)]))]) (ci := 7) (v := .int ((bb 15 v) 1)) (C := RX7) (T := TX7) (N := 13) hx hb hts tl_X7 hown hK (hP.one (tw_mem (f := 15) (i := v) hv rfl)) 0 rfl rfl 1 (by decide) (va_Nw.use rfl (te_f47 hE)) (fun _ h9 => h9) rfl dX2_planWay_23 ?_
      refine W.eq (g2 := F0 m 26 ls [.int to, .int nd, .ref (L 1 0)]) (by rw [htb]) ?_
      have hFc := m_free (C := (TW cy L tr bb κb τ)) hP hS hA (fun _ _ h => h)
      refine va_calli (va_runV (As := [.int nd, .int to]) (rest := []) ⟨hx, hb, hml, hown, hts⟩ (c_Roads_firstOfWay l dC dI cy L tr bb κb τ M nd to H.size hT hwb hnd hto hcb) (tp_cwV 2 hts tw_212 tw_213 tw_214 tw_22 tw_215 rfl rfl (by decide +kernel) ⟨Nat.le_of_ble_eq_true rfl, Nat.le_of_ble_eq_true rfl⟩) ⟨m_blind, va_recv hK (hP.one (e := .inr (2, [.ref (L 24 0), .int ((bb 1 0) 0), .ref (L 25 0), .int κb.1])) (tw_mem (f := 1) (i := 0) (by decide) rfl)) (ci := 2) (q0 := 0) rfl rfl, fun U hU hW => ⟨rfl, m_pay hK hP hE (fun _ _ h => h) U hU hW⟩⟩ rfl rfl hl.1 rfl (lv_room (Nat.le_of_ble_eq_true rfl)) dX2_planWay_26 ⟨(Nat.le_of_ble_eq_true rfl), (Nat.le_of_ble_eq_true rfl)⟩) hS (fun q _ h => hFc q h) hFc (fun r_1 u t H1 locs ht hvm hpo hB hz1 hk1 hS => ?_)
      obtain rfl := hpo
      obtain ⟨z_1, f_1, f_2, hP1⟩ := hB
      subst f_1
      rw [ht] at hP1
      have hP : mw (dC, dI) vwCl A (TW cy L tr bb z_1 τ) H1 := hP.join (fun _ _ h => h) hk1 hFc hP1 (fun _ _ h => Or.inl h)
      generalize H1 = H at hP hS ⊢
      clear hP1 hk1 hFc
      refine lv_istore (lv' := [(5, .int (G_first bb nd to)), (4, .int (nI k)), (3, .int nd), (0, .ref (L 1 0)), (1, .ref (L 15 v)), (2, .int fr)]) hx hb dX2_planWay_29 hl (by decide) rfl (fun ls hl => ?_)
      refine lv_aload_n hx hb dX2_planWay_31 rfl (lv_at hl 3 rfl) ?_
      refine lv_iload hx hb dX2_planWay_32 (lv_at hl 0 rfl) ?_
      by_cases c_6 : G_no bb (G_first bb nd to)
      · have hFc := m_free (C := (TW cy L tr bb z_1 τ)) hP hS hA (fun _ _ h => h)
        refine va_callq (va_runV (As := [.int (G_first bb nd to)]) (rest := []) ⟨hx, hb, hml, hown, hts⟩ (c_Roads_find_none l dC dI cy L tr bb z_1 τ (G_first bb nd to) H.size hT c_6) (tp_cwV 1 hts tw_223 tw_128 tw_129 tw_22 tw_130 rfl rfl (by decide +kernel) ⟨Nat.le_of_ble_eq_true rfl, Nat.le_of_ble_eq_true rfl⟩) ⟨m_blind, va_recv hK (hP.one (e := .inr (2, [.ref (L 24 0), .int ((bb 1 0) 0), .ref (L 25 0), .int z_1.1])) (tw_mem (f := 1) (i := 0) (by decide) rfl)) (ci := 2) (q0 := 0) rfl rfl, fun U hU hW => ⟨rfl, m_pay hK hP hE (fun _ _ h => h) U hU hW⟩⟩ rfl rfl hl.1 rfl (lv_room (Nat.le_of_ble_eq_true rfl)) dX2_planWay_34 ⟨(Nat.le_of_ble_eq_true rfl), (Nat.le_of_ble_eq_true rfl)⟩) hS (fun q _ h => hFc q h) hFc (fun r_2 u t H1 locs ht hvm hpo hB hz1 hk1 hS => ?_)
        obtain rfl := hpo
        obtain ⟨f_3, hP1⟩ := hB
        subst f_3
        rw [ht] at hP1
        have hP : mw (dC, dI) vwCl A (TW cy L tr bb z_1 τ) H1 := hP.join (fun _ _ h => h) hk1 hFc hP1 (fun _ _ h => Or.inl h)
        generalize H1 = H at hP hS ⊢
        clear hP1 hk1 hFc
        refine W.eq (g2 := F0 m 37 ls [.null]) rfl ?_
        refine lv_astoreN (lv' := [(6, .null), (5, .int (G_first bb nd to)), (4, .int (nI k)), (3, .int nd), (0, .ref (L 1 0)), (1, .ref (L 15 v)), (2, .int fr)]) hx hb dX2_planWay_37 hl (by decide) rfl (fun ls hl => ?_)
        refine lv_aloadN hx hb dX2_planWay_39 (lv_at hl 0 rfl) ?_
        refine lv_ifnonnullN hx hb dX2_planWay_41 ?_
        refine lv_iconst (v := 0) hx hb dX2_planWay_44 (by decide) ?_
        refine W.widen (k := 0) (n := 0) (Nat.le_of_ble_eq_true rfl) (Nat.le_of_ble_eq_true rfl) ?_
        have s_5 : bb = (P_way v (a 15 v 1) 12 fr a).1 := by
          rw [← hq]
          show _ = (if nd = to then (bb, (1 : Int32)) else if G_no bb (G_first bb nd to) then (bb, 0) else _).1
          rw [if_neg c_4, if_pos c_6]
        rw [s_5] at hP
        have g_9 : 0 = (P_way v (a 15 v 1) 12 fr a).2 := by
          rw [← hq]
          show _ = (if nd = to then (bb, (1 : Int32)) else if G_no bb (G_first bb nd to) then (bb, 0) else _).2
          rw [if_neg c_4, if_pos c_6]
        have g_10 : CV (P_way v (a 15 v 1) 12 fr a).1 z_1 := by
          rw [← s_5]
          exact f_2
        exact W.zret (v := 0) hx hb hr rfl (fun t ht hW => ⟨⟨0, 0, rfl, rfl, ⟨z_1, g_9, g_10, by show mw _ _ _ _ t.heap; rw [ht]; exact hP⟩⟩, hS.F ht⟩) hS.2.2 dX2_planWay_45
      · have hFc := m_free (C := (TW cy L tr bb z_1 τ)) hP hS hA (fun _ _ h => h)
        refine va_callr (va_runV (As := [.int (G_first bb nd to)]) (rest := []) ⟨hx, hb, hml, hown, hts⟩ (c_Roads_find_some l dC dI cy L tr bb z_1 τ M (G_first bb nd to) H.size hT hwb c_6) (tp_cwV 1 hts tw_223 tw_128 tw_129 tw_22 tw_130 rfl rfl (by decide +kernel) ⟨Nat.le_of_ble_eq_true rfl, Nat.le_of_ble_eq_true rfl⟩) ⟨m_blind, va_recv hK (hP.one (e := .inr (2, [.ref (L 24 0), .int ((bb 1 0) 0), .ref (L 25 0), .int z_1.1])) (tw_mem (f := 1) (i := 0) (by decide) rfl)) (ci := 2) (q0 := 0) rfl rfl, fun U hU hW => ⟨rfl, m_pay hK hP hE (fun _ _ h => h) U hU hW⟩⟩ rfl rfl hl.1 rfl (lv_room (Nat.le_of_ble_eq_true rfl)) dX2_planWay_34 ⟨(Nat.le_of_ble_eq_true rfl), (Nat.le_of_ble_eq_true rfl)⟩) hS (fun q _ h => hFc q h) hFc (fun u r_3 t H1 locs ht hvm hpo hB hz1 hk1 hS => ?_)
        obtain ⟨f_4, hP1⟩ := hB
        subst f_4
        rw [ht] at hP1
        have hP : mw (dC, dI) vwCl A (TW cy L tr bb z_1 τ) H1 := hP.join (fun _ _ h => h) hk1 hFc hP1 (fun _ _ h => Or.inl h)
        generalize H1 = H at hP hS ⊢
        clear hP1 hk1 hFc
        refine lv_astore (lv' := [(6, .ref (L 2 (G_first bb nd to).toNatClampNeg)), (5, .int (G_first bb nd to)), (4, .int (nI k)), (3, .int nd), (0, .ref (L 1 0)), (1, .ref (L 15 v)), (2, .int fr)]) hx hb dX2_planWay_37 hl (by decide) rfl (fun ls hl => ?_)
        refine lv_aload hx hb dX2_planWay_39 (lv_at hl 0 rfl) ?_
        refine lv_ifnonnull (tgt := 46) hx hb dX2_planWay_41 (by decide) ?_
        refine lv_aload_n hx hb dX2_planWay_46 rfl (lv_at hl 5 rfl) ?_
        refine lv_iload hx hb dX2_planWay_47 (lv_at hl 1 rfl) ?_
        have hFc := m_free (C := (TW cy L tr bb z_1 τ)) hP hS hA (fun _ _ h => h)
        refine va_callv (va_runV (As := [.int (G_first bb nd to)]) (rest := []) ⟨hx, hb, hml, hown, hts⟩ (c_Vehicle_planOver l dC dI cy L tr bb z_1 τ v (G_first bb nd to) H.size hT hv (hwb.2.2.2.2 v hv).1.1) (tp_cwV 1 hts tw_224 tw_225 tw_226 tw_29 tw_227 rfl rfl (by decide +kernel) ⟨Nat.le_of_ble_eq_true rfl, Nat.le_of_ble_eq_true rfl⟩) ⟨m_blind, va_recv hK (hP.one (e := .inr (7, [.int ((bb 15 v) 0), .int ((bb 15 v) 1), .int ((bb 15 v) 2), .int ((bb 15 v) 3), .int ((bb 15 v) 4), .int ((bb 15 v) 5), .int ((bb 15 v) 6), .int ((bb 15 v) 7), .int ((bb 15 v) 8), .int ((bb 15 v) 9), .int ((bb 15 v) 10), .int ((bb 15 v) 11), .ref (L 16 v)])) (tw_mem (f := 15) (i := v) hv rfl)) (ci := 7) (q0 := 0) rfl rfl, fun U hU hW => ⟨rfl, m_pay hK hP hE (fun _ _ h => h) U hU hW⟩⟩ rfl rfl hl.1 rfl (lv_room (Nat.le_of_ble_eq_true rfl)) dX2_planWay_49 ⟨(Nat.le_of_ble_eq_true rfl), (Nat.le_of_ble_eq_true rfl)⟩) hS (fun q _ h => hFc q h) hFc (fun u t H1 locs ht hvm hpo hB hz1 hk1 hS => ?_)
        have hP1 := hB
        rw [ht] at hP1
        have hP : mw (dC, dI) vwCl A (TW cy L tr (V_plan bb v (G_first bb nd to)) z_1 τ) H1 := hP.join (fun _ _ h => h) hk1 hFc hP1 (fun _ _ h => Or.inl h)
        generalize H1 = H at hP hS ⊢
        clear hP1 hk1 hFc
        obtain ⟨b1, eb1⟩ : ∃ z : St, z = V_plan bb v (G_first bb nd to) := ⟨_, rfl⟩
        rw [← eb1] at hP
        refine lv_aload hx hb dX2_planWay_52 (lv_at hl 0 rfl) ?_
        refine va_getN (D := (dC, dI)) (ws := [(L 2 (G_first bb nd to).toNatClampNeg, .inr (1, [.int ((b1 2 ((G_first bb nd to).toNatClampNeg)) 0), .int ((b1 2 ((G_first bb nd to).toNatClampNeg)) 1), .int ((b1 2 ((G_first bb nd to).toNatClampNeg)) 2), .int ((b1 2 ((G_first bb nd to).toNatClampNeg)) 3), .int ((b1 2 ((G_first bb nd to).toNatClampNeg)) 4), .int ((b1 2 ((G_first bb nd to).toNatClampNeg)) 5), .int ((b1 2 ((G_first bb nd to).toNatClampNeg)) 6), .int ((b1 2 ((G_first bb nd to).toNatClampNeg)) 7), .int ((b1 2 ((G_first bb nd to).toNatClampNeg)) 8), .ref (L 3 ((G_first bb nd to).toNatClampNeg)), .ref (L 5 ((G_first bb nd to).toNatClampNeg)), .int ((b1 2 ((G_first bb nd to).toNatClampNeg)) 9), .int ((b1 2 ((G_first bb nd to).toNatClampNeg)) 10), .int ((b1 2 ((G_first bb nd to).toNatClampNeg)) 11), .int ((b1 2 ((G_first bb nd to).toNatClampNeg)) 12), .ref (L 7 ((G_first bb nd to).toNatClampNeg))]))]) (ci := 1) (v := .int ((b1 2 ((G_first bb nd to).toNatClampNeg)) 1)) (C := RX1) (T := TX1) (N := 16) hx hb hts tl_X1 hown hK (hP.one (tw_mem (f := 2) (i := (G_first bb nd to).toNatClampNeg) (m_lt (n := 24) (fun h => c_6 (Or.inl h)) (fun h => c_6 (Or.inr h)) hwb.1.1.2) rfl)) 0 rfl rfl 1 (by decide) (va_Nw.use rfl (te_f3 hE)) (fun _ h9 => h9) rfl dX2_planWay_54 ?_
        refine lv_istore_n (lv' := [(3, .int ((b1 2 ((G_first bb nd to).toNatClampNeg)) 1)), (6, .ref (L 2 (G_first bb nd to).toNatClampNeg)), (5, .int (G_first bb nd to)), (4, .int (nI k)), (0, .ref (L 1 0)), (1, .ref (L 15 v)), (2, .int fr)]) hx hb dX2_planWay_57 rfl hl (by decide) rfl (fun ls hl => ?_)
        refine lv_iinc (v := nI (k + 1)) (lv' := [(4, .int (nI (k + 1))), (3, .int ((b1 2 ((G_first bb nd to).toNatClampNeg)) 1)), (6, .ref (L 2 (G_first bb nd to).toNatClampNeg)), (5, .int (G_first bb nd to)), (0, .ref (L 1 0)), (1, .ref (L 15 v)), (2, .int fr)]) hx hb dX2_planWay_58 hl (k := 3) rfl (nI_1 k) (by decide) rfl (fun ls hl => ?_)
        refine lv_goto (tgt := 5) hx hb dX2_planWay_61 (by decide) ?_
        exact ih (k + 1) (by omega) (b1 2 (G_first bb nd to).toNatClampNeg 1) b1 z_1 (by rw [← hq]; show _ = (if nd = to then (bb, 1) else if G_no bb (G_first bb nd to) then (bb, 0) else _); rw [if_neg c_4, if_neg c_6, eb1]) (by rw [eb1]; exact V_plan_Wf hv hwb) (by rw [eb1, V_plan_15 (by decide)]; exact htb) (by rw [eb1, V_plan_off (by decide) (by decide)]; exact (hwb.2.1 _ (m_lt (n := 24) (fun h => c_6 (Or.inl h)) (fun h => c_6 (Or.inr h)) hwb.1.1.2)).2.1) (by rw [eb1]; exact CV.same (sameR.of (by funext j; rw [V_plan_off (by decide) (by decide)]) (by funext j; rw [V_plan_off (by decide) (by decide)])) (in_le hwb.1.1) f_2) ls (lv_sub hl [0, 1, 4, 5, 6] rfl) H locs hP hS

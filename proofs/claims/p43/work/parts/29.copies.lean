theorem tw_471 : Cond.code yX1_copyFrom cX1_copyFrom 2 none ∈ tp_all := tp_mem 471 (by decide +kernel) rfl
theorem tw_468 : Cond.methodLink RX2 97 yX1_copyFrom ∈ tp_all := tp_mem 468 (by decide +kernel) rfl
theorem tw_469 : Cond.instanceMethod yX1_copyFrom ∈ tp_all := tp_mem 469 (by decide +kernel) rfl
theorem tw_470 : Cond.selects RX1 yX1_copyFrom yX1_copyFrom ∈ tp_all := tp_mem 470 (by decide +kernel) rfl
theorem tw_467 : Cond.code yX2_copyFrom cX2_copyFrom 3 none ∈ tp_all := tp_mem 467 (by decide +kernel) rfl
theorem tw_464 : Cond.methodLink RX5 255 yX2_copyFrom ∈ tp_all := tp_mem 464 (by decide +kernel) rfl
theorem tw_465 : Cond.instanceMethod yX2_copyFrom ∈ tp_all := tp_mem 465 (by decide +kernel) rfl
theorem tw_466 : Cond.selects RX2 yX2_copyFrom yX2_copyFrom ∈ tp_all := tp_mem 466 (by decide +kernel) rfl
theorem tw_490 : Cond.code yX7_copyFrom cX7_copyFrom 2 none ∈ tp_all := tp_mem 490 (by decide +kernel) rfl
theorem tw_487 : Cond.methodLink RX5 278 yX7_copyFrom ∈ tp_all := tp_mem 487 (by decide +kernel) rfl
theorem tw_488 : Cond.instanceMethod yX7_copyFrom ∈ tp_all := tp_mem 488 (by decide +kernel) rfl
theorem tw_489 : Cond.selects RX7 yX7_copyFrom yX7_copyFrom ∈ tp_all := tp_mem 489 (by decide +kernel) rfl
theorem tw_486 : Cond.code yX0_tell cX0_tell 7 none ∈ tp_all := tp_mem 486 (by decide +kernel) rfl
theorem tw_483 : Cond.methodLink RX5 274 yX0_tell ∈ tp_all := tp_mem 483 (by decide +kernel) rfl
theorem tw_484 : Cond.instanceMethod yX0_tell ∈ tp_all := tp_mem 484 (by decide +kernel) rfl
theorem tw_485 : Cond.selects RX0 yX0_tell yX0_tell ∈ tp_all := tp_mem 485 (by decide +kernel) rfl
theorem tw_480 : Cond.code yX4_copyFrom cX4_copyFrom 2 none ∈ tp_all := tp_mem 480 (by decide +kernel) rfl
theorem tw_477 : Cond.methodLink RX5 259 yX4_copyFrom ∈ tp_all := tp_mem 477 (by decide +kernel) rfl
theorem tw_478 : Cond.instanceMethod yX4_copyFrom ∈ tp_all := tp_mem 478 (by decide +kernel) rfl
theorem tw_479 : Cond.selects RX4 yX4_copyFrom yX4_copyFrom ∈ tp_all := tp_mem 479 (by decide +kernel) rfl
theorem tw_482 : Cond.methodLink RX5 262 yX3_copyFrom ∈ tp_all := tp_mem 482 (by decide +kernel) rfl
theorem te_f34 {U : State} (h : tp_E U) : va_Nw (.fieldLinkNest "Turnpike$Traffic" 265 "Turnpike$Flow" "start" "I" "Turnpike") U := h.1 _ (List.mem_of_getElem? (i := 34) rfl)
theorem te_f35 {U : State} (h : tp_E U) : va_Nw (.fieldLinkNest "Turnpike$Traffic" 268 "Turnpike$Flow" "period" "I" "Turnpike") U := h.1 _ (List.mem_of_getElem? (i := 35) rfl)
theorem te_f36 {U : State} (h : tp_E U) : va_Nw (.fieldLinkNest "Turnpike$Traffic" 271 "Turnpike$Flow" "most" "I" "Turnpike") U := h.1 _ (List.mem_of_getElem? (i := 36) rfl)
theorem dX2_copyFrom_0 : decode cX2_copyFrom 0 = .ok (.aload_n 0, 1) := by decide +kernel
theorem dX2_copyFrom_1 : decode cX2_copyFrom 1 = .ok (.aload_n 1, 1) := by decide +kernel
theorem dX2_copyFrom_2 : decode cX2_copyFrom 2 = .ok (.getfield 23, 3) := by decide +kernel
theorem dX2_copyFrom_5 : decode cX2_copyFrom 5 = .ok (.putfield 23, 3) := by decide +kernel
theorem dX2_copyFrom_8 : decode cX2_copyFrom 8 = .ok (.iconst 0, 1) := by decide +kernel
theorem dX2_copyFrom_9 : decode cX2_copyFrom 9 = .ok (.istore_n 2, 1) := by decide +kernel
theorem dX2_copyFrom_10 : decode cX2_copyFrom 10 = .ok (.iload_n 2, 1) := by decide +kernel
theorem dX2_copyFrom_11 : decode cX2_copyFrom 11 = .ok (.aload_n 0, 1) := by decide +kernel
theorem dX2_copyFrom_12 : decode cX2_copyFrom 12 = .ok (.getfield 23, 3) := by decide +kernel
theorem dX2_copyFrom_15 : decode cX2_copyFrom 15 = .ok (.if_icmp .ge 24, 3) := by decide +kernel
theorem dX2_copyFrom_39 : decode cX2_copyFrom 39 = .ok (.aload_n 0, 1) := by decide +kernel
theorem dX2_copyFrom_40 : decode cX2_copyFrom 40 = .ok (.invokevirtual 48, 3) := by decide +kernel
theorem dX2_copyFrom_43 : decode cX2_copyFrom 43 = .ok (.return_, 1) := by decide +kernel
theorem dX2_copyFrom_18 : decode cX2_copyFrom 18 = .ok (.aload_n 0, 1) := by decide +kernel
theorem dX2_copyFrom_19 : decode cX2_copyFrom 19 = .ok (.getfield 11, 3) := by decide +kernel
theorem dX2_copyFrom_22 : decode cX2_copyFrom 22 = .ok (.iload_n 2, 1) := by decide +kernel
theorem dX2_copyFrom_23 : decode cX2_copyFrom 23 = .ok (.aaload, 1) := by decide +kernel
theorem dX2_copyFrom_24 : decode cX2_copyFrom 24 = .ok (.aload_n 1, 1) := by decide +kernel
theorem dX2_copyFrom_25 : decode cX2_copyFrom 25 = .ok (.getfield 11, 3) := by decide +kernel
theorem dX2_copyFrom_28 : decode cX2_copyFrom 28 = .ok (.iload_n 2, 1) := by decide +kernel
theorem dX2_copyFrom_29 : decode cX2_copyFrom 29 = .ok (.aaload, 1) := by decide +kernel
theorem dX2_copyFrom_30 : decode cX2_copyFrom 30 = .ok (.invokevirtual 97, 3) := by decide +kernel
theorem dX2_copyFrom_33 : decode cX2_copyFrom 33 = .ok (.iinc 2 1, 3) := by decide +kernel
theorem dX2_copyFrom_36 : decode cX2_copyFrom 36 = .ok (.goto (-26), 3) := by decide +kernel
theorem dX5_copyFrom_0 : decode cX5_copyFrom 0 = .ok (.aload_n 0, 1) := by decide +kernel
theorem dX5_copyFrom_1 : decode cX5_copyFrom 1 = .ok (.aload_n 1, 1) := by decide +kernel
theorem dX5_copyFrom_2 : decode cX5_copyFrom 2 = .ok (.getfield 65, 3) := by decide +kernel
theorem dX5_copyFrom_5 : decode cX5_copyFrom 5 = .ok (.putfield 65, 3) := by decide +kernel
theorem dX5_copyFrom_8 : decode cX5_copyFrom 8 = .ok (.aload_n 0, 1) := by decide +kernel
theorem dX5_copyFrom_9 : decode cX5_copyFrom 9 = .ok (.aload_n 1, 1) := by decide +kernel
theorem dX5_copyFrom_10 : decode cX5_copyFrom 10 = .ok (.getfield 42, 3) := by decide +kernel
theorem dX5_copyFrom_13 : decode cX5_copyFrom 13 = .ok (.putfield 42, 3) := by decide +kernel
theorem dX5_copyFrom_16 : decode cX5_copyFrom 16 = .ok (.aload_n 0, 1) := by decide +kernel
theorem dX5_copyFrom_17 : decode cX5_copyFrom 17 = .ok (.aload_n 1, 1) := by decide +kernel
theorem dX5_copyFrom_18 : decode cX5_copyFrom 18 = .ok (.getfield 128, 3) := by decide +kernel
theorem dX5_copyFrom_21 : decode cX5_copyFrom 21 = .ok (.putfield 128, 3) := by decide +kernel
theorem dX5_copyFrom_24 : decode cX5_copyFrom 24 = .ok (.aload_n 0, 1) := by decide +kernel
theorem dX5_copyFrom_25 : decode cX5_copyFrom 25 = .ok (.aload_n 1, 1) := by decide +kernel
theorem dX5_copyFrom_26 : decode cX5_copyFrom 26 = .ok (.getfield 86, 3) := by decide +kernel
theorem dX5_copyFrom_29 : decode cX5_copyFrom 29 = .ok (.putfield 86, 3) := by decide +kernel
theorem dX5_copyFrom_32 : decode cX5_copyFrom 32 = .ok (.aload_n 0, 1) := by decide +kernel
theorem dX5_copyFrom_33 : decode cX5_copyFrom 33 = .ok (.aload_n 1, 1) := by decide +kernel
theorem dX5_copyFrom_34 : decode cX5_copyFrom 34 = .ok (.getfield 59, 3) := by decide +kernel
theorem dX5_copyFrom_37 : decode cX5_copyFrom 37 = .ok (.putfield 59, 3) := by decide +kernel
theorem dX5_copyFrom_40 : decode cX5_copyFrom 40 = .ok (.aload_n 0, 1) := by decide +kernel
theorem dX5_copyFrom_41 : decode cX5_copyFrom 41 = .ok (.aload_n 1, 1) := by decide +kernel
theorem dX5_copyFrom_42 : decode cX5_copyFrom 42 = .ok (.getfield 125, 3) := by decide +kernel
theorem dX5_copyFrom_45 : decode cX5_copyFrom 45 = .ok (.putfield 125, 3) := by decide +kernel
theorem dX5_copyFrom_48 : decode cX5_copyFrom 48 = .ok (.aload_n 0, 1) := by decide +kernel
theorem dX5_copyFrom_49 : decode cX5_copyFrom 49 = .ok (.getfield 12, 3) := by decide +kernel
theorem dX5_copyFrom_52 : decode cX5_copyFrom 52 = .ok (.aload_n 1, 1) := by decide +kernel
theorem dX5_copyFrom_53 : decode cX5_copyFrom 53 = .ok (.getfield 12, 3) := by decide +kernel
theorem dX5_copyFrom_56 : decode cX5_copyFrom 56 = .ok (.invokevirtual 255, 3) := by decide +kernel
theorem dX5_copyFrom_59 : decode cX5_copyFrom 59 = .ok (.iconst 0, 1) := by decide +kernel
theorem dX5_copyFrom_60 : decode cX5_copyFrom 60 = .ok (.istore_n 2, 1) := by decide +kernel
theorem dX5_copyFrom_61 : decode cX5_copyFrom 61 = .ok (.iload_n 2, 1) := by decide +kernel
theorem dX5_copyFrom_62 : decode cX5_copyFrom 62 = .ok (.aload_n 0, 1) := by decide +kernel
theorem dX5_copyFrom_63 : decode cX5_copyFrom 63 = .ok (.getfield 128, 3) := by decide +kernel
theorem dX5_copyFrom_66 : decode cX5_copyFrom 66 = .ok (.if_icmp .ge 39, 3) := by decide +kernel
theorem dX5_copyFrom_105 : decode cX5_copyFrom 105 = .ok (.iconst 0, 1) := by decide +kernel
theorem dX5_copyFrom_106 : decode cX5_copyFrom 106 = .ok (.istore_n 2, 1) := by decide +kernel
theorem dX5_copyFrom_107 : decode cX5_copyFrom 107 = .ok (.iload_n 2, 1) := by decide +kernel
theorem dX5_copyFrom_108 : decode cX5_copyFrom 108 = .ok (.aload_n 0, 1) := by decide +kernel
theorem dX5_copyFrom_109 : decode cX5_copyFrom 109 = .ok (.getfield 86, 3) := by decide +kernel
theorem dX5_copyFrom_112 : decode cX5_copyFrom 112 = .ok (.if_icmp .ge 49, 3) := by decide +kernel
theorem dX5_copyFrom_161 : decode cX5_copyFrom 161 = .ok (.iconst 0, 1) := by decide +kernel
theorem dX5_copyFrom_162 : decode cX5_copyFrom 162 = .ok (.istore_n 2, 1) := by decide +kernel
theorem dX5_copyFrom_163 : decode cX5_copyFrom 163 = .ok (.iload_n 2, 1) := by decide +kernel
theorem dX5_copyFrom_164 : decode cX5_copyFrom 164 = .ok (.aload_n 0, 1) := by decide +kernel
theorem dX5_copyFrom_165 : decode cX5_copyFrom 165 = .ok (.getfield 59, 3) := by decide +kernel
theorem dX5_copyFrom_168 : decode cX5_copyFrom 168 = .ok (.if_icmp .ge 24, 3) := by decide +kernel
theorem dX5_copyFrom_192 : decode cX5_copyFrom 192 = .ok (.return_, 1) := by decide +kernel
theorem dX5_copyFrom_171 : decode cX5_copyFrom 171 = .ok (.aload_n 0, 1) := by decide +kernel
theorem dX5_copyFrom_172 : decode cX5_copyFrom 172 = .ok (.getfield 38, 3) := by decide +kernel
theorem dX5_copyFrom_175 : decode cX5_copyFrom 175 = .ok (.iload_n 2, 1) := by decide +kernel
theorem dX5_copyFrom_176 : decode cX5_copyFrom 176 = .ok (.aaload, 1) := by decide +kernel
theorem dX5_copyFrom_177 : decode cX5_copyFrom 177 = .ok (.aload_n 1, 1) := by decide +kernel
theorem dX5_copyFrom_178 : decode cX5_copyFrom 178 = .ok (.getfield 38, 3) := by decide +kernel
theorem dX5_copyFrom_181 : decode cX5_copyFrom 181 = .ok (.iload_n 2, 1) := by decide +kernel
theorem dX5_copyFrom_182 : decode cX5_copyFrom 182 = .ok (.aaload, 1) := by decide +kernel
theorem dX5_copyFrom_183 : decode cX5_copyFrom 183 = .ok (.invokevirtual 278, 3) := by decide +kernel
theorem dX5_copyFrom_186 : decode cX5_copyFrom 186 = .ok (.iinc 2 1, 3) := by decide +kernel
theorem dX5_copyFrom_189 : decode cX5_copyFrom 189 = .ok (.goto (-26), 3) := by decide +kernel
theorem dX5_copyFrom_115 : decode cX5_copyFrom 115 = .ok (.aload_n 1, 1) := by decide +kernel
theorem dX5_copyFrom_116 : decode cX5_copyFrom 116 = .ok (.getfield 32, 3) := by decide +kernel
theorem dX5_copyFrom_119 : decode cX5_copyFrom 119 = .ok (.iload_n 2, 1) := by decide +kernel
theorem dX5_copyFrom_120 : decode cX5_copyFrom 120 = .ok (.aaload, 1) := by decide +kernel
theorem dX5_copyFrom_121 : decode cX5_copyFrom 121 = .ok (.astore_n 3, 1) := by decide +kernel
theorem dX5_copyFrom_122 : decode cX5_copyFrom 122 = .ok (.aload_n 0, 1) := by decide +kernel
theorem dX5_copyFrom_123 : decode cX5_copyFrom 123 = .ok (.getfield 32, 3) := by decide +kernel
theorem dX5_copyFrom_126 : decode cX5_copyFrom 126 = .ok (.iload_n 2, 1) := by decide +kernel
theorem dX5_copyFrom_127 : decode cX5_copyFrom 127 = .ok (.aaload, 1) := by decide +kernel
theorem dX5_copyFrom_128 : decode cX5_copyFrom 128 = .ok (.aload_n 3, 1) := by decide +kernel
theorem dX5_copyFrom_129 : decode cX5_copyFrom 129 = .ok (.getfield 109, 3) := by decide +kernel
theorem dX5_copyFrom_132 : decode cX5_copyFrom 132 = .ok (.aload_n 3, 1) := by decide +kernel
theorem dX5_copyFrom_133 : decode cX5_copyFrom 133 = .ok (.getfield 96, 3) := by decide +kernel
theorem dX5_copyFrom_136 : decode cX5_copyFrom 136 = .ok (.aload_n 3, 1) := by decide +kernel
theorem dX5_copyFrom_137 : decode cX5_copyFrom 137 = .ok (.getfield 99, 3) := by decide +kernel
theorem dX5_copyFrom_140 : decode cX5_copyFrom 140 = .ok (.aload_n 3, 1) := by decide +kernel
theorem dX5_copyFrom_141 : decode cX5_copyFrom 141 = .ok (.getfield 265, 3) := by decide +kernel
theorem dX5_copyFrom_144 : decode cX5_copyFrom 144 = .ok (.aload_n 3, 1) := by decide +kernel
theorem dX5_copyFrom_145 : decode cX5_copyFrom 145 = .ok (.getfield 268, 3) := by decide +kernel
theorem dX5_copyFrom_148 : decode cX5_copyFrom 148 = .ok (.aload_n 3, 1) := by decide +kernel
theorem dX5_copyFrom_149 : decode cX5_copyFrom 149 = .ok (.getfield 271, 3) := by decide +kernel
theorem dX5_copyFrom_152 : decode cX5_copyFrom 152 = .ok (.invokevirtual 274, 3) := by decide +kernel
theorem dX5_copyFrom_155 : decode cX5_copyFrom 155 = .ok (.iinc 2 1, 3) := by decide +kernel
theorem dX5_copyFrom_158 : decode cX5_copyFrom 158 = .ok (.goto (-51), 3) := by decide +kernel
theorem dX5_copyFrom_69 : decode cX5_copyFrom 69 = .ok (.aload_n 0, 1) := by decide +kernel
theorem dX5_copyFrom_70 : decode cX5_copyFrom 70 = .ok (.getfield 20, 3) := by decide +kernel
theorem dX5_copyFrom_73 : decode cX5_copyFrom 73 = .ok (.iload_n 2, 1) := by decide +kernel
theorem dX5_copyFrom_74 : decode cX5_copyFrom 74 = .ok (.aaload, 1) := by decide +kernel
theorem dX5_copyFrom_75 : decode cX5_copyFrom 75 = .ok (.aload_n 1, 1) := by decide +kernel
theorem dX5_copyFrom_76 : decode cX5_copyFrom 76 = .ok (.getfield 20, 3) := by decide +kernel
theorem dX5_copyFrom_79 : decode cX5_copyFrom 79 = .ok (.iload_n 2, 1) := by decide +kernel
theorem dX5_copyFrom_80 : decode cX5_copyFrom 80 = .ok (.aaload, 1) := by decide +kernel
theorem dX5_copyFrom_81 : decode cX5_copyFrom 81 = .ok (.invokevirtual 259, 3) := by decide +kernel
theorem dX5_copyFrom_84 : decode cX5_copyFrom 84 = .ok (.aload_n 0, 1) := by decide +kernel
theorem dX5_copyFrom_85 : decode cX5_copyFrom 85 = .ok (.getfield 26, 3) := by decide +kernel
theorem dX5_copyFrom_88 : decode cX5_copyFrom 88 = .ok (.iload_n 2, 1) := by decide +kernel
theorem dX5_copyFrom_89 : decode cX5_copyFrom 89 = .ok (.aaload, 1) := by decide +kernel
theorem dX5_copyFrom_90 : decode cX5_copyFrom 90 = .ok (.aload_n 1, 1) := by decide +kernel
theorem dX5_copyFrom_91 : decode cX5_copyFrom 91 = .ok (.getfield 26, 3) := by decide +kernel
theorem dX5_copyFrom_94 : decode cX5_copyFrom 94 = .ok (.iload_n 2, 1) := by decide +kernel
theorem dX5_copyFrom_95 : decode cX5_copyFrom 95 = .ok (.aaload, 1) := by decide +kernel
theorem dX5_copyFrom_96 : decode cX5_copyFrom 96 = .ok (.invokevirtual 262, 3) := by decide +kernel
theorem dX5_copyFrom_99 : decode cX5_copyFrom 99 = .ok (.iinc 2 1, 3) := by decide +kernel
theorem dX5_copyFrom_102 : decode cX5_copyFrom 102 = .ok (.goto (-41), 3) := by decide +kernel
set_option maxRecDepth 100000 in
set_option maxHeartbeats 4000000 in
/-- Roads.copyFrom -/
theorem c_Roads_copyFrom (l : Launch) (dC : Nat → ClassId) (dI : Nat → Nat → Nat) (cy : Nat → ClassId) (L : Lay) (b : St) (κ : Kap) (τ : Tau) (K : Lay) (sr : Option Nat) (a : St) (μ : Kap) (ν : Tau) (M : Nat) (sz : Nat) (hT : TL L none τ) (hT2 : TL K sr ν) (hAP : AP L K sr ν) (hw : Wf M a) (hsh : ∀ i, i < 24 → a 2 i 7 = 0 ∨ a 2 i 7 = 1) : Met l yX2_copyFrom (tp_w yX2_copyFrom cX2_copyFrom 3 none) ({ frames := 3, cells := 0, slots := 0, locals := 60 }) (va_Pc [.ref (L 1 0), .ref (K 1 0)] (mPre dC dI cy (fun q e => TW cy L none b κ τ q e ∨ TW cy K sr a μ ν q e) sz)) (va_Qv (fun _ : Unit => True) (fun (_ : Unit) (t : State) => mw (dC, dI) vwCl (mA (fun q e => TW cy L none b κ τ q e ∨ TW cy K sr a μ ν q e) sz) (fun q e => TW cy L none (G_copy b a) ((0, κ.2)) τ q e ∨ TW cy K sr a μ ν q e) t.heap) (mA (fun q e => TW cy L none b κ τ q e ∨ TW cy K sr a μ ν q e) sz)) (0) (0) (mA (fun q e => TW cy L none b κ τ q e ∨ TW cy K sr a μ ν q e) sz) := by
  refine Met.ofW (cc := cX2_copyFrom) (maxL := 3) (ret := none) (by decide) rfl ?_
  intro p e s m args below meth c s₁ B hml hv
  obtain ⟨rfl, hsz, hP, hK, hE⟩ := hv
  have hx := B.exec
  have hb := B.bytes
  have hr := B.returns
  have hts0 := atoms_spec (ws := tp_w yX2_copyFrom cX2_copyFrom 3 none) B.pre
  have hts : ∀ w ∈ tp_all, w.before _ s = true := fun w h => hts0 w (List.mem_cons_of_mem _ h)
  have hown : s.vm.findClass RX2 = some m.cls := findClass_of_methodNamed B.named
  have hlocks := B.notSynchronized
  subst hsz
  have hP := hP.self s.heap.size
  generalize hAe : mA (fun q e => TW cy L none b κ τ q e ∨ TW cy K sr a μ ν q e) s.heap.size = A at hP ⊢
  have hA : ∀ q : Nat, s.heap.size ≤ q → A q := fun q h => by rw [← hAe]; exact Or.inr h
  have hS : va_S A s.heap s.heap [] := va_S.rf
  have hl9 := lv_entry ([.ref (L 1 0), .ref (K 1 0)]) (n := 3) (Nat.le_of_ble_eq_true rfl)
  rw [lg_entry_eq]
  generalize (lg_sl ([.ref (L 1 0), .ref (K 1 0)]) ++ List.replicate (3 - (lg_sl ([.ref (L 1 0), .ref (K 1 0)])).length) Slot.unset).toArray = ls at hl9 ⊢
  have hl : lv_has ls 3 [(0, .ref (L 1 0)), (1, .ref (K 1 0))] := hl9
  refine lv_aload_n hx hb dX2_copyFrom_0 rfl (lv_at hl 0 rfl) ?_
  refine lv_aload_n hx hb dX2_copyFrom_1 rfl (lv_at hl 1 rfl) ?_
  refine va_get (D := (dC, dI)) (ws := [(K 1 0, .inr (2, [.ref (K 24 0), .int ((a 1 0) 0), .ref (K 25 0), .int μ.1]))]) (ci := 2) (v := .int ((a 1 0) 0)) (C := RX2) (T := TX2) (N := 4) hx hb hts tl_X2 hown hK (hP.one (Or.inr (tw_mem (f := 1) (i := 0) (by decide) rfl))) 0 rfl rfl 1 (by decide) (hts _ tw_697) (fun _ h9 => h9) rfl dX2_copyFrom_2 ?_
  obtain ⟨ws9, k9, hPw, hDw, hk9, -, hbk⟩ := hP.cut (e := .inr (2, [.ref (L 24 0), .int ((b 1 0) 0), .ref (L 25 0), .int κ.1])) (Or.inl (tw_mem (f := 1) (i := 0) (by decide) rfl))
  refine va_put (D := (dC, dI)) (ci := 2) (v := .int ((a 1 0) 0)) (ty := .int) (C := RX2) (T := TX2) (N := 4) hx hb hts tl_X2 tyX2 tyX2_ok nmX2 hown hK hPw hDw hS k9 hk9 rfl 1 (by decide) (hts _ tw_697) (fun _ h9 => h9) rfl (by decide +kernel) rfl rfl (Nat.le_of_ble_eq_true rfl) dX2_copyFrom_5 (fun H locs hPw hDw hS => ?_)
  have hP : mw (dC, dI) vwCl A (fun q e => TW cy L none (S2 b 1 0 (upd (b 1 0) 0 ((a 1 0) 0))) κ τ q e ∨ TW cy K sr a μ ν q e) H := (hbk _ _ hPw hDw).sub (mset_l (tw_set1 (b := S2 b 1 0 (upd (b 1 0) 0 ((a 1 0) 0))) (x := upd (b 1 0) 0 ((a 1 0) 0)) (r := κ.1) hT rfl rfl) (fun q e h => ap_off hAP (by decide) h))
  clear hbk hPw hDw hk9
  refine lv_iconst (v := 0) hx hb dX2_copyFrom_8 (by decide) ?_
  refine lv_istore_n (lv' := [(2, .int 0), (0, .ref (L 1 0)), (1, .ref (K 1 0))]) hx hb dX2_copyFrom_9 rfl hl (by decide) rfl (fun ls hl => ?_)
  obtain ⟨b1, eb1⟩ : ∃ z : St, z = S2 b 1 0 (upd (b 1 0) 0 ((a 1 0) 0)) := ⟨_, rfl⟩
  rw [← eb1] at hP
  have hN : nL a ≤ 24 := in_le hw.1.1
  refine W.widen (k := (fun i => 0 + 0 * i) 0) (n := (fun i => 0 + 0 * i) 0) (Nat.le_refl _) (Nat.le_refl _) ?_
  refine tp_for (σ := Unit) (nL a) (fun i => 0 + 0 * i) (fun i => 0 + 0 * i) (fun (i : Nat) (x : Unit) (H : Heap) (locs : List Loc) (ls : Array Slot) => mw (dC, dI) vwCl A (fun q e => TW cy L none (itN (fun i c => L_copy c a i) i b1) κ τ q e ∨ TW cy K sr a μ ν q e) H ∧ va_S A s.heap H locs ∧ lv_has ls 3 [(2, .int (nI i)), (0, .ref (L 1 0)), (1, .ref (K 1 0))]) ?_ ?_ (nL a) 0 (Nat.zero_add _) (()) _ _ ls ⟨hP, hS, lv_sub hl [0, 1, 2] rfl⟩
  · rintro _ H locs ls ⟨hP, hS, hl⟩
    have hl : lv_has ls 3 [(2, .int (nI (nL a))), (0, .ref (L 1 0)), (1, .ref (K 1 0))] := hl
    obtain ⟨b2, eb2⟩ : ∃ z : St, z = itN (fun i c => L_copy c a i) (nL a) b1 := ⟨_, rfl⟩
    rw [← eb2] at hP
    have h1b2 : b2 1 0 0 = a 1 0 0 := by rw [eb2]; exact itN_keep (P := fun c => c 1 0 0 = a 1 0 0) (by rw [eb1, S2_eq]; exact upd_eq) (fun i c h => by rw [L_copy_off (by decide) (by decide) (by decide) (by decide) (by decide)]; exact h) _
    refine lv_iload_n hx hb dX2_copyFrom_10 rfl (lv_at hl 0 rfl) ?_
    refine lv_aload_n hx hb dX2_copyFrom_11 rfl (lv_at hl 1 rfl) ?_
    refine va_get (D := (dC, dI)) (ws := [(L 1 0, .inr (2, [.ref (L 24 0), .int ((b2 1 0) 0), .ref (L 25 0), .int κ.1]))]) (ci := 2) (v := .int ((b2 1 0) 0)) (C := RX2) (T := TX2) (N := 4) hx hb hts tl_X2 hown hK (hP.one (Or.inl (tw_mem (f := 1) (i := 0) (by decide) rfl))) 0 rfl rfl 1 (by decide) (hts _ tw_697) (fun _ h9 => h9) rfl dX2_copyFrom_12 ?_
    refine W.eq (g2 := F0 m 15 ls [.int (nI (nL a)), .int (nI (nL a))]) (by rw [h1b2, in_nI hw.1.1]) ?_
    refine lv_icmp_ge (tgt := 39) hx hb dX2_copyFrom_15 (by decide) (fun _ => ?_) (fun c_1 => absurd (Int32.le_refl _) c_1)
    refine lv_aload_n hx hb dX2_copyFrom_39 rfl (lv_at hl 1 rfl) ?_
    have hFc := m_free (C := (TW cy L none b2 κ τ)) hP hS hA (fun _ _ h => Or.inl h)
    refine va_callv (va_runV (As := []) (rest := []) ⟨hx, hb, hml, hown, hts⟩ (c_Roads_forgetWays l dC dI cy L none b2 κ τ H.size hT) (tp_cwV 0 hts tw_190 tw_148 tw_149 tw_22 tw_150 rfl rfl (by decide +kernel) ⟨Nat.le_of_ble_eq_true rfl, Nat.le_of_ble_eq_true rfl⟩) ⟨m_blind, va_recv hK (hP.one (e := .inr (2, [.ref (L 24 0), .int ((b2 1 0) 0), .ref (L 25 0), .int κ.1])) (Or.inl (tw_mem (f := 1) (i := 0) (by decide) rfl))) (ci := 2) (q0 := 0) rfl rfl, fun U hU hW => ⟨rfl, m_pay hK hP hE (fun _ _ h => Or.inl h) U hU hW⟩⟩ rfl rfl hl.1 rfl (lv_room (Nat.le_of_ble_eq_true rfl)) dX2_copyFrom_40 ⟨(by show 0 + 0 * (nL a) + 0 ≤ 0; omega), (by show 0 + 0 * (nL a) + 0 ≤ 0; omega)⟩) hS (fun q _ h => hFc q h) hFc (fun u t H1 locs ht hvm hpo hB hz1 hk1 hS => ?_)
    have hP1 := hB
    rw [ht] at hP1
    have hP : mw (dC, dI) vwCl A (fun q e => TW cy L none b2 ((0, κ.2)) τ q e ∨ TW cy K sr a μ ν q e) H1 := hP.join (fun _ _ h => Or.inl h) hk1 hFc hP1 (fun q e h => h.elim Or.inl (fun h => Or.inr ⟨Or.inr h, fun y hy => ap_dis hAP h hy⟩))
    generalize H1 = H at hP hS ⊢
    clear hP1 hk1 hFc
    refine W.widen (k := 0) (n := 0) (by show 0 + 0 * (nL a) + 0 + 0 ≤ 0; omega) (by show 0 + 0 * (nL a) + 0 + 0 ≤ 0; omega) ?_
    have s_1 : b2 = G_copy b a := by
      rw [eb2, eb1]
      rfl
    rw [s_1] at hP
    exact W.vret hx hb hr (fun t ht hW => ⟨⟨(), rfl, trivial, (by show mw _ _ _ _ t.heap; rw [ht]; exact hP)⟩, hS.F ht⟩) hS.2.2 dX2_copyFrom_43
  · rintro i _ H locs ls hi ⟨hP, hS, hl⟩ ih
    have hl : lv_has ls 3 [(2, .int (nI i)), (0, .ref (L 1 0)), (1, .ref (K 1 0))] := hl
    obtain ⟨b2, eb2⟩ : ∃ z : St, z = itN (fun i c => L_copy c a i) i b1 := ⟨_, rfl⟩
    rw [← eb2] at hP
    have h1b2 : b2 1 0 0 = a 1 0 0 := by rw [eb2]; exact itN_keep (P := fun c => c 1 0 0 = a 1 0 0) (by rw [eb1, S2_eq]; exact upd_eq) (fun i c h => by rw [L_copy_off (by decide) (by decide) (by decide) (by decide) (by decide)]; exact h) _
    refine lv_iload_n hx hb dX2_copyFrom_10 rfl (lv_at hl 0 rfl) ?_
    refine lv_aload_n hx hb dX2_copyFrom_11 rfl (lv_at hl 1 rfl) ?_
    refine va_get (D := (dC, dI)) (ws := [(L 1 0, .inr (2, [.ref (L 24 0), .int ((b2 1 0) 0), .ref (L 25 0), .int κ.1]))]) (ci := 2) (v := .int ((b2 1 0) 0)) (C := RX2) (T := TX2) (N := 4) hx hb hts tl_X2 hown hK (hP.one (Or.inl (tw_mem (f := 1) (i := 0) (by decide) rfl))) 0 rfl rfl 1 (by decide) (hts _ tw_697) (fun _ h9 => h9) rfl dX2_copyFrom_12 ?_
    refine W.eq (g2 := F0 m 15 ls [.int (nI (nL a)), .int (nI i)]) (by rw [h1b2, in_nI hw.1.1]) ?_
    refine lv_icmp_ge (tgt := 39) hx hb dX2_copyFrom_15 (by decide) (fun c_2 => absurd c_2 (nI_ge hi (by omega))) (fun _ => ?_)
    refine lv_aload_n hx hb dX2_copyFrom_18 rfl (lv_at hl 1 rfl) ?_
    refine va_get (D := (dC, dI)) (ws := [(L 1 0, .inr (2, [.ref (L 24 0), .int ((b2 1 0) 0), .ref (L 25 0), .int κ.1]))]) (ci := 2) (v := .ref (L 24 0)) (C := RX2) (T := TX2) (N := 4) hx hb hts tl_X2 hown hK (hP.one (Or.inl (tw_mem (f := 1) (i := 0) (by decide) rfl))) 0 rfl rfl 0 (by decide) (hts _ tw_695) (fun _ h9 => h9) rfl dX2_copyFrom_19 ?_
    refine lv_iload_n hx hb dX2_copyFrom_22 rfl (lv_at hl 0 rfl) ?_
    have j_1 : (nI i : Int32).toNatClampNeg = i := m_cl rfl (Nat.lt_of_lt_of_le hi hN) (by decide)
    refine va_aldq hx hb hK (ws := [(L 24 0, .inl (cy 3, 24, .inr (.inr (.inr (.inr (fun j => some (L 2 j)))))))]) (hP.one (Or.inl (tw_mem (f := 24) (i := 0) (by decide) rfl))) 0 3 rfl rfl (m_in rfl (Nat.lt_of_lt_of_le hi hN) (by decide)) dX2_copyFrom_23 ?_
    refine W.eq (g2 := F0 m 24 ls [.ref (L 2 i)]) (by first | (rw [j_1]; done) | (rw [j_1]; rfl)) ?_
    refine lv_aload_n hx hb dX2_copyFrom_24 rfl (lv_at hl 2 rfl) ?_
    refine va_get (D := (dC, dI)) (ws := [(K 1 0, .inr (2, [.ref (K 24 0), .int ((a 1 0) 0), .ref (K 25 0), .int μ.1]))]) (ci := 2) (v := .ref (K 24 0)) (C := RX2) (T := TX2) (N := 4) hx hb hts tl_X2 hown hK (hP.one (Or.inr (tw_mem (f := 1) (i := 0) (by decide) rfl))) 0 rfl rfl 0 (by decide) (hts _ tw_695) (fun _ h9 => h9) rfl dX2_copyFrom_25 ?_
    refine lv_iload_n hx hb dX2_copyFrom_28 rfl (lv_at hl 0 rfl) ?_
    have j_2 : (nI i : Int32).toNatClampNeg = i := m_cl rfl (Nat.lt_of_lt_of_le hi hN) (by decide)
    refine va_aldq hx hb hK (ws := [(K 24 0, .inl (cy 3, 24, .inr (.inr (.inr (.inr (fun j => some (K 2 j)))))))]) (hP.one (Or.inr (tw_mem (f := 24) (i := 0) (by decide) rfl))) 0 3 rfl rfl (m_in rfl (Nat.lt_of_lt_of_le hi hN) (by decide)) dX2_copyFrom_29 ?_
    refine W.eq (g2 := F0 m 30 ls [.ref (K 2 i), .ref (L 2 i)]) (by first | (rw [j_2]; done) | (rw [j_2]; rfl)) ?_
    have hFc := m_free (C := (fun q e => TW cy L none b2 κ τ q e ∨ TW cy K sr a μ ν q e)) hP hS hA (fun _ _ h => h)
    refine va_callv (va_runV (As := [.ref (K 2 i)]) (rest := []) ⟨hx, hb, hml, hown, hts⟩ (c_Link_copyFrom l dC dI cy L b2 κ τ K sr a μ ν i H.size hT hT2 hAP (Nat.lt_of_lt_of_le hi hN) (hw.2.1 i (Nat.lt_of_lt_of_le hi hN)).2.2.2.2.1 (hw.2.1 i (Nat.lt_of_lt_of_le hi hN)).2.2.2.2.2 (hsh i (Nat.lt_of_lt_of_le hi hN))) (tp_cwV 1 hts tw_468 tw_469 tw_470 tw_23 tw_471 rfl rfl (by decide +kernel) ⟨Nat.le_of_ble_eq_true rfl, Nat.le_of_ble_eq_true rfl⟩) ⟨m_blind, va_recv hK (hP.one (e := .inr (1, [.int ((b2 2 i) 0), .int ((b2 2 i) 1), .int ((b2 2 i) 2), .int ((b2 2 i) 3), .int ((b2 2 i) 4), .int ((b2 2 i) 5), .int ((b2 2 i) 6), .int ((b2 2 i) 7), .int ((b2 2 i) 8), .ref (L 3 i), .ref (L 5 i), .int ((b2 2 i) 9), .int ((b2 2 i) 10), .int ((b2 2 i) 11), .int ((b2 2 i) 12), .ref (L 7 i)])) (Or.inl (tw_mem (f := 2) (i := i) (Nat.lt_of_lt_of_le hi hN) rfl))) (ci := 1) (q0 := 0) rfl rfl, fun U hU hW => ⟨rfl, m_pay hK hP hE (fun _ _ h => h) U hU hW⟩⟩ rfl rfl hl.1 rfl (lv_room (Nat.le_of_ble_eq_true rfl)) dX2_copyFrom_30 ⟨(by show 0 + 0 * i + 0 ≤ 0; omega), (by show 0 + 0 * i + 0 ≤ 0; omega)⟩) hS (fun q _ h => hFc q h) hFc (fun u t H1 locs ht hvm hpo hB hz1 hk1 hS => ?_)
    have hP1 := hB
    rw [ht] at hP1
    have hP : mw (dC, dI) vwCl A (fun q e => TW cy L none (L_copy b2 a i) κ τ q e ∨ TW cy K sr a μ ν q e) H1 := hP.join (fun _ _ h => h) hk1 hFc hP1 (fun _ _ h => Or.inl h)
    generalize H1 = H at hP hS ⊢
    clear hP1 hk1 hFc
    obtain ⟨b3, eb3⟩ : ∃ z : St, z = L_copy b2 a i := ⟨_, rfl⟩
    rw [← eb3] at hP
    refine lv_iinc (v := nI (i + 1)) (lv' := [(2, .int (nI (i + 1))), (0, .ref (L 1 0)), (1, .ref (K 1 0))]) hx hb dX2_copyFrom_33 hl (k := 0) rfl (nI_1 i) (by decide) rfl (fun ls hl => ?_)
    refine lv_goto (tgt := 10) hx hb dX2_copyFrom_36 (by decide) ?_
    have e9 : b3 = itN (fun i c => L_copy c a i) (i + 1) b1 := by
      rw [eb3, eb2]
      rfl
    rw [e9] at hP
    refine W.widen (k := (fun i => 0 + 0 * i) (i + 1)) (n := (fun i => 0 + 0 * i) (i + 1)) (by show _ ≤ 0 + 0 * (i + 1); omega) (by show _ ≤ 0 + 0 * (i + 1); omega) ?_
    exact ih () _ _ ls ⟨hP, hS, lv_sub hl [0, 1, 2] rfl⟩
set_option maxRecDepth 100000 in
set_option maxHeartbeats 4000000 in
/-- Traffic.copyFrom -/
theorem c_Traffic_copyFrom (l : Launch) (dC : Nat → ClassId) (dI : Nat → Nat → Nat) (cy : Nat → ClassId) (L : Lay) (b : St) (κ : Kap) (τ : Tau) (K : Lay) (sr : Option Nat) (a : St) (μ : Kap) (ν : Tau) (M : Nat) (sz : Nat) (hT : TL L none τ) (hT2 : TL K sr ν) (hAP : AP L K sr ν) (hw : Wf M a) (hsh : ∀ i, i < 24 → a 2 i 7 = 0 ∨ a 2 i 7 = 1) : Met l yX5_copyFrom (tp_w yX5_copyFrom cX5_copyFrom 4 none) ({ frames := 4, cells := 0, slots := 0, locals := 82 }) (va_Pc [.ref (L 0 0), .ref (K 0 0)] (mPre dC dI cy (fun q e => TW cy L none b κ τ q e ∨ TW cy K sr a μ ν q e) sz)) (va_Qv (fun _ : Unit => True) (fun (_ : Unit) (t : State) => mw (dC, dI) vwCl (mA (fun q e => TW cy L none b κ τ q e ∨ TW cy K sr a μ ν q e) sz) (fun q e => TW cy L none (T_copy b a) ((0, κ.2)) τ q e ∨ TW cy K sr a μ ν q e) t.heap) (mA (fun q e => TW cy L none b κ τ q e ∨ TW cy K sr a μ ν q e) sz)) (0) (0) (mA (fun q e => TW cy L none b κ τ q e ∨ TW cy K sr a μ ν q e) sz) := by
  refine Met.ofW (cc := cX5_copyFrom) (maxL := 4) (ret := none) (by decide) rfl ?_
  intro p e s m args below meth c s₁ B hml hv
  obtain ⟨rfl, hsz, hP, hK, hE⟩ := hv
  have hx := B.exec
  have hb := B.bytes
  have hr := B.returns
  have hts0 := atoms_spec (ws := tp_w yX5_copyFrom cX5_copyFrom 4 none) B.pre
  have hts : ∀ w ∈ tp_all, w.before _ s = true := fun w h => hts0 w (List.mem_cons_of_mem _ h)
  have hown : s.vm.findClass RX5 = some m.cls := findClass_of_methodNamed B.named
  have hlocks := B.notSynchronized
  subst hsz
  have hP := hP.self s.heap.size
  generalize hAe : mA (fun q e => TW cy L none b κ τ q e ∨ TW cy K sr a μ ν q e) s.heap.size = A at hP ⊢
  have hA : ∀ q : Nat, s.heap.size ≤ q → A q := fun q h => by rw [← hAe]; exact Or.inr h
  have hS : va_S A s.heap s.heap [] := va_S.rf
  have hl9 := lv_entry ([.ref (L 0 0), .ref (K 0 0)]) (n := 4) (Nat.le_of_ble_eq_true rfl)
  rw [lg_entry_eq]
  generalize (lg_sl ([.ref (L 0 0), .ref (K 0 0)]) ++ List.replicate (4 - (lg_sl ([.ref (L 0 0), .ref (K 0 0)])).length) Slot.unset).toArray = ls at hl9 ⊢
  have hl : lv_has ls 4 [(0, .ref (L 0 0)), (1, .ref (K 0 0))] := hl9
  refine lv_aload_n hx hb dX5_copyFrom_0 rfl (lv_at hl 0 rfl) ?_
  refine lv_aload_n hx hb dX5_copyFrom_1 rfl (lv_at hl 1 rfl) ?_
  refine va_get (D := (dC, dI)) (ws := [(K 0 0, .inr (5, [.ref (K 1 0), .ref (K 20 0), .ref (K 21 0), .ref (K 22 0), .ref (K 23 0), va_rf sr, .int ((a 0 0) 0), .int ((a 0 0) 1), .int ((a 0 0) 2), .int ((a 0 0) 3), .int ((a 0 0) 4), .int ((a 0 0) 5)]))]) (ci := 5) (v := .int ((a 0 0) 0)) (C := RX5) (T := TX5) (N := 12) hx hb hts tl_X5 hown hK (hP.one (Or.inr (tw_mem (f := 0) (i := 0) (by decide) rfl))) 0 rfl rfl 6 (by decide) (hts _ tw_885) (fun _ h9 => h9) rfl dX5_copyFrom_2 ?_
  obtain ⟨ws9, k9, hPw, hDw, hk9, -, hbk⟩ := hP.cut (e := .inr (5, [.ref (L 1 0), .ref (L 20 0), .ref (L 21 0), .ref (L 22 0), .ref (L 23 0), .null, .int ((b 0 0) 0), .int ((b 0 0) 1), .int ((b 0 0) 2), .int ((b 0 0) 3), .int ((b 0 0) 4), .int ((b 0 0) 5)])) (Or.inl (tw_mem (f := 0) (i := 0) (by decide) rfl))
  refine va_put (D := (dC, dI)) (ci := 5) (v := .int ((a 0 0) 0)) (ty := .int) (C := RX5) (T := TX5) (N := 12) hx hb hts tl_X5 tyX5 tyX5_ok nmX5 hown hK hPw hDw hS k9 hk9 rfl 6 (by decide) (hts _ tw_885) (fun _ h9 => h9) rfl (by decide +kernel) rfl rfl (Nat.le_of_ble_eq_true rfl) dX5_copyFrom_5 (fun H locs hPw hDw hS => ?_)
  have hP : mw (dC, dI) vwCl A (fun q e => TW cy L none (S2 b 0 0 (upd (b 0 0) 0 ((a 0 0) 0))) κ τ q e ∨ TW cy K sr a μ ν q e) H := (hbk _ _ hPw hDw).sub (mset_l (tw_set (b := S2 b 0 0 (upd (b 0 0) 0 ((a 0 0) 0))) (f := 0) (i := 0) (x := upd (b 0 0) 0 ((a 0 0) 0)) hT (by decide) (by decide) rfl) (fun q e h => ap_off hAP (by decide) h))
  clear hbk hPw hDw hk9
  refine lv_aload_n hx hb dX5_copyFrom_8 rfl (lv_at hl 0 rfl) ?_
  refine lv_aload_n hx hb dX5_copyFrom_9 rfl (lv_at hl 1 rfl) ?_
  refine va_get (D := (dC, dI)) (ws := [(K 0 0, .inr (5, [.ref (K 1 0), .ref (K 20 0), .ref (K 21 0), .ref (K 22 0), .ref (K 23 0), va_rf sr, .int ((a 0 0) 0), .int ((a 0 0) 1), .int ((a 0 0) 2), .int ((a 0 0) 3), .int ((a 0 0) 4), .int ((a 0 0) 5)]))]) (ci := 5) (v := .int ((a 0 0) 1)) (C := RX5) (T := TX5) (N := 12) hx hb hts tl_X5 hown hK (hP.one (Or.inr (tw_mem (f := 0) (i := 0) (by decide) rfl))) 0 rfl rfl 7 (by decide) (hts _ tw_887) (fun _ h9 => h9) rfl dX5_copyFrom_10 ?_
  obtain ⟨ws9, k9, hPw, hDw, hk9, -, hbk⟩ := hP.cut (e := .inr (5, [.ref (L 1 0), .ref (L 20 0), .ref (L 21 0), .ref (L 22 0), .ref (L 23 0), .null, .int ((a 0 0) 0), .int ((b 0 0) 1), .int ((b 0 0) 2), .int ((b 0 0) 3), .int ((b 0 0) 4), .int ((b 0 0) 5)])) (Or.inl (tw_mem (f := 0) (i := 0) (x := upd (b 0 0) 0 ((a 0 0) 0)) (by decide) S2_eq))
  refine va_put (D := (dC, dI)) (ci := 5) (v := .int ((a 0 0) 1)) (ty := .int) (C := RX5) (T := TX5) (N := 12) hx hb hts tl_X5 tyX5 tyX5_ok nmX5 hown hK hPw hDw hS k9 hk9 rfl 7 (by decide) (hts _ tw_887) (fun _ h9 => h9) rfl (by decide +kernel) rfl rfl (Nat.le_of_ble_eq_true rfl) dX5_copyFrom_13 (fun H locs hPw hDw hS => ?_)
  have hP : mw (dC, dI) vwCl A (fun q e => TW cy L none (S2 b 0 0 (upd (upd (b 0 0) 0 ((a 0 0) 0)) 1 ((a 0 0) 1))) κ τ q e ∨ TW cy K sr a μ ν q e) H := (hbk _ _ hPw hDw).sub (mset_l (tw_set (b := S2 b 0 0 (upd (upd (b 0 0) 0 ((a 0 0) 0)) 1 ((a 0 0) 1))) (f := 0) (i := 0) (x := upd (upd (b 0 0) 0 ((a 0 0) 0)) 1 ((a 0 0) 1)) hT (by decide) (by decide) S2_S2.symm) (fun q e h => ap_off hAP (by decide) h))
  clear hbk hPw hDw hk9
  refine lv_aload_n hx hb dX5_copyFrom_16 rfl (lv_at hl 0 rfl) ?_
  refine lv_aload_n hx hb dX5_copyFrom_17 rfl (lv_at hl 1 rfl) ?_
  refine va_get (D := (dC, dI)) (ws := [(K 0 0, .inr (5, [.ref (K 1 0), .ref (K 20 0), .ref (K 21 0), .ref (K 22 0), .ref (K 23 0), va_rf sr, .int ((a 0 0) 0), .int ((a 0 0) 1), .int ((a 0 0) 2), .int ((a 0 0) 3), .int ((a 0 0) 4), .int ((a 0 0) 5)]))]) (ci := 5) (v := .int ((a 0 0) 2)) (C := RX5) (T := TX5) (N := 12) hx hb hts tl_X5 hown hK (hP.one (Or.inr (tw_mem (f := 0) (i := 0) (by decide) rfl))) 0 rfl rfl 8 (by decide) (hts _ tw_890) (fun _ h9 => h9) rfl dX5_copyFrom_18 ?_
  obtain ⟨ws9, k9, hPw, hDw, hk9, -, hbk⟩ := hP.cut (e := .inr (5, [.ref (L 1 0), .ref (L 20 0), .ref (L 21 0), .ref (L 22 0), .ref (L 23 0), .null, .int ((a 0 0) 0), .int ((a 0 0) 1), .int ((b 0 0) 2), .int ((b 0 0) 3), .int ((b 0 0) 4), .int ((b 0 0) 5)])) (Or.inl (tw_mem (f := 0) (i := 0) (x := upd (upd (b 0 0) 0 ((a 0 0) 0)) 1 ((a 0 0) 1)) (by decide) S2_eq))
  refine va_put (D := (dC, dI)) (ci := 5) (v := .int ((a 0 0) 2)) (ty := .int) (C := RX5) (T := TX5) (N := 12) hx hb hts tl_X5 tyX5 tyX5_ok nmX5 hown hK hPw hDw hS k9 hk9 rfl 8 (by decide) (hts _ tw_890) (fun _ h9 => h9) rfl (by decide +kernel) rfl rfl (Nat.le_of_ble_eq_true rfl) dX5_copyFrom_21 (fun H locs hPw hDw hS => ?_)
  have hP : mw (dC, dI) vwCl A (fun q e => TW cy L none (S2 b 0 0 (upd (upd (upd (b 0 0) 0 ((a 0 0) 0)) 1 ((a 0 0) 1)) 2 ((a 0 0) 2))) κ τ q e ∨ TW cy K sr a μ ν q e) H := (hbk _ _ hPw hDw).sub (mset_l (tw_set (b := S2 b 0 0 (upd (upd (upd (b 0 0) 0 ((a 0 0) 0)) 1 ((a 0 0) 1)) 2 ((a 0 0) 2))) (f := 0) (i := 0) (x := upd (upd (upd (b 0 0) 0 ((a 0 0) 0)) 1 ((a 0 0) 1)) 2 ((a 0 0) 2)) hT (by decide) (by decide) S2_S2.symm) (fun q e h => ap_off hAP (by decide) h))
  clear hbk hPw hDw hk9
  refine lv_aload_n hx hb dX5_copyFrom_24 rfl (lv_at hl 0 rfl) ?_
  refine lv_aload_n hx hb dX5_copyFrom_25 rfl (lv_at hl 1 rfl) ?_
  refine va_get (D := (dC, dI)) (ws := [(K 0 0, .inr (5, [.ref (K 1 0), .ref (K 20 0), .ref (K 21 0), .ref (K 22 0), .ref (K 23 0), va_rf sr, .int ((a 0 0) 0), .int ((a 0 0) 1), .int ((a 0 0) 2), .int ((a 0 0) 3), .int ((a 0 0) 4), .int ((a 0 0) 5)]))]) (ci := 5) (v := .int ((a 0 0) 3)) (C := RX5) (T := TX5) (N := 12) hx hb hts tl_X5 hown hK (hP.one (Or.inr (tw_mem (f := 0) (i := 0) (by decide) rfl))) 0 rfl rfl 9 (by decide) (hts _ tw_891) (fun _ h9 => h9) rfl dX5_copyFrom_26 ?_
  obtain ⟨ws9, k9, hPw, hDw, hk9, -, hbk⟩ := hP.cut (e := .inr (5, [.ref (L 1 0), .ref (L 20 0), .ref (L 21 0), .ref (L 22 0), .ref (L 23 0), .null, .int ((a 0 0) 0), .int ((a 0 0) 1), .int ((a 0 0) 2), .int ((b 0 0) 3), .int ((b 0 0) 4), .int ((b 0 0) 5)])) (Or.inl (tw_mem (f := 0) (i := 0) (x := upd (upd (upd (b 0 0) 0 ((a 0 0) 0)) 1 ((a 0 0) 1)) 2 ((a 0 0) 2)) (by decide) S2_eq))
  refine va_put (D := (dC, dI)) (ci := 5) (v := .int ((a 0 0) 3)) (ty := .int) (C := RX5) (T := TX5) (N := 12) hx hb hts tl_X5 tyX5 tyX5_ok nmX5 hown hK hPw hDw hS k9 hk9 rfl 9 (by decide) (hts _ tw_891) (fun _ h9 => h9) rfl (by decide +kernel) rfl rfl (Nat.le_of_ble_eq_true rfl) dX5_copyFrom_29 (fun H locs hPw hDw hS => ?_)
  have hP : mw (dC, dI) vwCl A (fun q e => TW cy L none (S2 b 0 0 (upd (upd (upd (upd (b 0 0) 0 ((a 0 0) 0)) 1 ((a 0 0) 1)) 2 ((a 0 0) 2)) 3 ((a 0 0) 3))) κ τ q e ∨ TW cy K sr a μ ν q e) H := (hbk _ _ hPw hDw).sub (mset_l (tw_set (b := S2 b 0 0 (upd (upd (upd (upd (b 0 0) 0 ((a 0 0) 0)) 1 ((a 0 0) 1)) 2 ((a 0 0) 2)) 3 ((a 0 0) 3))) (f := 0) (i := 0) (x := upd (upd (upd (upd (b 0 0) 0 ((a 0 0) 0)) 1 ((a 0 0) 1)) 2 ((a 0 0) 2)) 3 ((a 0 0) 3)) hT (by decide) (by decide) S2_S2.symm) (fun q e h => ap_off hAP (by decide) h))
  clear hbk hPw hDw hk9
  refine lv_aload_n hx hb dX5_copyFrom_32 rfl (lv_at hl 0 rfl) ?_
  refine lv_aload_n hx hb dX5_copyFrom_33 rfl (lv_at hl 1 rfl) ?_
  refine va_get (D := (dC, dI)) (ws := [(K 0 0, .inr (5, [.ref (K 1 0), .ref (K 20 0), .ref (K 21 0), .ref (K 22 0), .ref (K 23 0), va_rf sr, .int ((a 0 0) 0), .int ((a 0 0) 1), .int ((a 0 0) 2), .int ((a 0 0) 3), .int ((a 0 0) 4), .int ((a 0 0) 5)]))]) (ci := 5) (v := .int ((a 0 0) 4)) (C := RX5) (T := TX5) (N := 12) hx hb hts tl_X5 hown hK (hP.one (Or.inr (tw_mem (f := 0) (i := 0) (by decide) rfl))) 0 rfl rfl 10 (by decide) (hts _ tw_893) (fun _ h9 => h9) rfl dX5_copyFrom_34 ?_
  obtain ⟨ws9, k9, hPw, hDw, hk9, -, hbk⟩ := hP.cut (e := .inr (5, [.ref (L 1 0), .ref (L 20 0), .ref (L 21 0), .ref (L 22 0), .ref (L 23 0), .null, .int ((a 0 0) 0), .int ((a 0 0) 1), .int ((a 0 0) 2), .int ((a 0 0) 3), .int ((b 0 0) 4), .int ((b 0 0) 5)])) (Or.inl (tw_mem (f := 0) (i := 0) (x := upd (upd (upd (upd (b 0 0) 0 ((a 0 0) 0)) 1 ((a 0 0) 1)) 2 ((a 0 0) 2)) 3 ((a 0 0) 3)) (by decide) S2_eq))
  refine va_put (D := (dC, dI)) (ci := 5) (v := .int ((a 0 0) 4)) (ty := .int) (C := RX5) (T := TX5) (N := 12) hx hb hts tl_X5 tyX5 tyX5_ok nmX5 hown hK hPw hDw hS k9 hk9 rfl 10 (by decide) (hts _ tw_893) (fun _ h9 => h9) rfl (by decide +kernel) rfl rfl (Nat.le_of_ble_eq_true rfl) dX5_copyFrom_37 (fun H locs hPw hDw hS => ?_)
  have hP : mw (dC, dI) vwCl A (fun q e => TW cy L none (S2 b 0 0 (upd (upd (upd (upd (upd (b 0 0) 0 ((a 0 0) 0)) 1 ((a 0 0) 1)) 2 ((a 0 0) 2)) 3 ((a 0 0) 3)) 4 ((a 0 0) 4))) κ τ q e ∨ TW cy K sr a μ ν q e) H := (hbk _ _ hPw hDw).sub (mset_l (tw_set (b := S2 b 0 0 (upd (upd (upd (upd (upd (b 0 0) 0 ((a 0 0) 0)) 1 ((a 0 0) 1)) 2 ((a 0 0) 2)) 3 ((a 0 0) 3)) 4 ((a 0 0) 4))) (f := 0) (i := 0) (x := upd (upd (upd (upd (upd (b 0 0) 0 ((a 0 0) 0)) 1 ((a 0 0) 1)) 2 ((a 0 0) 2)) 3 ((a 0 0) 3)) 4 ((a 0 0) 4)) hT (by decide) (by decide) S2_S2.symm) (fun q e h => ap_off hAP (by decide) h))
  clear hbk hPw hDw hk9
  refine lv_aload_n hx hb dX5_copyFrom_40 rfl (lv_at hl 0 rfl) ?_
  refine lv_aload_n hx hb dX5_copyFrom_41 rfl (lv_at hl 1 rfl) ?_
  refine va_get (D := (dC, dI)) (ws := [(K 0 0, .inr (5, [.ref (K 1 0), .ref (K 20 0), .ref (K 21 0), .ref (K 22 0), .ref (K 23 0), va_rf sr, .int ((a 0 0) 0), .int ((a 0 0) 1), .int ((a 0 0) 2), .int ((a 0 0) 3), .int ((a 0 0) 4), .int ((a 0 0) 5)]))]) (ci := 5) (v := .int ((a 0 0) 5)) (C := RX5) (T := TX5) (N := 12) hx hb hts tl_X5 hown hK (hP.one (Or.inr (tw_mem (f := 0) (i := 0) (by decide) rfl))) 0 rfl rfl 11 (by decide) (hts _ tw_895) (fun _ h9 => h9) rfl dX5_copyFrom_42 ?_
  obtain ⟨ws9, k9, hPw, hDw, hk9, -, hbk⟩ := hP.cut (e := .inr (5, [.ref (L 1 0), .ref (L 20 0), .ref (L 21 0), .ref (L 22 0), .ref (L 23 0), .null, .int ((a 0 0) 0), .int ((a 0 0) 1), .int ((a 0 0) 2), .int ((a 0 0) 3), .int ((a 0 0) 4), .int ((b 0 0) 5)])) (Or.inl (tw_mem (f := 0) (i := 0) (x := upd (upd (upd (upd (upd (b 0 0) 0 ((a 0 0) 0)) 1 ((a 0 0) 1)) 2 ((a 0 0) 2)) 3 ((a 0 0) 3)) 4 ((a 0 0) 4)) (by decide) S2_eq))
  refine va_put (D := (dC, dI)) (ci := 5) (v := .int ((a 0 0) 5)) (ty := .int) (C := RX5) (T := TX5) (N := 12) hx hb hts tl_X5 tyX5 tyX5_ok nmX5 hown hK hPw hDw hS k9 hk9 rfl 11 (by decide) (hts _ tw_895) (fun _ h9 => h9) rfl (by decide +kernel) rfl rfl (Nat.le_of_ble_eq_true rfl) dX5_copyFrom_45 (fun H locs hPw hDw hS => ?_)
  have hP : mw (dC, dI) vwCl A (fun q e => TW cy L none (S2 b 0 0 (upd (upd (upd (upd (upd (upd (b 0 0) 0 ((a 0 0) 0)) 1 ((a 0 0) 1)) 2 ((a 0 0) 2)) 3 ((a 0 0) 3)) 4 ((a 0 0) 4)) 5 ((a 0 0) 5))) κ τ q e ∨ TW cy K sr a μ ν q e) H := (hbk _ _ hPw hDw).sub (mset_l (tw_set (b := S2 b 0 0 (upd (upd (upd (upd (upd (upd (b 0 0) 0 ((a 0 0) 0)) 1 ((a 0 0) 1)) 2 ((a 0 0) 2)) 3 ((a 0 0) 3)) 4 ((a 0 0) 4)) 5 ((a 0 0) 5))) (f := 0) (i := 0) (x := upd (upd (upd (upd (upd (upd (b 0 0) 0 ((a 0 0) 0)) 1 ((a 0 0) 1)) 2 ((a 0 0) 2)) 3 ((a 0 0) 3)) 4 ((a 0 0) 4)) 5 ((a 0 0) 5)) hT (by decide) (by decide) S2_S2.symm) (fun q e h => ap_off hAP (by decide) h))
  clear hbk hPw hDw hk9
  refine lv_aload_n hx hb dX5_copyFrom_48 rfl (lv_at hl 0 rfl) ?_
  refine va_get (D := (dC, dI)) (ws := [(L 0 0, .inr (5, [.ref (L 1 0), .ref (L 20 0), .ref (L 21 0), .ref (L 22 0), .ref (L 23 0), .null, .int ((a 0 0) 0), .int ((a 0 0) 1), .int ((a 0 0) 2), .int ((a 0 0) 3), .int ((a 0 0) 4), .int ((a 0 0) 5)]))]) (ci := 5) (v := .ref (L 1 0)) (C := RX5) (T := TX5) (N := 12) hx hb hts tl_X5 hown hK (hP.one (Or.inl (tw_mem (f := 0) (i := 0) (x := upd (upd (upd (upd (upd (upd (b 0 0) 0 ((a 0 0) 0)) 1 ((a 0 0) 1)) 2 ((a 0 0) 2)) 3 ((a 0 0) 3)) 4 ((a 0 0) 4)) 5 ((a 0 0) 5)) (by decide) S2_eq))) 0 rfl rfl 0 (by decide) (hts _ tw_873) (fun _ h9 => h9) rfl dX5_copyFrom_49 ?_
  refine lv_aload_n hx hb dX5_copyFrom_52 rfl (lv_at hl 1 rfl) ?_
  refine va_get (D := (dC, dI)) (ws := [(K 0 0, .inr (5, [.ref (K 1 0), .ref (K 20 0), .ref (K 21 0), .ref (K 22 0), .ref (K 23 0), va_rf sr, .int ((a 0 0) 0), .int ((a 0 0) 1), .int ((a 0 0) 2), .int ((a 0 0) 3), .int ((a 0 0) 4), .int ((a 0 0) 5)]))]) (ci := 5) (v := .ref (K 1 0)) (C := RX5) (T := TX5) (N := 12) hx hb hts tl_X5 hown hK (hP.one (Or.inr (tw_mem (f := 0) (i := 0) (by decide) rfl))) 0 rfl rfl 0 (by decide) (hts _ tw_873) (fun _ h9 => h9) rfl dX5_copyFrom_53 ?_
  obtain ⟨b1, eb1⟩ : ∃ z : St, z = S2 b 0 0 (upd (upd (upd (upd (upd (upd (b 0 0) 0 ((a 0 0) 0)) 1 ((a 0 0) 1)) 2 ((a 0 0) 2)) 3 ((a 0 0) 3)) 4 ((a 0 0) 4)) 5 ((a 0 0) 5)) := ⟨_, rfl⟩
  rw [← eb1] at hP
  have hFc := m_free (C := (fun q e => TW cy L none b1 κ τ q e ∨ TW cy K sr a μ ν q e)) hP hS hA (fun _ _ h => h)
  refine va_callv (va_runV (As := [.ref (K 1 0)]) (rest := []) ⟨hx, hb, hml, hown, hts⟩ (c_Roads_copyFrom l dC dI cy L b1 κ τ K sr a μ ν M H.size hT hT2 hAP hw hsh) (tp_cwV 1 hts tw_464 tw_465 tw_466 tw_22 tw_467 rfl rfl (by decide +kernel) ⟨Nat.le_of_ble_eq_true rfl, Nat.le_of_ble_eq_true rfl⟩) ⟨m_blind, va_recv hK (hP.one (e := .inr (2, [.ref (L 24 0), .int ((b1 1 0) 0), .ref (L 25 0), .int κ.1])) (Or.inl (tw_mem (f := 1) (i := 0) (by decide) rfl))) (ci := 2) (q0 := 0) rfl rfl, fun U hU hW => ⟨rfl, m_pay hK hP hE (fun _ _ h => h) U hU hW⟩⟩ rfl rfl hl.1 rfl (lv_room (Nat.le_of_ble_eq_true rfl)) dX5_copyFrom_56 ⟨(Nat.le_of_ble_eq_true rfl), (Nat.le_of_ble_eq_true rfl)⟩) hS (fun q _ h => hFc q h) hFc (fun u t H1 locs ht hvm hpo hB hz1 hk1 hS => ?_)
  have hP1 := hB
  rw [ht] at hP1
  have hP : mw (dC, dI) vwCl A (fun q e => TW cy L none (G_copy b1 a) ((0, κ.2)) τ q e ∨ TW cy K sr a μ ν q e) H1 := hP.join (fun _ _ h => h) hk1 hFc hP1 (fun _ _ h => Or.inl h)
  generalize H1 = H at hP hS ⊢
  clear hP1 hk1 hFc
  obtain ⟨b2, eb2⟩ : ∃ z : St, z = G_copy b1 a := ⟨_, rfl⟩
  rw [← eb2] at hP
  have h0b2 : ∀ k, k < 6 → b2 0 0 k = a 0 0 k := fun k hk => by rw [eb2, G_copy_0, eb1]; exact T_cp0_0 hk
  refine lv_iconst (v := 0) hx hb dX5_copyFrom_59 (by decide) ?_
  refine lv_istore_n (lv' := [(2, .int 0), (0, .ref (L 0 0)), (1, .ref (K 0 0))]) hx hb dX5_copyFrom_60 rfl hl (by decide) rfl (fun ls hl => ?_)
  have hN : nN a ≤ 12 := in_le hw.1.2.1
  refine W.widen (k := (fun i => (0 + 0) + 0 * i) 0) (n := (fun i => (0 + 0) + 0 * i) 0) (Nat.le_refl _) (Nat.le_refl _) ?_
  refine tp_for (σ := Unit) (nN a) (fun i => (0 + 0) + 0 * i) (fun i => (0 + 0) + 0 * i) (fun (i : Nat) (x : Unit) (H : Heap) (locs : List Loc) (ls : Array Slot) => mw (dC, dI) vwCl A (fun q e => TW cy L none (itN (T_cpn a) i b2) ((0, κ.2)) τ q e ∨ TW cy K sr a μ ν q e) H ∧ va_S A s.heap H locs ∧ lv_has ls 4 [(2, .int (nI i)), (0, .ref (L 0 0)), (1, .ref (K 0 0))]) ?_ ?_ (nN a) 0 (Nat.zero_add _) (()) _ _ ls ⟨hP, hS, lv_sub hl [0, 1, 2] rfl⟩
  · rintro _ H locs ls ⟨hP, hS, hl⟩
    have hl : lv_has ls 4 [(2, .int (nI (nN a))), (0, .ref (L 0 0)), (1, .ref (K 0 0))] := hl
    obtain ⟨b3, eb3⟩ : ∃ z : St, z = itN (T_cpn a) (nN a) b2 := ⟨_, rfl⟩
    rw [← eb3] at hP
    have h0b3 : ∀ k, k < 6 → b3 0 0 k = a 0 0 k := fun k hk => by rw [eb3]; exact itN_keep (P := fun c => c 0 0 k = a 0 0 k) (h0b2 k hk) (fun i c h => by rw [T_cpn_0]; exact h) _
    refine lv_iload_n hx hb dX5_copyFrom_61 rfl (lv_at hl 0 rfl) ?_
    refine lv_aload_n hx hb dX5_copyFrom_62 rfl (lv_at hl 1 rfl) ?_
    refine va_get (D := (dC, dI)) (ws := [(L 0 0, .inr (5, [.ref (L 1 0), .ref (L 20 0), .ref (L 21 0), .ref (L 22 0), .ref (L 23 0), .null, .int ((b3 0 0) 0), .int ((b3 0 0) 1), .int ((b3 0 0) 2), .int ((b3 0 0) 3), .int ((b3 0 0) 4), .int ((b3 0 0) 5)]))]) (ci := 5) (v := .int ((b3 0 0) 2)) (C := RX5) (T := TX5) (N := 12) hx hb hts tl_X5 hown hK (hP.one (Or.inl (tw_mem (f := 0) (i := 0) (by decide) rfl))) 0 rfl rfl 8 (by decide) (hts _ tw_890) (fun _ h9 => h9) rfl dX5_copyFrom_63 ?_
    refine W.eq (g2 := F0 m 66 ls [.int (nI (nN a)), .int (nI (nN a))]) (by rw [h0b3 2 (by decide), in_nI hw.1.2.1]) ?_
    refine lv_icmp_ge (tgt := 105) hx hb dX5_copyFrom_66 (by decide) (fun _ => ?_) (fun c_1 => absurd (Int32.le_refl _) c_1)
    refine lv_iconst (v := 0) hx hb dX5_copyFrom_105 (by decide) ?_
    refine lv_istore_n (lv' := [(2, .int 0), (0, .ref (L 0 0)), (1, .ref (K 0 0))]) hx hb dX5_copyFrom_106 rfl hl (by decide) rfl (fun ls hl => ?_)
    have hN : nFl a ≤ 10 := in_le hw.1.2.2.1
    refine W.widen (k := (fun i => ((0 + 0) + 0 * (nN a)) + 0 * i) 0) (n := (fun i => ((0 + 0) + 0 * (nN a)) + 0 * i) 0) (Nat.le_refl _) (Nat.le_refl _) ?_
    refine tp_for (σ := Unit) (nFl a) (fun i => ((0 + 0) + 0 * (nN a)) + 0 * i) (fun i => ((0 + 0) + 0 * (nN a)) + 0 * i) (fun (i : Nat) (x : Unit) (H : Heap) (locs : List Loc) (ls : Array Slot) => mw (dC, dI) vwCl A (fun q e => TW cy L none (itN (T_cpf a) i b3) ((0, κ.2)) τ q e ∨ TW cy K sr a μ ν q e) H ∧ va_S A s.heap H locs ∧ lv_has ls 4 [(2, .int (nI i)), (0, .ref (L 0 0)), (1, .ref (K 0 0))]) ?_ ?_ (nFl a) 0 (Nat.zero_add _) (()) _ _ ls ⟨hP, hS, lv_sub hl [0, 1, 2] rfl⟩
    · rintro _ H locs ls ⟨hP, hS, hl⟩
      have hl : lv_has ls 4 [(2, .int (nI (nFl a))), (0, .ref (L 0 0)), (1, .ref (K 0 0))] := hl
      obtain ⟨b4, eb4⟩ : ∃ z : St, z = itN (T_cpf a) (nFl a) b3 := ⟨_, rfl⟩
      rw [← eb4] at hP
      have h0b4 : ∀ k, k < 6 → b4 0 0 k = a 0 0 k := fun k hk => by rw [eb4]; exact itN_keep (P := fun c => c 0 0 k = a 0 0 k) (h0b3 k hk) (fun i c h => by rw [T_cpf_0]; exact h) _
      refine lv_iload_n hx hb dX5_copyFrom_107 rfl (lv_at hl 0 rfl) ?_
      refine lv_aload_n hx hb dX5_copyFrom_108 rfl (lv_at hl 1 rfl) ?_
      refine va_get (D := (dC, dI)) (ws := [(L 0 0, .inr (5, [.ref (L 1 0), .ref (L 20 0), .ref (L 21 0), .ref (L 22 0), .ref (L 23 0), .null, .int ((b4 0 0) 0), .int ((b4 0 0) 1), .int ((b4 0 0) 2), .int ((b4 0 0) 3), .int ((b4 0 0) 4), .int ((b4 0 0) 5)]))]) (ci := 5) (v := .int ((b4 0 0) 3)) (C := RX5) (T := TX5) (N := 12) hx hb hts tl_X5 hown hK (hP.one (Or.inl (tw_mem (f := 0) (i := 0) (by decide) rfl))) 0 rfl rfl 9 (by decide) (hts _ tw_891) (fun _ h9 => h9) rfl dX5_copyFrom_109 ?_
      refine W.eq (g2 := F0 m 112 ls [.int (nI (nFl a)), .int (nI (nFl a))]) (by rw [h0b4 3 (by decide), in_nI hw.1.2.2.1]) ?_
      refine lv_icmp_ge (tgt := 161) hx hb dX5_copyFrom_112 (by decide) (fun _ => ?_) (fun c_2 => absurd (Int32.le_refl _) c_2)
      refine lv_iconst (v := 0) hx hb dX5_copyFrom_161 (by decide) ?_
      refine lv_istore_n (lv' := [(2, .int 0), (0, .ref (L 0 0)), (1, .ref (K 0 0))]) hx hb dX5_copyFrom_162 rfl hl (by decide) rfl (fun ls hl => ?_)
      have hN : nV a ≤ 200 := in_le hw.1.2.2.2
      refine W.widen (k := (fun i => (((0 + 0) + 0 * (nN a)) + 0 * (nFl a)) + 0 * i) 0) (n := (fun i => (((0 + 0) + 0 * (nN a)) + 0 * (nFl a)) + 0 * i) 0) (Nat.le_refl _) (Nat.le_refl _) ?_
      refine tp_for (σ := Unit) (nV a) (fun i => (((0 + 0) + 0 * (nN a)) + 0 * (nFl a)) + 0 * i) (fun i => (((0 + 0) + 0 * (nN a)) + 0 * (nFl a)) + 0 * i) (fun (i : Nat) (x : Unit) (H : Heap) (locs : List Loc) (ls : Array Slot) => mw (dC, dI) vwCl A (fun q e => TW cy L none (itN (T_cpv a) i b4) ((0, κ.2)) τ q e ∨ TW cy K sr a μ ν q e) H ∧ va_S A s.heap H locs ∧ lv_has ls 4 [(2, .int (nI i)), (0, .ref (L 0 0)), (1, .ref (K 0 0))]) ?_ ?_ (nV a) 0 (Nat.zero_add _) (()) _ _ ls ⟨hP, hS, lv_sub hl [0, 1, 2] rfl⟩
      · rintro _ H locs ls ⟨hP, hS, hl⟩
        have hl : lv_has ls 4 [(2, .int (nI (nV a))), (0, .ref (L 0 0)), (1, .ref (K 0 0))] := hl
        obtain ⟨b5, eb5⟩ : ∃ z : St, z = itN (T_cpv a) (nV a) b4 := ⟨_, rfl⟩
        rw [← eb5] at hP
        have h0b5 : ∀ k, k < 6 → b5 0 0 k = a 0 0 k := fun k hk => by rw [eb5]; exact itN_keep (P := fun c => c 0 0 k = a 0 0 k) (h0b4 k hk) (fun i c h => by rw [T_cpv_0]; exact h) _
        refine lv_iload_n hx hb dX5_copyFrom_163 rfl (lv_at hl 0 rfl) ?_
        refine lv_aload_n hx hb dX5_copyFrom_164 rfl (lv_at hl 1 rfl) ?_
        refine va_get (D := (dC, dI)) (ws := [(L 0 0, .inr (5, [.ref (L 1 0), .ref (L 20 0), .ref (L 21 0), .ref (L 22 0), .ref (L 23 0), .null, .int ((b5 0 0) 0), .int ((b5 0 0) 1), .int ((b5 0 0) 2), .int ((b5 0 0) 3), .int ((b5 0 0) 4), .int ((b5 0 0) 5)]))]) (ci := 5) (v := .int ((b5 0 0) 4)) (C := RX5) (T := TX5) (N := 12) hx hb hts tl_X5 hown hK (hP.one (Or.inl (tw_mem (f := 0) (i := 0) (by decide) rfl))) 0 rfl rfl 10 (by decide) (hts _ tw_893) (fun _ h9 => h9) rfl dX5_copyFrom_165 ?_
        refine W.eq (g2 := F0 m 168 ls [.int (nI (nV a)), .int (nI (nV a))]) (by rw [h0b5 4 (by decide), in_nI hw.1.2.2.2]) ?_
        refine lv_icmp_ge (tgt := 192) hx hb dX5_copyFrom_168 (by decide) (fun _ => ?_) (fun c_3 => absurd (Int32.le_refl _) c_3)
        refine W.widen (k := 0) (n := 0) (by show (((0 + 0) + 0 * (nN a)) + 0 * (nFl a)) + 0 * (nV a) + 0 ≤ 0; omega) (by show (((0 + 0) + 0 * (nN a)) + 0 * (nFl a)) + 0 * (nV a) + 0 ≤ 0; omega) ?_
        have s_1 : b5 = T_copy b a := by
          rw [eb5, eb4, eb3, eb2, eb1]
          rfl
        rw [s_1] at hP
        exact W.vret hx hb hr (fun t ht hW => ⟨⟨(), rfl, trivial, (by show mw _ _ _ _ t.heap; rw [ht]; exact hP)⟩, hS.F ht⟩) hS.2.2 dX5_copyFrom_192
      · rintro i _ H locs ls hi ⟨hP, hS, hl⟩ ih
        have hl : lv_has ls 4 [(2, .int (nI i)), (0, .ref (L 0 0)), (1, .ref (K 0 0))] := hl
        obtain ⟨b5, eb5⟩ : ∃ z : St, z = itN (T_cpv a) i b4 := ⟨_, rfl⟩
        rw [← eb5] at hP
        have h0b5 : ∀ k, k < 6 → b5 0 0 k = a 0 0 k := fun k hk => by rw [eb5]; exact itN_keep (P := fun c => c 0 0 k = a 0 0 k) (h0b4 k hk) (fun i c h => by rw [T_cpv_0]; exact h) _
        refine lv_iload_n hx hb dX5_copyFrom_163 rfl (lv_at hl 0 rfl) ?_
        refine lv_aload_n hx hb dX5_copyFrom_164 rfl (lv_at hl 1 rfl) ?_
        refine va_get (D := (dC, dI)) (ws := [(L 0 0, .inr (5, [.ref (L 1 0), .ref (L 20 0), .ref (L 21 0), .ref (L 22 0), .ref (L 23 0), .null, .int ((b5 0 0) 0), .int ((b5 0 0) 1), .int ((b5 0 0) 2), .int ((b5 0 0) 3), .int ((b5 0 0) 4), .int ((b5 0 0) 5)]))]) (ci := 5) (v := .int ((b5 0 0) 4)) (C := RX5) (T := TX5) (N := 12) hx hb hts tl_X5 hown hK (hP.one (Or.inl (tw_mem (f := 0) (i := 0) (by decide) rfl))) 0 rfl rfl 10 (by decide) (hts _ tw_893) (fun _ h9 => h9) rfl dX5_copyFrom_165 ?_
        refine W.eq (g2 := F0 m 168 ls [.int (nI (nV a)), .int (nI i)]) (by rw [h0b5 4 (by decide), in_nI hw.1.2.2.2]) ?_
        refine lv_icmp_ge (tgt := 192) hx hb dX5_copyFrom_168 (by decide) (fun c_4 => absurd c_4 (nI_ge hi (by omega))) (fun _ => ?_)
        refine lv_aload_n hx hb dX5_copyFrom_171 rfl (lv_at hl 1 rfl) ?_
        refine va_get (D := (dC, dI)) (ws := [(L 0 0, .inr (5, [.ref (L 1 0), .ref (L 20 0), .ref (L 21 0), .ref (L 22 0), .ref (L 23 0), .null, .int ((b5 0 0) 0), .int ((b5 0 0) 1), .int ((b5 0 0) 2), .int ((b5 0 0) 3), .int ((b5 0 0) 4), .int ((b5 0 0) 5)]))]) (ci := 5) (v := .ref (L 23 0)) (C := RX5) (T := TX5) (N := 12) hx hb hts tl_X5 hown hK (hP.one (Or.inl (tw_mem (f := 0) (i := 0) (by decide) rfl))) 0 rfl rfl 4 (by decide) (hts _ tw_881) (fun _ h9 => h9) rfl dX5_copyFrom_172 ?_
        refine lv_iload_n hx hb dX5_copyFrom_175 rfl (lv_at hl 0 rfl) ?_
        have j_1 : (nI i : Int32).toNatClampNeg = i := m_cl rfl (Nat.lt_of_lt_of_le hi hN) (by decide)
        refine va_aldq hx hb hK (ws := [(L 23 0, .inl (cy 7, 200, .inr (.inr (.inr (.inr (fun j => some (L 15 j)))))))]) (hP.one (Or.inl (tw_mem (f := 23) (i := 0) (by decide) rfl))) 0 7 rfl rfl (m_in rfl (Nat.lt_of_lt_of_le hi hN) (by decide)) dX5_copyFrom_176 ?_
        refine W.eq (g2 := F0 m 177 ls [.ref (L 15 i)]) (by first | (rw [j_1]; done) | (rw [j_1]; rfl)) ?_
        refine lv_aload_n hx hb dX5_copyFrom_177 rfl (lv_at hl 2 rfl) ?_
        refine va_get (D := (dC, dI)) (ws := [(K 0 0, .inr (5, [.ref (K 1 0), .ref (K 20 0), .ref (K 21 0), .ref (K 22 0), .ref (K 23 0), va_rf sr, .int ((a 0 0) 0), .int ((a 0 0) 1), .int ((a 0 0) 2), .int ((a 0 0) 3), .int ((a 0 0) 4), .int ((a 0 0) 5)]))]) (ci := 5) (v := .ref (K 23 0)) (C := RX5) (T := TX5) (N := 12) hx hb hts tl_X5 hown hK (hP.one (Or.inr (tw_mem (f := 0) (i := 0) (by decide) rfl))) 0 rfl rfl 4 (by decide) (hts _ tw_881) (fun _ h9 => h9) rfl dX5_copyFrom_178 ?_
        refine lv_iload_n hx hb dX5_copyFrom_181 rfl (lv_at hl 0 rfl) ?_
        have j_2 : (nI i : Int32).toNatClampNeg = i := m_cl rfl (Nat.lt_of_lt_of_le hi hN) (by decide)
        refine va_aldq hx hb hK (ws := [(K 23 0, .inl (cy 7, 200, .inr (.inr (.inr (.inr (fun j => some (K 15 j)))))))]) (hP.one (Or.inr (tw_mem (f := 23) (i := 0) (by decide) rfl))) 0 7 rfl rfl (m_in rfl (Nat.lt_of_lt_of_le hi hN) (by decide)) dX5_copyFrom_182 ?_
        refine W.eq (g2 := F0 m 183 ls [.ref (K 15 i), .ref (L 15 i)]) (by first | (rw [j_2]; done) | (rw [j_2]; rfl)) ?_
        have hFc := m_free (C := (fun q e => TW cy L none b5 ((0, κ.2)) τ q e ∨ TW cy K sr a μ ν q e)) hP hS hA (fun _ _ h => h)
        refine va_callv (va_runV (As := [.ref (K 15 i)]) (rest := []) ⟨hx, hb, hml, hown, hts⟩ (c_Vehicle_copyFrom l dC dI cy L b5 ((0, κ.2)) τ K sr a μ ν i H.size hT hT2 hAP (Nat.lt_of_lt_of_le hi hN)) (tp_cwV 1 hts tw_487 tw_488 tw_489 tw_29 tw_490 rfl rfl (by decide +kernel) ⟨Nat.le_of_ble_eq_true rfl, Nat.le_of_ble_eq_true rfl⟩) ⟨m_blind, va_recv hK (hP.one (e := .inr (7, [.int ((b5 15 i) 0), .int ((b5 15 i) 1), .int ((b5 15 i) 2), .int ((b5 15 i) 3), .int ((b5 15 i) 4), .int ((b5 15 i) 5), .int ((b5 15 i) 6), .int ((b5 15 i) 7), .int ((b5 15 i) 8), .int ((b5 15 i) 9), .int ((b5 15 i) 10), .int ((b5 15 i) 11), .ref (L 16 i)])) (Or.inl (tw_mem (f := 15) (i := i) (Nat.lt_of_lt_of_le hi hN) rfl))) (ci := 7) (q0 := 0) rfl rfl, fun U hU hW => ⟨rfl, m_pay hK hP hE (fun _ _ h => h) U hU hW⟩⟩ rfl rfl hl.1 rfl (lv_room (Nat.le_of_ble_eq_true rfl)) dX5_copyFrom_183 ⟨(by show (((0 + 0) + 0 * (nN a)) + 0 * (nFl a)) + 0 * i + 0 ≤ 0; omega), (by show (((0 + 0) + 0 * (nN a)) + 0 * (nFl a)) + 0 * i + 0 ≤ 0; omega)⟩) hS (fun q _ h => hFc q h) hFc (fun u t H1 locs ht hvm hpo hB hz1 hk1 hS => ?_)
        have hP1 := hB
        rw [ht] at hP1
        have hP : mw (dC, dI) vwCl A (fun q e => TW cy L none (V_copy b5 a i) ((0, κ.2)) τ q e ∨ TW cy K sr a μ ν q e) H1 := hP.join (fun _ _ h => h) hk1 hFc hP1 (fun _ _ h => Or.inl h)
        generalize H1 = H at hP hS ⊢
        clear hP1 hk1 hFc
        obtain ⟨b6, eb6⟩ : ∃ z : St, z = V_copy b5 a i := ⟨_, rfl⟩
        rw [← eb6] at hP
        refine lv_iinc (v := nI (i + 1)) (lv' := [(2, .int (nI (i + 1))), (0, .ref (L 0 0)), (1, .ref (K 0 0))]) hx hb dX5_copyFrom_186 hl (k := 0) rfl (nI_1 i) (by decide) rfl (fun ls hl => ?_)
        refine lv_goto (tgt := 163) hx hb dX5_copyFrom_189 (by decide) ?_
        have e9 : b6 = itN (T_cpv a) (i + 1) b4 := by
          rw [eb6, eb5]
          rfl
        rw [e9] at hP
        refine W.widen (k := (fun i => (((0 + 0) + 0 * (nN a)) + 0 * (nFl a)) + 0 * i) (i + 1)) (n := (fun i => (((0 + 0) + 0 * (nN a)) + 0 * (nFl a)) + 0 * i) (i + 1)) (by show _ ≤ (((0 + 0) + 0 * (nN a)) + 0 * (nFl a)) + 0 * (i + 1); omega) (by show _ ≤ (((0 + 0) + 0 * (nN a)) + 0 * (nFl a)) + 0 * (i + 1); omega) ?_
        exact ih () _ _ ls ⟨hP, hS, lv_sub hl [0, 1, 2] rfl⟩
    · rintro i _ H locs ls hi ⟨hP, hS, hl⟩ ih
      have hl : lv_has ls 4 [(2, .int (nI i)), (0, .ref (L 0 0)), (1, .ref (K 0 0))] := hl
      obtain ⟨b4, eb4⟩ : ∃ z : St, z = itN (T_cpf a) i b3 := ⟨_, rfl⟩
      rw [← eb4] at hP
      have h0b4 : ∀ k, k < 6 → b4 0 0 k = a 0 0 k := fun k hk => by rw [eb4]; exact itN_keep (P := fun c => c 0 0 k = a 0 0 k) (h0b3 k hk) (fun i c h => by rw [T_cpf_0]; exact h) _
      refine lv_iload_n hx hb dX5_copyFrom_107 rfl (lv_at hl 0 rfl) ?_
      refine lv_aload_n hx hb dX5_copyFrom_108 rfl (lv_at hl 1 rfl) ?_
      refine va_get (D := (dC, dI)) (ws := [(L 0 0, .inr (5, [.ref (L 1 0), .ref (L 20 0), .ref (L 21 0), .ref (L 22 0), .ref (L 23 0), .null, .int ((b4 0 0) 0), .int ((b4 0 0) 1), .int ((b4 0 0) 2), .int ((b4 0 0) 3), .int ((b4 0 0) 4), .int ((b4 0 0) 5)]))]) (ci := 5) (v := .int ((b4 0 0) 3)) (C := RX5) (T := TX5) (N := 12) hx hb hts tl_X5 hown hK (hP.one (Or.inl (tw_mem (f := 0) (i := 0) (by decide) rfl))) 0 rfl rfl 9 (by decide) (hts _ tw_891) (fun _ h9 => h9) rfl dX5_copyFrom_109 ?_
      refine W.eq (g2 := F0 m 112 ls [.int (nI (nFl a)), .int (nI i)]) (by rw [h0b4 3 (by decide), in_nI hw.1.2.2.1]) ?_
      refine lv_icmp_ge (tgt := 161) hx hb dX5_copyFrom_112 (by decide) (fun c_5 => absurd c_5 (nI_ge hi (by omega))) (fun _ => ?_)
      refine lv_aload_n hx hb dX5_copyFrom_115 rfl (lv_at hl 2 rfl) ?_
      refine va_get (D := (dC, dI)) (ws := [(K 0 0, .inr (5, [.ref (K 1 0), .ref (K 20 0), .ref (K 21 0), .ref (K 22 0), .ref (K 23 0), va_rf sr, .int ((a 0 0) 0), .int ((a 0 0) 1), .int ((a 0 0) 2), .int ((a 0 0) 3), .int ((a 0 0) 4), .int ((a 0 0) 5)]))]) (ci := 5) (v := .ref (K 22 0)) (C := RX5) (T := TX5) (N := 12) hx hb hts tl_X5 hown hK (hP.one (Or.inr (tw_mem (f := 0) (i := 0) (by decide) rfl))) 0 rfl rfl 3 (by decide) (hts _ tw_879) (fun _ h9 => h9) rfl dX5_copyFrom_116 ?_
      refine lv_iload_n hx hb dX5_copyFrom_119 rfl (lv_at hl 0 rfl) ?_
      have j_3 : (nI i : Int32).toNatClampNeg = i := m_cl rfl (Nat.lt_of_lt_of_le hi hN) (by decide)
      refine va_aldq hx hb hK (ws := [(K 22 0, .inl (cy 6, 10, .inr (.inr (.inr (.inr (fun j => some (K 14 j)))))))]) (hP.one (Or.inr (tw_mem (f := 22) (i := 0) (by decide) rfl))) 0 6 rfl rfl (m_in rfl (Nat.lt_of_lt_of_le hi hN) (by decide)) dX5_copyFrom_120 ?_
      refine W.eq (g2 := F0 m 121 ls [.ref (K 14 i)]) (by first | (rw [j_3]; done) | (rw [j_3]; rfl)) ?_
      refine lv_astore_n (lv' := [(3, .ref (K 14 i)), (2, .int (nI i)), (0, .ref (L 0 0)), (1, .ref (K 0 0))]) hx hb dX5_copyFrom_121 rfl hl (by decide) rfl (fun ls hl => ?_)
      refine lv_aload_n hx hb dX5_copyFrom_122 rfl (lv_at hl 2 rfl) ?_
      refine va_get (D := (dC, dI)) (ws := [(L 0 0, .inr (5, [.ref (L 1 0), .ref (L 20 0), .ref (L 21 0), .ref (L 22 0), .ref (L 23 0), .null, .int ((b4 0 0) 0), .int ((b4 0 0) 1), .int ((b4 0 0) 2), .int ((b4 0 0) 3), .int ((b4 0 0) 4), .int ((b4 0 0) 5)]))]) (ci := 5) (v := .ref (L 22 0)) (C := RX5) (T := TX5) (N := 12) hx hb hts tl_X5 hown hK (hP.one (Or.inl (tw_mem (f := 0) (i := 0) (by decide) rfl))) 0 rfl rfl 3 (by decide) (hts _ tw_879) (fun _ h9 => h9) rfl dX5_copyFrom_123 ?_
      refine lv_iload_n hx hb dX5_copyFrom_126 rfl (lv_at hl 1 rfl) ?_
      have j_4 : (nI i : Int32).toNatClampNeg = i := m_cl rfl (Nat.lt_of_lt_of_le hi hN) (by decide)
      refine va_aldq hx hb hK (ws := [(L 22 0, .inl (cy 6, 10, .inr (.inr (.inr (.inr (fun j => some (L 14 j)))))))]) (hP.one (Or.inl (tw_mem (f := 22) (i := 0) (by decide) rfl))) 0 6 rfl rfl (m_in rfl (Nat.lt_of_lt_of_le hi hN) (by decide)) dX5_copyFrom_127 ?_
      refine W.eq (g2 := F0 m 128 ls [.ref (L 14 i)]) (by first | (rw [j_4]; done) | (rw [j_4]; rfl)) ?_
      refine lv_aload_n hx hb dX5_copyFrom_128 rfl (lv_at hl 0 rfl) ?_
      refine va_getN (D := (dC, dI)) (ws := [(K 14 i, .inr (0, [.int ((a 14 i) 0), .int ((a 14 i) 1), .int ((a 14 i) 2), .int ((a 14 i) 3), .int ((a 14 i) 4), .int ((a 14 i) 5), .int ((a 14 i) 6), .int ((a 14 i) 7), .int ((a 14 i) 8), .int ((a 14 i) 9), .int ((a 14 i) 10), .int ((a 14 i) 11)]))]) (ci := 0) (v := .int ((a 14 i) 0)) (C := RX0) (T := TX0) (N := 12) hx hb hts tl_X0 hown hK (hP.one (Or.inr (tw_mem (f := 14) (i := i) (Nat.lt_of_lt_of_le hi hN) rfl))) 0 rfl rfl 0 (by decide) (va_Nw.use rfl (te_f31 hE)) (fun _ h9 => h9) rfl dX5_copyFrom_129 ?_
      refine lv_aload_n hx hb dX5_copyFrom_132 rfl (lv_at hl 0 rfl) ?_
      refine va_getN (D := (dC, dI)) (ws := [(K 14 i, .inr (0, [.int ((a 14 i) 0), .int ((a 14 i) 1), .int ((a 14 i) 2), .int ((a 14 i) 3), .int ((a 14 i) 4), .int ((a 14 i) 5), .int ((a 14 i) 6), .int ((a 14 i) 7), .int ((a 14 i) 8), .int ((a 14 i) 9), .int ((a 14 i) 10), .int ((a 14 i) 11)]))]) (ci := 0) (v := .int ((a 14 i) 1)) (C := RX0) (T := TX0) (N := 12) hx hb hts tl_X0 hown hK (hP.one (Or.inr (tw_mem (f := 14) (i := i) (Nat.lt_of_lt_of_le hi hN) rfl))) 0 rfl rfl 1 (by decide) (va_Nw.use rfl (te_f32 hE)) (fun _ h9 => h9) rfl dX5_copyFrom_133 ?_
      refine lv_aload_n hx hb dX5_copyFrom_136 rfl (lv_at hl 0 rfl) ?_
      refine va_getN (D := (dC, dI)) (ws := [(K 14 i, .inr (0, [.int ((a 14 i) 0), .int ((a 14 i) 1), .int ((a 14 i) 2), .int ((a 14 i) 3), .int ((a 14 i) 4), .int ((a 14 i) 5), .int ((a 14 i) 6), .int ((a 14 i) 7), .int ((a 14 i) 8), .int ((a 14 i) 9), .int ((a 14 i) 10), .int ((a 14 i) 11)]))]) (ci := 0) (v := .int ((a 14 i) 2)) (C := RX0) (T := TX0) (N := 12) hx hb hts tl_X0 hown hK (hP.one (Or.inr (tw_mem (f := 14) (i := i) (Nat.lt_of_lt_of_le hi hN) rfl))) 0 rfl rfl 2 (by decide) (va_Nw.use rfl (te_f33 hE)) (fun _ h9 => h9) rfl dX5_copyFrom_137 ?_
      refine lv_aload_n hx hb dX5_copyFrom_140 rfl (lv_at hl 0 rfl) ?_
      refine va_getN (D := (dC, dI)) (ws := [(K 14 i, .inr (0, [.int ((a 14 i) 0), .int ((a 14 i) 1), .int ((a 14 i) 2), .int ((a 14 i) 3), .int ((a 14 i) 4), .int ((a 14 i) 5), .int ((a 14 i) 6), .int ((a 14 i) 7), .int ((a 14 i) 8), .int ((a 14 i) 9), .int ((a 14 i) 10), .int ((a 14 i) 11)]))]) (ci := 0) (v := .int ((a 14 i) 3)) (C := RX0) (T := TX0) (N := 12) hx hb hts tl_X0 hown hK (hP.one (Or.inr (tw_mem (f := 14) (i := i) (Nat.lt_of_lt_of_le hi hN) rfl))) 0 rfl rfl 3 (by decide) (va_Nw.use rfl (te_f34 hE)) (fun _ h9 => h9) rfl dX5_copyFrom_141 ?_
      refine lv_aload_n hx hb dX5_copyFrom_144 rfl (lv_at hl 0 rfl) ?_
      refine va_getN (D := (dC, dI)) (ws := [(K 14 i, .inr (0, [.int ((a 14 i) 0), .int ((a 14 i) 1), .int ((a 14 i) 2), .int ((a 14 i) 3), .int ((a 14 i) 4), .int ((a 14 i) 5), .int ((a 14 i) 6), .int ((a 14 i) 7), .int ((a 14 i) 8), .int ((a 14 i) 9), .int ((a 14 i) 10), .int ((a 14 i) 11)]))]) (ci := 0) (v := .int ((a 14 i) 4)) (C := RX0) (T := TX0) (N := 12) hx hb hts tl_X0 hown hK (hP.one (Or.inr (tw_mem (f := 14) (i := i) (Nat.lt_of_lt_of_le hi hN) rfl))) 0 rfl rfl 4 (by decide) (va_Nw.use rfl (te_f35 hE)) (fun _ h9 => h9) rfl dX5_copyFrom_145 ?_
      refine lv_aload_n hx hb dX5_copyFrom_148 rfl (lv_at hl 0 rfl) ?_
      refine va_getN (D := (dC, dI)) (ws := [(K 14 i, .inr (0, [.int ((a 14 i) 0), .int ((a 14 i) 1), .int ((a 14 i) 2), .int ((a 14 i) 3), .int ((a 14 i) 4), .int ((a 14 i) 5), .int ((a 14 i) 6), .int ((a 14 i) 7), .int ((a 14 i) 8), .int ((a 14 i) 9), .int ((a 14 i) 10), .int ((a 14 i) 11)]))]) (ci := 0) (v := .int ((a 14 i) 5)) (C := RX0) (T := TX0) (N := 12) hx hb hts tl_X0 hown hK (hP.one (Or.inr (tw_mem (f := 14) (i := i) (Nat.lt_of_lt_of_le hi hN) rfl))) 0 rfl rfl 5 (by decide) (va_Nw.use rfl (te_f36 hE)) (fun _ h9 => h9) rfl dX5_copyFrom_149 ?_
      have hFc := m_free (C := (TW cy L none b4 ((0, κ.2)) τ)) hP hS hA (fun _ _ h => Or.inl h)
      refine va_callv (va_runV (As := [.int ((a 14 i) 0), .int ((a 14 i) 1), .int ((a 14 i) 2), .int ((a 14 i) 3), .int ((a 14 i) 4), .int ((a 14 i) 5)]) (rest := []) ⟨hx, hb, hml, hown, hts⟩ (c_Flow_tell l dC dI cy L none b4 ((0, κ.2)) τ i ((a 14 i) 0) ((a 14 i) 1) ((a 14 i) 2) ((a 14 i) 3) ((a 14 i) 4) ((a 14 i) 5) H.size hT (Nat.lt_of_lt_of_le hi hN)) (tp_cwV 6 hts tw_483 tw_484 tw_485 tw_28 tw_486 rfl rfl (by decide +kernel) ⟨Nat.le_of_ble_eq_true rfl, Nat.le_of_ble_eq_true rfl⟩) ⟨m_blind, va_recv hK (hP.one (e := .inr (0, [.int ((b4 14 i) 0), .int ((b4 14 i) 1), .int ((b4 14 i) 2), .int ((b4 14 i) 3), .int ((b4 14 i) 4), .int ((b4 14 i) 5), .int ((b4 14 i) 6), .int ((b4 14 i) 7), .int ((b4 14 i) 8), .int ((b4 14 i) 9), .int ((b4 14 i) 10), .int ((b4 14 i) 11)])) (Or.inl (tw_mem (f := 14) (i := i) (Nat.lt_of_lt_of_le hi hN) rfl))) (ci := 0) (q0 := 0) rfl rfl, fun U hU hW => ⟨rfl, m_pay hK hP hE (fun _ _ h => Or.inl h) U hU hW⟩⟩ rfl rfl hl.1 rfl (lv_room (Nat.le_of_ble_eq_true rfl)) dX5_copyFrom_152 ⟨(by show ((0 + 0) + 0 * (nN a)) + 0 * i + 0 ≤ 0; omega), (by show ((0 + 0) + 0 * (nN a)) + 0 * i + 0 ≤ 0; omega)⟩) hS (fun q _ h => hFc q h) hFc (fun u t H1 locs ht hvm hpo hB hz1 hk1 hS => ?_)
      have hP1 := hB
      rw [ht] at hP1
      have hP : mw (dC, dI) vwCl A (fun q e => TW cy L none (F_tell b4 i ((a 14 i) 0) ((a 14 i) 1) ((a 14 i) 2) ((a 14 i) 3) ((a 14 i) 4) ((a 14 i) 5)) ((0, κ.2)) τ q e ∨ TW cy K sr a μ ν q e) H1 := hP.join (fun _ _ h => Or.inl h) hk1 hFc hP1 (fun q e h => h.elim Or.inl (fun h => Or.inr ⟨Or.inr h, fun y hy => ap_dis hAP h hy⟩))
      generalize H1 = H at hP hS ⊢
      clear hP1 hk1 hFc
      obtain ⟨b5, eb5⟩ : ∃ z : St, z = F_tell b4 i ((a 14 i) 0) ((a 14 i) 1) ((a 14 i) 2) ((a 14 i) 3) ((a 14 i) 4) ((a 14 i) 5) := ⟨_, rfl⟩
      rw [← eb5] at hP
      refine lv_iinc (v := nI (i + 1)) (lv' := [(2, .int (nI (i + 1))), (3, .ref (K 14 i)), (0, .ref (L 0 0)), (1, .ref (K 0 0))]) hx hb dX5_copyFrom_155 hl (k := 1) rfl (nI_1 i) (by decide) rfl (fun ls hl => ?_)
      refine lv_goto (tgt := 107) hx hb dX5_copyFrom_158 (by decide) ?_
      have e9 : b5 = itN (T_cpf a) (i + 1) b3 := by
        rw [eb5, eb4]
        rfl
      rw [e9] at hP
      refine W.widen (k := (fun i => ((0 + 0) + 0 * (nN a)) + 0 * i) (i + 1)) (n := (fun i => ((0 + 0) + 0 * (nN a)) + 0 * i) (i + 1)) (by show _ ≤ ((0 + 0) + 0 * (nN a)) + 0 * (i + 1); omega) (by show _ ≤ ((0 + 0) + 0 * (nN a)) + 0 * (i + 1); omega) ?_
      exact ih () _ _ ls ⟨hP, hS, lv_sub hl [0, 2, 3] rfl⟩
  · rintro i _ H locs ls hi ⟨hP, hS, hl⟩ ih
    have hl : lv_has ls 4 [(2, .int (nI i)), (0, .ref (L 0 0)), (1, .ref (K 0 0))] := hl
    obtain ⟨b3, eb3⟩ : ∃ z : St, z = itN (T_cpn a) i b2 := ⟨_, rfl⟩
    rw [← eb3] at hP
    have h0b3 : ∀ k, k < 6 → b3 0 0 k = a 0 0 k := fun k hk => by rw [eb3]; exact itN_keep (P := fun c => c 0 0 k = a 0 0 k) (h0b2 k hk) (fun i c h => by rw [T_cpn_0]; exact h) _
    refine lv_iload_n hx hb dX5_copyFrom_61 rfl (lv_at hl 0 rfl) ?_
    refine lv_aload_n hx hb dX5_copyFrom_62 rfl (lv_at hl 1 rfl) ?_
    refine va_get (D := (dC, dI)) (ws := [(L 0 0, .inr (5, [.ref (L 1 0), .ref (L 20 0), .ref (L 21 0), .ref (L 22 0), .ref (L 23 0), .null, .int ((b3 0 0) 0), .int ((b3 0 0) 1), .int ((b3 0 0) 2), .int ((b3 0 0) 3), .int ((b3 0 0) 4), .int ((b3 0 0) 5)]))]) (ci := 5) (v := .int ((b3 0 0) 2)) (C := RX5) (T := TX5) (N := 12) hx hb hts tl_X5 hown hK (hP.one (Or.inl (tw_mem (f := 0) (i := 0) (by decide) rfl))) 0 rfl rfl 8 (by decide) (hts _ tw_890) (fun _ h9 => h9) rfl dX5_copyFrom_63 ?_
    refine W.eq (g2 := F0 m 66 ls [.int (nI (nN a)), .int (nI i)]) (by rw [h0b3 2 (by decide), in_nI hw.1.2.1]) ?_
    refine lv_icmp_ge (tgt := 105) hx hb dX5_copyFrom_66 (by decide) (fun c_6 => absurd c_6 (nI_ge hi (by omega))) (fun _ => ?_)
    refine lv_aload_n hx hb dX5_copyFrom_69 rfl (lv_at hl 1 rfl) ?_
    refine va_get (D := (dC, dI)) (ws := [(L 0 0, .inr (5, [.ref (L 1 0), .ref (L 20 0), .ref (L 21 0), .ref (L 22 0), .ref (L 23 0), .null, .int ((b3 0 0) 0), .int ((b3 0 0) 1), .int ((b3 0 0) 2), .int ((b3 0 0) 3), .int ((b3 0 0) 4), .int ((b3 0 0) 5)]))]) (ci := 5) (v := .ref (L 20 0)) (C := RX5) (T := TX5) (N := 12) hx hb hts tl_X5 hown hK (hP.one (Or.inl (tw_mem (f := 0) (i := 0) (by decide) rfl))) 0 rfl rfl 1 (by decide) (hts _ tw_875) (fun _ h9 => h9) rfl dX5_copyFrom_70 ?_
    refine lv_iload_n hx hb dX5_copyFrom_73 rfl (lv_at hl 0 rfl) ?_
    have j_5 : (nI i : Int32).toNatClampNeg = i := m_cl rfl (Nat.lt_of_lt_of_le hi hN) (by decide)
    refine va_aldq hx hb hK (ws := [(L 20 0, .inl (cy 4, 12, .inr (.inr (.inr (.inr (fun j => some (L 8 j)))))))]) (hP.one (Or.inl (tw_mem (f := 20) (i := 0) (by decide) rfl))) 0 4 rfl rfl (m_in rfl (Nat.lt_of_lt_of_le hi hN) (by decide)) dX5_copyFrom_74 ?_
    refine W.eq (g2 := F0 m 75 ls [.ref (L 8 i)]) (by first | (rw [j_5]; done) | (rw [j_5]; rfl)) ?_
    refine lv_aload_n hx hb dX5_copyFrom_75 rfl (lv_at hl 2 rfl) ?_
    refine va_get (D := (dC, dI)) (ws := [(K 0 0, .inr (5, [.ref (K 1 0), .ref (K 20 0), .ref (K 21 0), .ref (K 22 0), .ref (K 23 0), va_rf sr, .int ((a 0 0) 0), .int ((a 0 0) 1), .int ((a 0 0) 2), .int ((a 0 0) 3), .int ((a 0 0) 4), .int ((a 0 0) 5)]))]) (ci := 5) (v := .ref (K 20 0)) (C := RX5) (T := TX5) (N := 12) hx hb hts tl_X5 hown hK (hP.one (Or.inr (tw_mem (f := 0) (i := 0) (by decide) rfl))) 0 rfl rfl 1 (by decide) (hts _ tw_875) (fun _ h9 => h9) rfl dX5_copyFrom_76 ?_
    refine lv_iload_n hx hb dX5_copyFrom_79 rfl (lv_at hl 0 rfl) ?_
    have j_6 : (nI i : Int32).toNatClampNeg = i := m_cl rfl (Nat.lt_of_lt_of_le hi hN) (by decide)
    refine va_aldq hx hb hK (ws := [(K 20 0, .inl (cy 4, 12, .inr (.inr (.inr (.inr (fun j => some (K 8 j)))))))]) (hP.one (Or.inr (tw_mem (f := 20) (i := 0) (by decide) rfl))) 0 4 rfl rfl (m_in rfl (Nat.lt_of_lt_of_le hi hN) (by decide)) dX5_copyFrom_80 ?_
    refine W.eq (g2 := F0 m 81 ls [.ref (K 8 i), .ref (L 8 i)]) (by first | (rw [j_6]; done) | (rw [j_6]; rfl)) ?_
    have hFc := m_free (C := (fun q e => TW cy L none b3 ((0, κ.2)) τ q e ∨ TW cy K sr a μ ν q e)) hP hS hA (fun _ _ h => h)
    refine va_callv (va_runV (As := [.ref (K 8 i)]) (rest := []) ⟨hx, hb, hml, hown, hts⟩ (c_Signal_copyFrom l dC dI cy L b3 ((0, κ.2)) τ K sr a μ ν i H.size hT hT2 hAP (Nat.lt_of_lt_of_le hi hN)) (tp_cwV 1 hts tw_477 tw_478 tw_479 tw_27 tw_480 rfl rfl (by decide +kernel) ⟨Nat.le_of_ble_eq_true rfl, Nat.le_of_ble_eq_true rfl⟩) ⟨m_blind, va_recv hK (hP.one (e := .inr (4, [.ref (L 9 i), .ref (L 10 i), .ref (L 11 i), .int ((b3 8 i) 0), .int ((b3 8 i) 1), .int ((b3 8 i) 2)])) (Or.inl (tw_mem (f := 8) (i := i) (Nat.lt_of_lt_of_le hi hN) rfl))) (ci := 4) (q0 := 0) rfl rfl, fun U hU hW => ⟨rfl, m_pay hK hP hE (fun _ _ h => h) U hU hW⟩⟩ rfl rfl hl.1 rfl (lv_room (Nat.le_of_ble_eq_true rfl)) dX5_copyFrom_81 ⟨(by show (0 + 0) + 0 * i + 0 ≤ 0; omega), (by show (0 + 0) + 0 * i + 0 ≤ 0; omega)⟩) hS (fun q _ h => hFc q h) hFc (fun u t H1 locs ht hvm hpo hB hz1 hk1 hS => ?_)
    have hP1 := hB
    rw [ht] at hP1
    have hP : mw (dC, dI) vwCl A (fun q e => TW cy L none (S_copy b3 a i) ((0, κ.2)) τ q e ∨ TW cy K sr a μ ν q e) H1 := hP.join (fun _ _ h => h) hk1 hFc hP1 (fun _ _ h => Or.inl h)
    generalize H1 = H at hP hS ⊢
    clear hP1 hk1 hFc
    obtain ⟨b4, eb4⟩ : ∃ z : St, z = S_copy b3 a i := ⟨_, rfl⟩
    rw [← eb4] at hP
    refine lv_aload_n hx hb dX5_copyFrom_84 rfl (lv_at hl 1 rfl) ?_
    refine va_get (D := (dC, dI)) (ws := [(L 0 0, .inr (5, [.ref (L 1 0), .ref (L 20 0), .ref (L 21 0), .ref (L 22 0), .ref (L 23 0), .null, .int ((b4 0 0) 0), .int ((b4 0 0) 1), .int ((b4 0 0) 2), .int ((b4 0 0) 3), .int ((b4 0 0) 4), .int ((b4 0 0) 5)]))]) (ci := 5) (v := .ref (L 21 0)) (C := RX5) (T := TX5) (N := 12) hx hb hts tl_X5 hown hK (hP.one (Or.inl (tw_mem (f := 0) (i := 0) (by decide) rfl))) 0 rfl rfl 2 (by decide) (hts _ tw_877) (fun _ h9 => h9) rfl dX5_copyFrom_85 ?_
    refine lv_iload_n hx hb dX5_copyFrom_88 rfl (lv_at hl 0 rfl) ?_
    have j_7 : (nI i : Int32).toNatClampNeg = i := m_cl rfl (Nat.lt_of_lt_of_le hi hN) (by decide)
    refine va_aldq hx hb hK (ws := [(L 21 0, .inl (cy 5, 12, .inr (.inr (.inr (.inr (fun j => some (L 12 j)))))))]) (hP.one (Or.inl (tw_mem (f := 21) (i := 0) (by decide) rfl))) 0 5 rfl rfl (m_in rfl (Nat.lt_of_lt_of_le hi hN) (by decide)) dX5_copyFrom_89 ?_
    refine W.eq (g2 := F0 m 90 ls [.ref (L 12 i)]) (by first | (rw [j_7]; done) | (rw [j_7]; rfl)) ?_
    refine lv_aload_n hx hb dX5_copyFrom_90 rfl (lv_at hl 2 rfl) ?_
    refine va_get (D := (dC, dI)) (ws := [(K 0 0, .inr (5, [.ref (K 1 0), .ref (K 20 0), .ref (K 21 0), .ref (K 22 0), .ref (K 23 0), va_rf sr, .int ((a 0 0) 0), .int ((a 0 0) 1), .int ((a 0 0) 2), .int ((a 0 0) 3), .int ((a 0 0) 4), .int ((a 0 0) 5)]))]) (ci := 5) (v := .ref (K 21 0)) (C := RX5) (T := TX5) (N := 12) hx hb hts tl_X5 hown hK (hP.one (Or.inr (tw_mem (f := 0) (i := 0) (by decide) rfl))) 0 rfl rfl 2 (by decide) (hts _ tw_877) (fun _ h9 => h9) rfl dX5_copyFrom_91 ?_
    refine lv_iload_n hx hb dX5_copyFrom_94 rfl (lv_at hl 0 rfl) ?_
    have j_8 : (nI i : Int32).toNatClampNeg = i := m_cl rfl (Nat.lt_of_lt_of_le hi hN) (by decide)
    refine va_aldq hx hb hK (ws := [(K 21 0, .inl (cy 5, 12, .inr (.inr (.inr (.inr (fun j => some (K 12 j)))))))]) (hP.one (Or.inr (tw_mem (f := 21) (i := 0) (by decide) rfl))) 0 5 rfl rfl (m_in rfl (Nat.lt_of_lt_of_le hi hN) (by decide)) dX5_copyFrom_95 ?_
    refine W.eq (g2 := F0 m 96 ls [.ref (K 12 i), .ref (L 12 i)]) (by first | (rw [j_8]; done) | (rw [j_8]; rfl)) ?_
    have hFc := m_free (C := (fun q e => TW cy L none b4 ((0, κ.2)) τ q e ∨ TW cy K sr a μ ν q e)) hP hS hA (fun _ _ h => h)
    refine va_callv (va_runV (As := [.ref (K 12 i)]) (rest := []) ⟨hx, hb, hml, hown, hts⟩ (c_Row_copyFrom_wait l dC dI cy L b4 ((0, κ.2)) τ K sr a μ ν i H.size hT hT2 hAP (Nat.lt_of_lt_of_le hi hN) (hw.2.2.1 i (Nat.lt_of_lt_of_le hi hN)).2) (tp_cwV 1 hts tw_482 tw_473 tw_474 tw_24 tw_475 rfl rfl (by decide +kernel) ⟨Nat.le_of_ble_eq_true rfl, Nat.le_of_ble_eq_true rfl⟩) ⟨m_blind, va_recv hK (hP.one (e := .inr (3, [.ref (L 13 i), .int ((b4 12 i) 0)])) (Or.inl (tw_mem (f := 12) (i := i) (Nat.lt_of_lt_of_le hi hN) rfl))) (ci := 3) (q0 := 0) rfl rfl, fun U hU hW => ⟨rfl, m_pay hK hP hE (fun _ _ h => h) U hU hW⟩⟩ rfl rfl hl.1 rfl (lv_room (Nat.le_of_ble_eq_true rfl)) dX5_copyFrom_96 ⟨(by show (0 + 0) + 0 * i + 0 + 0 ≤ 0; omega), (by show (0 + 0) + 0 * i + 0 + 0 ≤ 0; omega)⟩) hS (fun q _ h => hFc q h) hFc (fun u t H1 locs ht hvm hpo hB hz1 hk1 hS => ?_)
    have hP1 := hB
    rw [ht] at hP1
    have hP : mw (dC, dI) vwCl A (fun q e => TW cy L none (R_copy 12 13 b4 a i) ((0, κ.2)) τ q e ∨ TW cy K sr a μ ν q e) H1 := hP.join (fun _ _ h => h) hk1 hFc hP1 (fun _ _ h => Or.inl h)
    generalize H1 = H at hP hS ⊢
    clear hP1 hk1 hFc
    obtain ⟨b5, eb5⟩ : ∃ z : St, z = R_copy 12 13 b4 a i := ⟨_, rfl⟩
    rw [← eb5] at hP
    refine lv_iinc (v := nI (i + 1)) (lv' := [(2, .int (nI (i + 1))), (0, .ref (L 0 0)), (1, .ref (K 0 0))]) hx hb dX5_copyFrom_99 hl (k := 0) rfl (nI_1 i) (by decide) rfl (fun ls hl => ?_)
    refine lv_goto (tgt := 61) hx hb dX5_copyFrom_102 (by decide) ?_
    have e9 : b5 = itN (T_cpn a) (i + 1) b2 := by
      rw [eb5, eb4, eb3]
      rfl
    rw [e9] at hP
    refine W.widen (k := (fun i => (0 + 0) + 0 * i) (i + 1)) (n := (fun i => (0 + 0) + 0 * i) (i + 1)) (by show _ ≤ (0 + 0) + 0 * (i + 1); omega) (by show _ ≤ (0 + 0) + 0 * (i + 1); omega) ?_
    exact ih () _ _ ls ⟨hP, hS, lv_sub hl [0, 1, 2] rfl⟩

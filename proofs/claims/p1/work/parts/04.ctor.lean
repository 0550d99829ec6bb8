theorem tw_92 : Cond.methodLink RX3 3 ⟨"java/lang/Object", "<init>", "()V"⟩ ∈ tp_all := tp_mem 92 (by decide +kernel) rfl
theorem tw_64 : Cond.instanceMethod ⟨"java/lang/Object", "<init>", "()V"⟩ ∈ tp_all := tp_mem 64 (by decide +kernel) rfl
theorem tw_65 : Cond.code ⟨"java/lang/Object", "<init>", "()V"⟩ object_method_1_code 1 none ∈ tp_all := tp_mem 65 (by decide +kernel) rfl
theorem tw_93 : Cond.methodLink RX3 9 yJ9_max_7cf53 ∈ tp_all := tp_mem 93 (by decide +kernel) rfl
theorem tw_94 : Cond.static yJ9_max_7cf53 ∈ tp_all := tp_mem 94 (by decide +kernel) rfl
theorem tw_43 : Cond.initialized RJ9 ∈ tp_all := tp_mem 43 (by decide +kernel) rfl
theorem tw_95 : Cond.code yJ9_max_7cf53 cJ9_max_7cf53 2 (some .int) ∈ tp_all := tp_mem 95 (by decide +kernel) rfl
theorem tw_105 : Cond.arrayClass .int ∈ tp_all := tp_mem 105 (by decide +kernel) rfl
theorem tw_96 : Cond.fieldLink RX3 15 "Turnpike$Row" "number" "[I" ∈ tp_all := tp_mem 96 (by decide +kernel) rfl
theorem tw_86 : Cond.methodLink RX1 3 ⟨"java/lang/Object", "<init>", "()V"⟩ ∈ tp_all := tp_mem 86 (by decide +kernel) rfl
theorem tw_122 : Cond.fieldLink RX1 9 "Turnpike$Link" "slowTicks" "I" ∈ tp_all := tp_mem 122 (by decide +kernel) rfl
theorem tw_87 : Cond.classLink RX1 15 RX3 ∈ tp_all := tp_mem 87 (by decide +kernel) rfl
theorem tw_88 : Cond.instantiable RX3 2 ∈ tp_all := tp_mem 88 (by decide +kernel) rfl
theorem tw_42 : Cond.initialized RX3 ∈ tp_all := tp_mem 42 (by decide +kernel) rfl
theorem tw_91 : Cond.code yX3_init cX3_init 2 none ∈ tp_all := tp_mem 91 (by decide +kernel) rfl
theorem tw_89 : Cond.methodLink RX1 17 yX3_init ∈ tp_all := tp_mem 89 (by decide +kernel) rfl
theorem tw_90 : Cond.instanceMethod yX3_init ∈ tp_all := tp_mem 90 (by decide +kernel) rfl
theorem tw_130 : Cond.fieldLink RX1 20 "Turnpike$Link" "row" "LTurnpike$Row;" ∈ tp_all := tp_mem 130 (by decide +kernel) rfl
theorem tw_133 : Cond.fieldLink RX1 24 "Turnpike$Link" "ends" "LTurnpike$Row;" ∈ tp_all := tp_mem 133 (by decide +kernel) rfl
theorem tw_142 : Cond.fieldLink RX1 27 "Turnpike$Link" "wentOnto" "[I" ∈ tp_all := tp_mem 142 (by decide +kernel) rfl
theorem tw_218 : Cond.methodLink RX4 3 ⟨"java/lang/Object", "<init>", "()V"⟩ ∈ tp_all := tp_mem 218 (by decide +kernel) rfl
theorem tw_219 : Cond.fieldLink RX4 9 "Turnpike$Signal" "links" "[I" ∈ tp_all := tp_mem 219 (by decide +kernel) rfl
theorem tw_220 : Cond.fieldLink RX4 15 "Turnpike$Signal" "least" "[I" ∈ tp_all := tp_mem 220 (by decide +kernel) rfl
theorem tw_221 : Cond.fieldLink RX4 18 "Turnpike$Signal" "greatest" "[I" ∈ tp_all := tp_mem 221 (by decide +kernel) rfl
theorem tw_225 : Cond.fieldLink RX4 21 "Turnpike$Signal" "phase" "I" ∈ tp_all := tp_mem 225 (by decide +kernel) rfl
theorem tw_247 : Cond.methodLink RX0 1 ⟨"java/lang/Object", "<init>", "()V"⟩ ∈ tp_all := tp_mem 247 (by decide +kernel) rfl
theorem tw_256 : Cond.fieldLink RX0 7 "Turnpike$Flow" "period" "I" ∈ tp_all := tp_mem 256 (by decide +kernel) rfl
theorem tw_301 : Cond.methodLink RX7 3 ⟨"java/lang/Object", "<init>", "()V"⟩ ∈ tp_all := tp_mem 301 (by decide +kernel) rfl
theorem tw_329 : Cond.fieldLink RX7 9 "Turnpike$Vehicle" "way" "[I" ∈ tp_all := tp_mem 329 (by decide +kernel) rfl
theorem tw_206 : Cond.methodLink RX6 3 ⟨"java/lang/Object", "<init>", "()V"⟩ ∈ tp_all := tp_mem 206 (by decide +kernel) rfl
theorem tw_207 : Cond.classLink RX6 9 "[[J" ∈ tp_all := tp_mem 207 (by decide +kernel) rfl
theorem tw_213 : Cond.arrayClass .long ∈ tp_all := tp_mem 213 (by decide +kernel) rfl
theorem tw_209 : Cond.fieldLink RX6 11 "Turnpike$Trails" "words" "[[J" ∈ tp_all := tp_mem 209 (by decide +kernel) rfl
theorem tw_77 : Cond.methodLink RX2 3 ⟨"java/lang/Object", "<init>", "()V"⟩ ∈ tp_all := tp_mem 77 (by decide +kernel) rfl
theorem tw_78 : Cond.classLink RX2 9 RX1 ∈ tp_all := tp_mem 78 (by decide +kernel) rfl
theorem tw_177 : Cond.fieldLink RX2 11 "Turnpike$Roads" "link" "[LTurnpike$Link;" ∈ tp_all := tp_mem 177 (by decide +kernel) rfl
theorem tw_80 : Cond.classLink RX2 17 "[[I" ∈ tp_all := tp_mem 80 (by decide +kernel) rfl
theorem tw_182 : Cond.fieldLink RX2 19 "Turnpike$Roads" "costs" "[[I" ∈ tp_all := tp_mem 182 (by decide +kernel) rfl
theorem tw_82 : Cond.instantiable RX1 16 ∈ tp_all := tp_mem 82 (by decide +kernel) rfl
theorem tw_41 : Cond.initialized RX1 ∈ tp_all := tp_mem 41 (by decide +kernel) rfl
theorem tw_85 : Cond.code yX1_init cX1_init 1 none ∈ tp_all := tp_mem 85 (by decide +kernel) rfl
theorem tw_84 : Cond.instanceMethod yX1_init ∈ tp_all := tp_mem 84 (by decide +kernel) rfl
theorem te_m0 {U : State} (h : tp_E U) : va_Nw (.methodLinkNest "Turnpike$Roads" 22 yX1_init "Turnpike") U := h.2.1 _ (List.mem_of_getElem? (i := 0) rfl)
theorem dX3_init_0 : decode cX3_init 0 = .ok (.aload_n 0, 1) := by decide +kernel
theorem dX3_init_1 : decode cX3_init 1 = .ok (.invokespecial 3, 3) := by decide +kernel
theorem dX3_init_4 : decode cX3_init 4 = .ok (.aload_n 0, 1) := by decide +kernel
theorem dX3_init_5 : decode cX3_init 5 = .ok (.iload_n 1, 1) := by decide +kernel
theorem dX3_init_6 : decode cX3_init 6 = .ok (.iconst 0, 1) := by decide +kernel
theorem dX3_init_7 : decode cX3_init 7 = .ok (.invokestatic 9, 3) := by decide +kernel
theorem dX3_init_10 : decode cX3_init 10 = .ok (.newarray .int, 2) := by decide +kernel
theorem dX3_init_12 : decode cX3_init 12 = .ok (.putfield 15, 3) := by decide +kernel
theorem dX3_init_15 : decode cX3_init 15 = .ok (.return_, 1) := by decide +kernel
theorem dX1_init_0 : decode cX1_init 0 = .ok (.aload_n 0, 1) := by decide +kernel
theorem dX1_init_1 : decode cX1_init 1 = .ok (.invokespecial 3, 3) := by decide +kernel
theorem dX1_init_4 : decode cX1_init 4 = .ok (.aload_n 0, 1) := by decide +kernel
theorem dX1_init_5 : decode cX1_init 5 = .ok (.iconst (-1), 1) := by decide +kernel
theorem dX1_init_6 : decode cX1_init 6 = .ok (.putfield 9, 3) := by decide +kernel
theorem dX1_init_9 : decode cX1_init 9 = .ok (.aload_n 0, 1) := by decide +kernel
theorem dX1_init_10 : decode cX1_init 10 = .ok (.new 15, 3) := by decide +kernel
theorem dX1_init_13 : decode cX1_init 13 = .ok (.dup, 1) := by decide +kernel
theorem dX1_init_14 : decode cX1_init 14 = .ok (.bipush 30, 2) := by decide +kernel
theorem dX1_init_16 : decode cX1_init 16 = .ok (.invokespecial 17, 3) := by decide +kernel
theorem dX1_init_19 : decode cX1_init 19 = .ok (.putfield 20, 3) := by decide +kernel
theorem dX1_init_22 : decode cX1_init 22 = .ok (.aload_n 0, 1) := by decide +kernel
theorem dX1_init_23 : decode cX1_init 23 = .ok (.new 15, 3) := by decide +kernel
theorem dX1_init_26 : decode cX1_init 26 = .ok (.dup, 1) := by decide +kernel
theorem dX1_init_27 : decode cX1_init 27 = .ok (.bipush 30, 2) := by decide +kernel
theorem dX1_init_29 : decode cX1_init 29 = .ok (.invokespecial 17, 3) := by decide +kernel
theorem dX1_init_32 : decode cX1_init 32 = .ok (.putfield 24, 3) := by decide +kernel
theorem dX1_init_35 : decode cX1_init 35 = .ok (.aload_n 0, 1) := by decide +kernel
theorem dX1_init_36 : decode cX1_init 36 = .ok (.bipush 24, 2) := by decide +kernel
theorem dX1_init_38 : decode cX1_init 38 = .ok (.newarray .int, 2) := by decide +kernel
theorem dX1_init_40 : decode cX1_init 40 = .ok (.putfield 27, 3) := by decide +kernel
theorem dX1_init_43 : decode cX1_init 43 = .ok (.return_, 1) := by decide +kernel
theorem dX4_init_0 : decode cX4_init 0 = .ok (.aload_n 0, 1) := by decide +kernel
theorem dX4_init_1 : decode cX4_init 1 = .ok (.invokespecial 3, 3) := by decide +kernel
theorem dX4_init_4 : decode cX4_init 4 = .ok (.aload_n 0, 1) := by decide +kernel
theorem dX4_init_5 : decode cX4_init 5 = .ok (.iconst 4, 1) := by decide +kernel
theorem dX4_init_6 : decode cX4_init 6 = .ok (.newarray .int, 2) := by decide +kernel
theorem dX4_init_8 : decode cX4_init 8 = .ok (.putfield 9, 3) := by decide +kernel
theorem dX4_init_11 : decode cX4_init 11 = .ok (.aload_n 0, 1) := by decide +kernel
theorem dX4_init_12 : decode cX4_init 12 = .ok (.iconst 4, 1) := by decide +kernel
theorem dX4_init_13 : decode cX4_init 13 = .ok (.newarray .int, 2) := by decide +kernel
theorem dX4_init_15 : decode cX4_init 15 = .ok (.putfield 15, 3) := by decide +kernel
theorem dX4_init_18 : decode cX4_init 18 = .ok (.aload_n 0, 1) := by decide +kernel
theorem dX4_init_19 : decode cX4_init 19 = .ok (.iconst 4, 1) := by decide +kernel
theorem dX4_init_20 : decode cX4_init 20 = .ok (.newarray .int, 2) := by decide +kernel
theorem dX4_init_22 : decode cX4_init 22 = .ok (.putfield 18, 3) := by decide +kernel
theorem dX4_init_25 : decode cX4_init 25 = .ok (.aload_n 0, 1) := by decide +kernel
theorem dX4_init_26 : decode cX4_init 26 = .ok (.iconst (-1), 1) := by decide +kernel
theorem dX4_init_27 : decode cX4_init 27 = .ok (.putfield 21, 3) := by decide +kernel
theorem dX4_init_30 : decode cX4_init 30 = .ok (.return_, 1) := by decide +kernel
theorem dX0_init_0 : decode cX0_init 0 = .ok (.aload_n 0, 1) := by decide +kernel
theorem dX0_init_1 : decode cX0_init 1 = .ok (.invokespecial 1, 3) := by decide +kernel
theorem dX0_init_4 : decode cX0_init 4 = .ok (.aload_n 0, 1) := by decide +kernel
theorem dX0_init_5 : decode cX0_init 5 = .ok (.iconst 1, 1) := by decide +kernel
theorem dX0_init_6 : decode cX0_init 6 = .ok (.putfield 7, 3) := by decide +kernel
theorem dX0_init_9 : decode cX0_init 9 = .ok (.return_, 1) := by decide +kernel
theorem dX7_init_0 : decode cX7_init 0 = .ok (.aload_n 0, 1) := by decide +kernel
theorem dX7_init_1 : decode cX7_init 1 = .ok (.invokespecial 3, 3) := by decide +kernel
theorem dX7_init_4 : decode cX7_init 4 = .ok (.aload_n 0, 1) := by decide +kernel
theorem dX7_init_5 : decode cX7_init 5 = .ok (.bipush 11, 2) := by decide +kernel
theorem dX7_init_7 : decode cX7_init 7 = .ok (.newarray .int, 2) := by decide +kernel
theorem dX7_init_9 : decode cX7_init 9 = .ok (.putfield 9, 3) := by decide +kernel
theorem dX7_init_12 : decode cX7_init 12 = .ok (.return_, 1) := by decide +kernel
theorem dX6_init_0 : decode cX6_init 0 = .ok (.aload_n 0, 1) := by decide +kernel
theorem dX6_init_1 : decode cX6_init 1 = .ok (.invokespecial 3, 3) := by decide +kernel
theorem dX6_init_4 : decode cX6_init 4 = .ok (.aload_n 0, 1) := by decide +kernel
theorem dX6_init_5 : decode cX6_init 5 = .ok (.sipush 200, 3) := by decide +kernel
theorem dX6_init_8 : decode cX6_init 8 = .ok (.iconst 1, 1) := by decide +kernel
theorem dX6_init_9 : decode cX6_init 9 = .ok (.multianewarray 9 2, 4) := by decide +kernel
theorem dX6_init_13 : decode cX6_init 13 = .ok (.putfield 11, 3) := by decide +kernel
theorem dX6_init_16 : decode cX6_init 16 = .ok (.return_, 1) := by decide +kernel
theorem dX2_init_0 : decode cX2_init 0 = .ok (.aload_n 0, 1) := by decide +kernel
theorem dX2_init_1 : decode cX2_init 1 = .ok (.invokespecial 3, 3) := by decide +kernel
theorem dX2_init_4 : decode cX2_init 4 = .ok (.aload_n 0, 1) := by decide +kernel
theorem dX2_init_5 : decode cX2_init 5 = .ok (.bipush 24, 2) := by decide +kernel
theorem dX2_init_7 : decode cX2_init 7 = .ok (.anewarray 9, 3) := by decide +kernel
theorem dX2_init_10 : decode cX2_init 10 = .ok (.putfield 11, 3) := by decide +kernel
theorem dX2_init_13 : decode cX2_init 13 = .ok (.aload_n 0, 1) := by decide +kernel
theorem dX2_init_14 : decode cX2_init 14 = .ok (.bipush 12, 2) := by decide +kernel
theorem dX2_init_16 : decode cX2_init 16 = .ok (.bipush 12, 2) := by decide +kernel
theorem dX2_init_18 : decode cX2_init 18 = .ok (.multianewarray 17 2, 4) := by decide +kernel
theorem dX2_init_22 : decode cX2_init 22 = .ok (.putfield 19, 3) := by decide +kernel
theorem dX2_init_25 : decode cX2_init 25 = .ok (.iconst 0, 1) := by decide +kernel
theorem dX2_init_26 : decode cX2_init 26 = .ok (.istore_n 1, 1) := by decide +kernel
theorem dX2_init_27 : decode cX2_init 27 = .ok (.iload_n 1, 1) := by decide +kernel
theorem dX2_init_28 : decode cX2_init 28 = .ok (.bipush 24, 2) := by decide +kernel
theorem dX2_init_30 : decode cX2_init 30 = .ok (.if_icmp .ge 22, 3) := by decide +kernel
theorem dX2_init_52 : decode cX2_init 52 = .ok (.return_, 1) := by decide +kernel
theorem dX2_init_33 : decode cX2_init 33 = .ok (.aload_n 0, 1) := by decide +kernel
theorem dX2_init_34 : decode cX2_init 34 = .ok (.getfield 11, 3) := by decide +kernel
theorem dX2_init_37 : decode cX2_init 37 = .ok (.iload_n 1, 1) := by decide +kernel
theorem dX2_init_38 : decode cX2_init 38 = .ok (.new 9, 3) := by decide +kernel
theorem dX2_init_41 : decode cX2_init 41 = .ok (.dup, 1) := by decide +kernel
theorem dX2_init_42 : decode cX2_init 42 = .ok (.invokespecial 22, 3) := by decide +kernel
theorem dX2_init_45 : decode cX2_init 45 = .ok (.aastore, 1) := by decide +kernel
theorem dX2_init_46 : decode cX2_init 46 = .ok (.iinc 1 1, 3) := by decide +kernel
theorem dX2_init_49 : decode cX2_init 49 = .ok (.goto (-22), 3) := by decide +kernel
set_option maxRecDepth 100000 in
set_option maxHeartbeats 4000000 in
/-- Row(30): a row of 30 places -/
theorem tm_Row_30 (l : Launch) (hst : l.stackTraces = false) (dC : Nat → ClassId) (dI : Nat → Nat → Nat) (cy : Nat → ClassId) (a0 : Nat) (sz : Nat) : Met l yX3_init (tp_w yX3_init cX3_init 2 none) ({ frames := 1, cells := 1, slots := 30, locals := 14 }) (va_Pc [.ref a0, .int 30] (tp_Pre dC dI cy [(a0, .inr (3, [.null, .int 0]))] sz)) (va_Qv (fun _ : Unit => True) (fun (_ : Unit) (t : State) => ∃ (q1 : Nat), tp_Post dC dI (va_A [(a0, .inr (3, [.null, .int 0]))] sz) [(a0, .inr (3, [.ref q1, .int 0]))] t) (va_A [(a0, .inr (3, [.null, .int 0]))] sz)) 1 30 (va_A [(a0, .inr (3, [.null, .int 0]))] sz) := by
  refine Met.ofW (cc := cX3_init) (maxL := 2) (ret := none) (by decide) rfl ?_
  intro p e s m args below meth c s₁ B hml hv
  obtain ⟨rfl, hsz, hP, hK, hD0, hE, hZ⟩ := hv
  have hx := B.exec
  have hb := B.bytes
  have hr := B.returns
  have hts0 := atoms_spec (ws := tp_w yX3_init cX3_init 2 none) B.pre
  have hts : ∀ w ∈ tp_all, w.before _ s = true := fun w h => hts0 w (List.mem_cons_of_mem _ h)
  have hown : s.vm.findClass RX3 = some m.cls := findClass_of_methodNamed B.named
  have hlocks := B.notSynchronized
  have hin : meth.name = "<init>" := (name_of_methodNamed B.named B.method).1
  subst hsz
  have hD := hD0.self (sz := s.heap.size)
  generalize hAe : va_A [(a0, .inr (3, [.null, .int 0]))] s.heap.size = A at hD hZ ⊢
  have hA : ∀ q : Nat, s.heap.size ≤ q → A q := fun q h => by rw [← hAe]; exact Or.inr h
  have hS : va_S A s.heap s.heap [] := va_S.rf
  have hl9 := lv_entry ([.ref a0, .int 30]) (n := 2) (Nat.le_of_ble_eq_true rfl)
  rw [lg_entry_eq]
  generalize (lg_sl ([.ref a0, .int 30]) ++ List.replicate (2 - (lg_sl ([.ref a0, .int 30])).length) Slot.unset).toArray = ls at hl9 ⊢
  have hl : lv_has ls 2 [(0, .ref a0), (1, .int 30)] := hl9
  refine lv_aload_n hx hb dX3_init_0 rfl (lv_at hl 0 rfl) ?_
  refine W.objInit hx hb hown (hts _ tw_92) (hts _ tw_64) (hts _ tw_65) rfl (by rw [hml]; exact hl.1) rfl dX3_init_1 (Nat.le_of_ble_eq_true rfl) (Nat.le_of_ble_eq_true rfl) ?_
  refine W.eq (g2 := F0 m 4 ls []) rfl ?_
  refine lv_aload_n hx hb dX3_init_4 rfl (lv_at hl 0 rfl) ?_
  refine lv_iload_n hx hb dX3_init_5 rfl (lv_at hl 1 rfl) ?_
  refine lv_iconst (v := 0) hx hb dX3_init_6 (by decide) ?_
  refine va_mmax hx hb (hml.trans hl.1.symm) hown (hts _ tw_93) (hts _ tw_94) (hts _ tw_43) (hts _ tw_95) (Nat.le_of_ble_eq_true rfl) (Nat.le_of_ble_eq_true rfl) (Nat.le_of_ble_eq_true rfl) (Nat.le_of_ble_eq_true rfl) dX3_init_7 ?_
  refine va_newa hx hb (atype := .int) (hts _ tw_105) (ty := .int) rfl hK hP hD hS hA (a0 := (30, .inl (fun _ => 0))) (N' := 30) (fun _ => rfl) (by decide) (by decide) (Nat.le_of_ble_eq_true rfl) (Nat.le_of_ble_eq_true rfl) (Nat.le_of_ble_eq_true rfl) dX3_init_10 (fun a_1 k_2 H hK9 hP hD hS => ?_)
  obtain rfl : k_2 = cy 0 := tp_one hK9 10 0 rfl rfl
  have hP : va_P (dC, dI) vwCl [(a0, .inr (3, [.null, .int 0])), (a_1, .inl (cy 0, 30, .inl ((fun _ => 0))))] _ := hP
  have hD : va_D A [(a0, .inr (3, [.null, .int 0])), (a_1, .inl (cy 0, 30, .inl ((fun _ => 0))))] := hD
  refine va_putF (D := (dC, dI)) (ci := 3) (v := .ref a_1) (ty := (.array .int)) (C := RX3) (T := TX3) (N := 2) hx hb hts tl_X3 tyX3 tyX3_ok nmX3 hown hK hP hD hS 0 rfl rfl 0 (by decide) (hts _ tw_96) (fun _ h9 => h9) rfl hin rfl (by decide +kernel) rfl rfl (Nat.le_of_ble_eq_true rfl) dX3_init_12 (fun H locs hP hD hS => ?_)
  have hP : va_P (dC, dI) vwCl [(a0, .inr (3, [.ref a_1, .int 0])), (a_1, .inl (cy 0, 30, .inl ((fun _ => 0))))] _ := hP
  have hD : va_D A [(a0, .inr (3, [.ref a_1, .int 0])), (a_1, .inl (cy 0, 30, .inl ((fun _ => 0))))] := hD
  refine W.widen (k := 1) (n := 30) (Nat.le_of_ble_eq_true rfl) (Nat.le_of_ble_eq_true rfl) ?_
  have hP9 := hP.sub (ws' := [(a0, .inr (3, [.ref a_1, .int 0]))]) [0] rfl
  have hD9 := hD.sub (ws' := [(a0, .inr (3, [.ref a_1, .int 0]))]) [0] (by decide) rfl
  exact W.vret hx hb hr (fun t ht hW => ⟨⟨(), rfl, trivial, ⟨a_1, by rw [ht]; exact hP9, hD9⟩⟩, hS.F ht⟩) hS.2.2 dX3_init_15
set_option maxRecDepth 100000 in
set_option maxHeartbeats 4000000 in
/-- Row(200) -/
theorem tm_Row_200 (l : Launch) (hst : l.stackTraces = false) (dC : Nat → ClassId) (dI : Nat → Nat → Nat) (cy : Nat → ClassId) (a0 : Nat) (sz : Nat) : Met l yX3_init (tp_w yX3_init cX3_init 2 none) ({ frames := 1, cells := 1, slots := 200, locals := 14 }) (va_Pc [.ref a0, .int 200] (tp_Pre dC dI cy [(a0, .inr (3, [.null, .int 0]))] sz)) (va_Qv (fun _ : Unit => True) (fun (_ : Unit) (t : State) => ∃ (q1 : Nat), tp_Post dC dI (va_A [(a0, .inr (3, [.null, .int 0]))] sz) [(a0, .inr (3, [.ref q1, .int 0]))] t) (va_A [(a0, .inr (3, [.null, .int 0]))] sz)) 1 200 (va_A [(a0, .inr (3, [.null, .int 0]))] sz) := by
  refine Met.ofW (cc := cX3_init) (maxL := 2) (ret := none) (by decide) rfl ?_
  intro p e s m args below meth c s₁ B hml hv
  obtain ⟨rfl, hsz, hP, hK, hD0, hE, hZ⟩ := hv
  have hx := B.exec
  have hb := B.bytes
  have hr := B.returns
  have hts0 := atoms_spec (ws := tp_w yX3_init cX3_init 2 none) B.pre
  have hts : ∀ w ∈ tp_all, w.before _ s = true := fun w h => hts0 w (List.mem_cons_of_mem _ h)
  have hown : s.vm.findClass RX3 = some m.cls := findClass_of_methodNamed B.named
  have hlocks := B.notSynchronized
  have hin : meth.name = "<init>" := (name_of_methodNamed B.named B.method).1
  subst hsz
  have hD := hD0.self (sz := s.heap.size)
  generalize hAe : va_A [(a0, .inr (3, [.null, .int 0]))] s.heap.size = A at hD hZ ⊢
  have hA : ∀ q : Nat, s.heap.size ≤ q → A q := fun q h => by rw [← hAe]; exact Or.inr h
  have hS : va_S A s.heap s.heap [] := va_S.rf
  have hl9 := lv_entry ([.ref a0, .int 200]) (n := 2) (Nat.le_of_ble_eq_true rfl)
  rw [lg_entry_eq]
  generalize (lg_sl ([.ref a0, .int 200]) ++ List.replicate (2 - (lg_sl ([.ref a0, .int 200])).length) Slot.unset).toArray = ls at hl9 ⊢
  have hl : lv_has ls 2 [(0, .ref a0), (1, .int 200)] := hl9
  refine lv_aload_n hx hb dX3_init_0 rfl (lv_at hl 0 rfl) ?_
  refine W.objInit hx hb hown (hts _ tw_92) (hts _ tw_64) (hts _ tw_65) rfl (by rw [hml]; exact hl.1) rfl dX3_init_1 (Nat.le_of_ble_eq_true rfl) (Nat.le_of_ble_eq_true rfl) ?_
  refine W.eq (g2 := F0 m 4 ls []) rfl ?_
  refine lv_aload_n hx hb dX3_init_4 rfl (lv_at hl 0 rfl) ?_
  refine lv_iload_n hx hb dX3_init_5 rfl (lv_at hl 1 rfl) ?_
  refine lv_iconst (v := 0) hx hb dX3_init_6 (by decide) ?_
  refine va_mmax hx hb (hml.trans hl.1.symm) hown (hts _ tw_93) (hts _ tw_94) (hts _ tw_43) (hts _ tw_95) (Nat.le_of_ble_eq_true rfl) (Nat.le_of_ble_eq_true rfl) (Nat.le_of_ble_eq_true rfl) (Nat.le_of_ble_eq_true rfl) dX3_init_7 ?_
  refine va_newa hx hb (atype := .int) (hts _ tw_105) (ty := .int) rfl hK hP hD hS hA (a0 := (200, .inl (fun _ => 0))) (N' := 200) (fun _ => rfl) (by decide) (by decide) (Nat.le_of_ble_eq_true rfl) (Nat.le_of_ble_eq_true rfl) (Nat.le_of_ble_eq_true rfl) dX3_init_10 (fun a_1 k_2 H hK9 hP hD hS => ?_)
  obtain rfl : k_2 = cy 0 := tp_one hK9 10 0 rfl rfl
  have hP : va_P (dC, dI) vwCl [(a0, .inr (3, [.null, .int 0])), (a_1, .inl (cy 0, 200, .inl ((fun _ => 0))))] _ := hP
  have hD : va_D A [(a0, .inr (3, [.null, .int 0])), (a_1, .inl (cy 0, 200, .inl ((fun _ => 0))))] := hD
  refine va_putF (D := (dC, dI)) (ci := 3) (v := .ref a_1) (ty := (.array .int)) (C := RX3) (T := TX3) (N := 2) hx hb hts tl_X3 tyX3 tyX3_ok nmX3 hown hK hP hD hS 0 rfl rfl 0 (by decide) (hts _ tw_96) (fun _ h9 => h9) rfl hin rfl (by decide +kernel) rfl rfl (Nat.le_of_ble_eq_true rfl) dX3_init_12 (fun H locs hP hD hS => ?_)
  have hP : va_P (dC, dI) vwCl [(a0, .inr (3, [.ref a_1, .int 0])), (a_1, .inl (cy 0, 200, .inl ((fun _ => 0))))] _ := hP
  have hD : va_D A [(a0, .inr (3, [.ref a_1, .int 0])), (a_1, .inl (cy 0, 200, .inl ((fun _ => 0))))] := hD
  refine W.widen (k := 1) (n := 200) (Nat.le_of_ble_eq_true rfl) (Nat.le_of_ble_eq_true rfl) ?_
  have hP9 := hP.sub (ws' := [(a0, .inr (3, [.ref a_1, .int 0]))]) [0] rfl
  have hD9 := hD.sub (ws' := [(a0, .inr (3, [.ref a_1, .int 0]))]) [0] (by decide) rfl
  exact W.vret hx hb hr (fun t ht hW => ⟨⟨(), rfl, trivial, ⟨a_1, by rw [ht]; exact hP9, hD9⟩⟩, hS.F ht⟩) hS.2.2 dX3_init_15
set_option maxRecDepth 100000 in
set_option maxHeartbeats 4000000 in
/-- Link() -/
theorem tm_Link (l : Launch) (hst : l.stackTraces = false) (dC : Nat → ClassId) (dI : Nat → Nat → Nat) (cy : Nat → ClassId) (a0 : Nat) (sz : Nat) : Met l yX1_init (tp_w yX1_init cX1_init 1 none) ({ frames := 2, cells := 5, slots := 88, locals := 35 }) (va_Pc [.ref a0] (tp_Pre dC dI cy [(a0, .inr (1, [.int 0, .int 0, .int 0, .int 0, .int 0, .int 0, .int 0, .int 0, .int 0, .null, .null, .int 0, .int 0, .int 0, .int 0, .null]))] sz)) (va_Qv (fun _ : Unit => True) (fun (_ : Unit) (t : State) => ∃ (q1 : Nat), ∃ (q2 : Nat), ∃ (q3 : Nat), tp_Post dC dI (va_A [(a0, .inr (1, [.int 0, .int 0, .int 0, .int 0, .int 0, .int 0, .int 0, .int 0, .int 0, .null, .null, .int 0, .int 0, .int 0, .int 0, .null]))] sz) [(a0, .inr (1, [.int 0, .int 0, .int 0, .int 0, .int 0, .int 0, .int ((-1)), .int 0, .int 0, .ref q1, .ref q2, .int 0, .int 0, .int 0, .int 0, .ref q3]))] t) (va_A [(a0, .inr (1, [.int 0, .int 0, .int 0, .int 0, .int 0, .int 0, .int 0, .int 0, .int 0, .null, .null, .int 0, .int 0, .int 0, .int 0, .null]))] sz)) 5 88 (va_A [(a0, .inr (1, [.int 0, .int 0, .int 0, .int 0, .int 0, .int 0, .int 0, .int 0, .int 0, .null, .null, .int 0, .int 0, .int 0, .int 0, .null]))] sz) := by
  refine Met.ofW (cc := cX1_init) (maxL := 1) (ret := none) (by decide) rfl ?_
  intro p e s m args below meth c s₁ B hml hv
  obtain ⟨rfl, hsz, hP, hK, hD0, hE, hZ⟩ := hv
  have hx := B.exec
  have hb := B.bytes
  have hr := B.returns
  have hts0 := atoms_spec (ws := tp_w yX1_init cX1_init 1 none) B.pre
  have hts : ∀ w ∈ tp_all, w.before _ s = true := fun w h => hts0 w (List.mem_cons_of_mem _ h)
  have hown : s.vm.findClass RX1 = some m.cls := findClass_of_methodNamed B.named
  have hlocks := B.notSynchronized
  have hin : meth.name = "<init>" := (name_of_methodNamed B.named B.method).1
  subst hsz
  have hD := hD0.self (sz := s.heap.size)
  generalize hAe : va_A [(a0, .inr (1, [.int 0, .int 0, .int 0, .int 0, .int 0, .int 0, .int 0, .int 0, .int 0, .null, .null, .int 0, .int 0, .int 0, .int 0, .null]))] s.heap.size = A at hD hZ ⊢
  have hA : ∀ q : Nat, s.heap.size ≤ q → A q := fun q h => by rw [← hAe]; exact Or.inr h
  have hS : va_S A s.heap s.heap [] := va_S.rf
  have hl9 := lv_entry ([.ref a0]) (n := 1) (Nat.le_of_ble_eq_true rfl)
  rw [lg_entry_eq]
  generalize (lg_sl ([.ref a0]) ++ List.replicate (1 - (lg_sl ([.ref a0])).length) Slot.unset).toArray = ls at hl9 ⊢
  have hl : lv_has ls 1 [(0, .ref a0)] := hl9
  refine lv_aload_n hx hb dX1_init_0 rfl (lv_at hl 0 rfl) ?_
  refine W.objInit hx hb hown (hts _ tw_86) (hts _ tw_64) (hts _ tw_65) rfl (by rw [hml]; exact hl.1) rfl dX1_init_1 (Nat.le_of_ble_eq_true rfl) (Nat.le_of_ble_eq_true rfl) ?_
  refine W.eq (g2 := F0 m 4 ls []) rfl ?_
  refine lv_aload_n hx hb dX1_init_4 rfl (lv_at hl 0 rfl) ?_
  refine lv_iconst (v := -1) hx hb dX1_init_5 (by decide) ?_
  refine va_put (D := (dC, dI)) (ci := 1) (v := .int ((-1))) (ty := .int) (C := RX1) (T := TX1) (N := 16) hx hb hts tl_X1 tyX1 tyX1_ok nmX1 hown hK hP hD hS 0 rfl rfl 6 (by decide) (hts _ tw_122) (fun _ h9 => h9) rfl (by decide +kernel) rfl rfl (Nat.le_of_ble_eq_true rfl) dX1_init_6 (fun H locs hP hD hS => ?_)
  have hP : va_P (dC, dI) vwCl [(a0, .inr (1, [.int 0, .int 0, .int 0, .int 0, .int 0, .int 0, .int ((-1)), .int 0, .int 0, .null, .null, .int 0, .int 0, .int 0, .int 0, .null]))] _ := hP
  have hD : va_D A [(a0, .inr (1, [.int 0, .int 0, .int 0, .int 0, .int 0, .int 0, .int ((-1)), .int 0, .int 0, .null, .null, .int 0, .int 0, .int 0, .int 0, .null]))] := hD
  refine lv_aload_n hx hb dX1_init_9 rfl (lv_at hl 0 rfl) ?_
  have h8_a_1 : tp_dv 2 tyX3 [.null, .int 0] = true := by decide +kernel
  refine va_new (ci := 3) (fs := [.null, .int 0]) (C := RX3) (T := TX3) (N := 2) hx hb hts tl_X3 tyX3 tyX3_ok hown (hts _ tw_87) (hts _ tw_88) (hts _ tw_42) hK hP hD hS hA rfl (fun j hj => by exact tp_dv_ok h8_a_1 j hj) (Nat.le_of_ble_eq_true rfl) (Nat.le_of_ble_eq_true rfl) dX1_init_10 (fun a_1 H hP hD hS => ?_)
  have hP : va_P (dC, dI) vwCl [(a0, .inr (1, [.int 0, .int 0, .int 0, .int 0, .int 0, .int 0, .int ((-1)), .int 0, .int 0, .null, .null, .int 0, .int 0, .int 0, .int 0, .null])), (a_1, .inr (3, [.null, .int 0]))] _ := hP
  have hD : va_D A [(a0, .inr (1, [.int 0, .int 0, .int 0, .int 0, .int 0, .int 0, .int ((-1)), .int 0, .int 0, .null, .null, .int 0, .int 0, .int 0, .int 0, .null])), (a_1, .inr (3, [.null, .int 0]))] := hD
  refine lv_dup hx hb dX1_init_13 rfl ?_
  refine lv_bipush (v := 30) hx hb dX1_init_14 (by decide) ?_
  have hFc := va_free (wc := [(a_1, .inr (3, [.null, .int 0]))]) hD hS hA [1] rfl
  refine va_callv (va_runI (As := [.int 30]) (rest := [.ref a_1, .ref a0]) ⟨hx, hb, hml, hown, hts⟩ (tm_Row_30 l hst dC dI cy a_1 H.size) (tp_cwI 1 hts tw_89 tw_90 tw_42 tw_91 rfl rfl rfl (by decide +kernel) ⟨Nat.le_of_ble_eq_true rfl, Nat.le_of_ble_eq_true rfl⟩) ⟨tp_blind, fun U hU hW => ⟨rfl, tp_pay hK hP hD hE hZ hS [1] (by decide) rfl hFc U hU hW⟩⟩ rfl rfl hl.1 rfl (lv_room (Nat.le_of_ble_eq_true rfl)) dX1_init_16 ⟨(Nat.le_of_ble_eq_true rfl), (Nat.le_of_ble_eq_true rfl)⟩) hS (fun q _ h => hFc q h) hFc (fun u t H1 locs ht hvm hw hB hz1 hk1 hS => ?_)
  obtain ⟨z_3, hP1, hD1⟩ := hB
  rw [ht] at hP1
  obtain ⟨hP, hD⟩ := va_join (wr := [(a0, .inr (1, [.int 0, .int 0, .int 0, .int 0, .int 0, .int 0, .int ((-1)), .int 0, .int 0, .null, .null, .int 0, .int 0, .int 0, .int 0, .null]))]) (w1 := [(a_1, .inr (3, [.ref z_3, .int 0]))]) hP hD [1] [0] rfl rfl (by decide) (by decide) hk1 hFc hP1 hD1
  generalize H1 = H at hP hS ⊢
  have hP : va_P (dC, dI) vwCl [(a0, .inr (1, [.int 0, .int 0, .int 0, .int 0, .int 0, .int 0, .int ((-1)), .int 0, .int 0, .null, .null, .int 0, .int 0, .int 0, .int 0, .null])), (a_1, .inr (3, [.ref z_3, .int 0]))] _ := hP
  have hD : va_D A [(a0, .inr (1, [.int 0, .int 0, .int 0, .int 0, .int 0, .int 0, .int ((-1)), .int 0, .int 0, .null, .null, .int 0, .int 0, .int 0, .int 0, .null])), (a_1, .inr (3, [.ref z_3, .int 0]))] := hD
  refine va_putF (D := (dC, dI)) (ci := 1) (v := .ref a_1) (ty := (.object "Turnpike$Row")) (C := RX1) (T := TX1) (N := 16) hx hb hts tl_X1 tyX1 tyX1_ok nmX1 hown hK hP hD hS 0 rfl rfl 9 (by decide) (hts _ tw_130) (fun _ h9 => h9) rfl hin rfl (by decide +kernel) rfl rfl (Nat.le_of_ble_eq_true rfl) dX1_init_19 (fun H locs hP hD hS => ?_)
  have hP : va_P (dC, dI) vwCl [(a0, .inr (1, [.int 0, .int 0, .int 0, .int 0, .int 0, .int 0, .int ((-1)), .int 0, .int 0, .ref a_1, .null, .int 0, .int 0, .int 0, .int 0, .null])), (a_1, .inr (3, [.ref z_3, .int 0]))] _ := hP
  have hD : va_D A [(a0, .inr (1, [.int 0, .int 0, .int 0, .int 0, .int 0, .int 0, .int ((-1)), .int 0, .int 0, .ref a_1, .null, .int 0, .int 0, .int 0, .int 0, .null])), (a_1, .inr (3, [.ref z_3, .int 0]))] := hD
  refine lv_aload_n hx hb dX1_init_22 rfl (lv_at hl 0 rfl) ?_
  have h8_a_4 : tp_dv 2 tyX3 [.null, .int 0] = true := by decide +kernel
  refine va_new (ci := 3) (fs := [.null, .int 0]) (C := RX3) (T := TX3) (N := 2) hx hb hts tl_X3 tyX3 tyX3_ok hown (hts _ tw_87) (hts _ tw_88) (hts _ tw_42) hK hP hD hS hA rfl (fun j hj => by exact tp_dv_ok h8_a_4 j hj) (Nat.le_of_ble_eq_true rfl) (Nat.le_of_ble_eq_true rfl) dX1_init_23 (fun a_4 H hP hD hS => ?_)
  have hP : va_P (dC, dI) vwCl [(a0, .inr (1, [.int 0, .int 0, .int 0, .int 0, .int 0, .int 0, .int ((-1)), .int 0, .int 0, .ref a_1, .null, .int 0, .int 0, .int 0, .int 0, .null])), (a_1, .inr (3, [.ref z_3, .int 0])), (a_4, .inr (3, [.null, .int 0]))] _ := hP
  have hD : va_D A [(a0, .inr (1, [.int 0, .int 0, .int 0, .int 0, .int 0, .int 0, .int ((-1)), .int 0, .int 0, .ref a_1, .null, .int 0, .int 0, .int 0, .int 0, .null])), (a_1, .inr (3, [.ref z_3, .int 0])), (a_4, .inr (3, [.null, .int 0]))] := hD
  refine lv_dup hx hb dX1_init_26 rfl ?_
  refine lv_bipush (v := 30) hx hb dX1_init_27 (by decide) ?_
  have hFc := va_free (wc := [(a_4, .inr (3, [.null, .int 0]))]) hD hS hA [2] rfl
  refine va_callv (va_runI (As := [.int 30]) (rest := [.ref a_4, .ref a0]) ⟨hx, hb, hml, hown, hts⟩ (tm_Row_30 l hst dC dI cy a_4 H.size) (tp_cwI 1 hts tw_89 tw_90 tw_42 tw_91 rfl rfl rfl (by decide +kernel) ⟨Nat.le_of_ble_eq_true rfl, Nat.le_of_ble_eq_true rfl⟩) ⟨tp_blind, fun U hU hW => ⟨rfl, tp_pay hK hP hD hE hZ hS [2] (by decide) rfl hFc U hU hW⟩⟩ rfl rfl hl.1 rfl (lv_room (Nat.le_of_ble_eq_true rfl)) dX1_init_29 ⟨(Nat.le_of_ble_eq_true rfl), (Nat.le_of_ble_eq_true rfl)⟩) hS (fun q _ h => hFc q h) hFc (fun u t H1 locs ht hvm hw hB hz1 hk1 hS => ?_)
  obtain ⟨z_6, hP1, hD1⟩ := hB
  rw [ht] at hP1
  obtain ⟨hP, hD⟩ := va_join (wr := [(a0, .inr (1, [.int 0, .int 0, .int 0, .int 0, .int 0, .int 0, .int ((-1)), .int 0, .int 0, .ref a_1, .null, .int 0, .int 0, .int 0, .int 0, .null])), (a_1, .inr (3, [.ref z_3, .int 0]))]) (w1 := [(a_4, .inr (3, [.ref z_6, .int 0]))]) hP hD [2] [0, 1] rfl rfl (by decide) (by decide) hk1 hFc hP1 hD1
  generalize H1 = H at hP hS ⊢
  have hP : va_P (dC, dI) vwCl [(a0, .inr (1, [.int 0, .int 0, .int 0, .int 0, .int 0, .int 0, .int ((-1)), .int 0, .int 0, .ref a_1, .null, .int 0, .int 0, .int 0, .int 0, .null])), (a_1, .inr (3, [.ref z_3, .int 0])), (a_4, .inr (3, [.ref z_6, .int 0]))] _ := hP
  have hD : va_D A [(a0, .inr (1, [.int 0, .int 0, .int 0, .int 0, .int 0, .int 0, .int ((-1)), .int 0, .int 0, .ref a_1, .null, .int 0, .int 0, .int 0, .int 0, .null])), (a_1, .inr (3, [.ref z_3, .int 0])), (a_4, .inr (3, [.ref z_6, .int 0]))] := hD
  refine va_putF (D := (dC, dI)) (ci := 1) (v := .ref a_4) (ty := (.object "Turnpike$Row")) (C := RX1) (T := TX1) (N := 16) hx hb hts tl_X1 tyX1 tyX1_ok nmX1 hown hK hP hD hS 0 rfl rfl 10 (by decide) (hts _ tw_133) (fun _ h9 => h9) rfl hin rfl (by decide +kernel) rfl rfl (Nat.le_of_ble_eq_true rfl) dX1_init_32 (fun H locs hP hD hS => ?_)
  have hP : va_P (dC, dI) vwCl [(a0, .inr (1, [.int 0, .int 0, .int 0, .int 0, .int 0, .int 0, .int ((-1)), .int 0, .int 0, .ref a_1, .ref a_4, .int 0, .int 0, .int 0, .int 0, .null])), (a_1, .inr (3, [.ref z_3, .int 0])), (a_4, .inr (3, [.ref z_6, .int 0]))] _ := hP
  have hD : va_D A [(a0, .inr (1, [.int 0, .int 0, .int 0, .int 0, .int 0, .int 0, .int ((-1)), .int 0, .int 0, .ref a_1, .ref a_4, .int 0, .int 0, .int 0, .int 0, .null])), (a_1, .inr (3, [.ref z_3, .int 0])), (a_4, .inr (3, [.ref z_6, .int 0]))] := hD
  refine lv_aload_n hx hb dX1_init_35 rfl (lv_at hl 0 rfl) ?_
  refine lv_bipush (v := 24) hx hb dX1_init_36 (by decide) ?_
  refine va_newa hx hb (atype := .int) (hts _ tw_105) (ty := .int) rfl hK hP hD hS hA (a0 := (24, .inl (fun _ => 0))) (N' := 24) (fun _ => rfl) (by decide) (by decide) (Nat.le_of_ble_eq_true rfl) (Nat.le_of_ble_eq_true rfl) (Nat.le_of_ble_eq_true rfl) dX1_init_38 (fun a_7 k_8 H hK9 hP hD hS => ?_)
  obtain rfl : k_8 = cy 0 := tp_one hK9 10 0 rfl rfl
  have hP : va_P (dC, dI) vwCl [(a0, .inr (1, [.int 0, .int 0, .int 0, .int 0, .int 0, .int 0, .int ((-1)), .int 0, .int 0, .ref a_1, .ref a_4, .int 0, .int 0, .int 0, .int 0, .null])), (a_1, .inr (3, [.ref z_3, .int 0])), (a_4, .inr (3, [.ref z_6, .int 0])), (a_7, .inl (cy 0, 24, .inl ((fun _ => 0))))] _ := hP
  have hD : va_D A [(a0, .inr (1, [.int 0, .int 0, .int 0, .int 0, .int 0, .int 0, .int ((-1)), .int 0, .int 0, .ref a_1, .ref a_4, .int 0, .int 0, .int 0, .int 0, .null])), (a_1, .inr (3, [.ref z_3, .int 0])), (a_4, .inr (3, [.ref z_6, .int 0])), (a_7, .inl (cy 0, 24, .inl ((fun _ => 0))))] := hD
  refine va_putF (D := (dC, dI)) (ci := 1) (v := .ref a_7) (ty := (.array .int)) (C := RX1) (T := TX1) (N := 16) hx hb hts tl_X1 tyX1 tyX1_ok nmX1 hown hK hP hD hS 0 rfl rfl 15 (by decide) (hts _ tw_142) (fun _ h9 => h9) rfl hin rfl (by decide +kernel) rfl rfl (Nat.le_of_ble_eq_true rfl) dX1_init_40 (fun H locs hP hD hS => ?_)
  have hP : va_P (dC, dI) vwCl [(a0, .inr (1, [.int 0, .int 0, .int 0, .int 0, .int 0, .int 0, .int ((-1)), .int 0, .int 0, .ref a_1, .ref a_4, .int 0, .int 0, .int 0, .int 0, .ref a_7])), (a_1, .inr (3, [.ref z_3, .int 0])), (a_4, .inr (3, [.ref z_6, .int 0])), (a_7, .inl (cy 0, 24, .inl ((fun _ => 0))))] _ := hP
  have hD : va_D A [(a0, .inr (1, [.int 0, .int 0, .int 0, .int 0, .int 0, .int 0, .int ((-1)), .int 0, .int 0, .ref a_1, .ref a_4, .int 0, .int 0, .int 0, .int 0, .ref a_7])), (a_1, .inr (3, [.ref z_3, .int 0])), (a_4, .inr (3, [.ref z_6, .int 0])), (a_7, .inl (cy 0, 24, .inl ((fun _ => 0))))] := hD
  refine W.widen (k := 5) (n := 88) (Nat.le_of_ble_eq_true rfl) (Nat.le_of_ble_eq_true rfl) ?_
  have hP9 := hP.sub (ws' := [(a0, .inr (1, [.int 0, .int 0, .int 0, .int 0, .int 0, .int 0, .int ((-1)), .int 0, .int 0, .ref a_1, .ref a_4, .int 0, .int 0, .int 0, .int 0, .ref a_7]))]) [0] rfl
  have hD9 := hD.sub (ws' := [(a0, .inr (1, [.int 0, .int 0, .int 0, .int 0, .int 0, .int 0, .int ((-1)), .int 0, .int 0, .ref a_1, .ref a_4, .int 0, .int 0, .int 0, .int 0, .ref a_7]))]) [0] (by decide) rfl
  exact W.vret hx hb hr (fun t ht hW => ⟨⟨(), rfl, trivial, ⟨a_1, a_4, a_7, by rw [ht]; exact hP9, hD9⟩⟩, hS.F ht⟩) hS.2.2 dX1_init_43
set_option maxRecDepth 100000 in
set_option maxHeartbeats 4000000 in
/-- Signal() -/
theorem tm_Signal (l : Launch) (hst : l.stackTraces = false) (dC : Nat → ClassId) (dI : Nat → Nat → Nat) (cy : Nat → ClassId) (a0 : Nat) (sz : Nat) : Met l yX4_init (tp_w yX4_init cX4_init 1 none) ({ frames := 1, cells := 3, slots := 12, locals := 12 }) (va_Pc [.ref a0] (tp_Pre dC dI cy [(a0, .inr (4, [.null, .null, .null, .int 0, .int 0, .int 0]))] sz)) (va_Qv (fun _ : Unit => True) (fun (_ : Unit) (t : State) => ∃ (q1 : Nat), ∃ (q2 : Nat), ∃ (q3 : Nat), tp_Post dC dI (va_A [(a0, .inr (4, [.null, .null, .null, .int 0, .int 0, .int 0]))] sz) [(a0, .inr (4, [.ref q1, .ref q2, .ref q3, .int 0, .int ((-1)), .int 0]))] t) (va_A [(a0, .inr (4, [.null, .null, .null, .int 0, .int 0, .int 0]))] sz)) 3 12 (va_A [(a0, .inr (4, [.null, .null, .null, .int 0, .int 0, .int 0]))] sz) := by
  refine Met.ofW (cc := cX4_init) (maxL := 1) (ret := none) (by decide) rfl ?_
  intro p e s m args below meth c s₁ B hml hv
  obtain ⟨rfl, hsz, hP, hK, hD0, hE, hZ⟩ := hv
  have hx := B.exec
  have hb := B.bytes
  have hr := B.returns
  have hts0 := atoms_spec (ws := tp_w yX4_init cX4_init 1 none) B.pre
  have hts : ∀ w ∈ tp_all, w.before _ s = true := fun w h => hts0 w (List.mem_cons_of_mem _ h)
  have hown : s.vm.findClass RX4 = some m.cls := findClass_of_methodNamed B.named
  have hlocks := B.notSynchronized
  have hin : meth.name = "<init>" := (name_of_methodNamed B.named B.method).1
  subst hsz
  have hD := hD0.self (sz := s.heap.size)
  generalize hAe : va_A [(a0, .inr (4, [.null, .null, .null, .int 0, .int 0, .int 0]))] s.heap.size = A at hD hZ ⊢
  have hA : ∀ q : Nat, s.heap.size ≤ q → A q := fun q h => by rw [← hAe]; exact Or.inr h
  have hS : va_S A s.heap s.heap [] := va_S.rf
  have hl9 := lv_entry ([.ref a0]) (n := 1) (Nat.le_of_ble_eq_true rfl)
  rw [lg_entry_eq]
  generalize (lg_sl ([.ref a0]) ++ List.replicate (1 - (lg_sl ([.ref a0])).length) Slot.unset).toArray = ls at hl9 ⊢
  have hl : lv_has ls 1 [(0, .ref a0)] := hl9
  refine lv_aload_n hx hb dX4_init_0 rfl (lv_at hl 0 rfl) ?_
  refine W.objInit hx hb hown (hts _ tw_218) (hts _ tw_64) (hts _ tw_65) rfl (by rw [hml]; exact hl.1) rfl dX4_init_1 (Nat.le_of_ble_eq_true rfl) (Nat.le_of_ble_eq_true rfl) ?_
  refine W.eq (g2 := F0 m 4 ls []) rfl ?_
  refine lv_aload_n hx hb dX4_init_4 rfl (lv_at hl 0 rfl) ?_
  refine lv_iconst (v := 4) hx hb dX4_init_5 (by decide) ?_
  refine va_newa hx hb (atype := .int) (hts _ tw_105) (ty := .int) rfl hK hP hD hS hA (a0 := (4, .inl (fun _ => 0))) (N' := 4) (fun _ => rfl) (by decide) (by decide) (Nat.le_of_ble_eq_true rfl) (Nat.le_of_ble_eq_true rfl) (Nat.le_of_ble_eq_true rfl) dX4_init_6 (fun a_1 k_2 H hK9 hP hD hS => ?_)
  obtain rfl : k_2 = cy 0 := tp_one hK9 10 0 rfl rfl
  have hP : va_P (dC, dI) vwCl [(a0, .inr (4, [.null, .null, .null, .int 0, .int 0, .int 0])), (a_1, .inl (cy 0, 4, .inl ((fun _ => 0))))] _ := hP
  have hD : va_D A [(a0, .inr (4, [.null, .null, .null, .int 0, .int 0, .int 0])), (a_1, .inl (cy 0, 4, .inl ((fun _ => 0))))] := hD
  refine va_putF (D := (dC, dI)) (ci := 4) (v := .ref a_1) (ty := (.array .int)) (C := RX4) (T := TX4) (N := 6) hx hb hts tl_X4 tyX4 tyX4_ok nmX4 hown hK hP hD hS 0 rfl rfl 0 (by decide) (hts _ tw_219) (fun _ h9 => h9) rfl hin rfl (by decide +kernel) rfl rfl (Nat.le_of_ble_eq_true rfl) dX4_init_8 (fun H locs hP hD hS => ?_)
  have hP : va_P (dC, dI) vwCl [(a0, .inr (4, [.ref a_1, .null, .null, .int 0, .int 0, .int 0])), (a_1, .inl (cy 0, 4, .inl ((fun _ => 0))))] _ := hP
  have hD : va_D A [(a0, .inr (4, [.ref a_1, .null, .null, .int 0, .int 0, .int 0])), (a_1, .inl (cy 0, 4, .inl ((fun _ => 0))))] := hD
  refine lv_aload_n hx hb dX4_init_11 rfl (lv_at hl 0 rfl) ?_
  refine lv_iconst (v := 4) hx hb dX4_init_12 (by decide) ?_
  refine va_newa hx hb (atype := .int) (hts _ tw_105) (ty := .int) rfl hK hP hD hS hA (a0 := (4, .inl (fun _ => 0))) (N' := 4) (fun _ => rfl) (by decide) (by decide) (Nat.le_of_ble_eq_true rfl) (Nat.le_of_ble_eq_true rfl) (Nat.le_of_ble_eq_true rfl) dX4_init_13 (fun a_3 k_4 H hK9 hP hD hS => ?_)
  obtain rfl : k_4 = cy 0 := tp_one hK9 10 0 rfl rfl
  have hP : va_P (dC, dI) vwCl [(a0, .inr (4, [.ref a_1, .null, .null, .int 0, .int 0, .int 0])), (a_1, .inl (cy 0, 4, .inl ((fun _ => 0)))), (a_3, .inl (cy 0, 4, .inl ((fun _ => 0))))] _ := hP
  have hD : va_D A [(a0, .inr (4, [.ref a_1, .null, .null, .int 0, .int 0, .int 0])), (a_1, .inl (cy 0, 4, .inl ((fun _ => 0)))), (a_3, .inl (cy 0, 4, .inl ((fun _ => 0))))] := hD
  refine va_putF (D := (dC, dI)) (ci := 4) (v := .ref a_3) (ty := (.array .int)) (C := RX4) (T := TX4) (N := 6) hx hb hts tl_X4 tyX4 tyX4_ok nmX4 hown hK hP hD hS 0 rfl rfl 1 (by decide) (hts _ tw_220) (fun _ h9 => h9) rfl hin rfl (by decide +kernel) rfl rfl (Nat.le_of_ble_eq_true rfl) dX4_init_15 (fun H locs hP hD hS => ?_)
  have hP : va_P (dC, dI) vwCl [(a0, .inr (4, [.ref a_1, .ref a_3, .null, .int 0, .int 0, .int 0])), (a_1, .inl (cy 0, 4, .inl ((fun _ => 0)))), (a_3, .inl (cy 0, 4, .inl ((fun _ => 0))))] _ := hP
  have hD : va_D A [(a0, .inr (4, [.ref a_1, .ref a_3, .null, .int 0, .int 0, .int 0])), (a_1, .inl (cy 0, 4, .inl ((fun _ => 0)))), (a_3, .inl (cy 0, 4, .inl ((fun _ => 0))))] := hD
  refine lv_aload_n hx hb dX4_init_18 rfl (lv_at hl 0 rfl) ?_
  refine lv_iconst (v := 4) hx hb dX4_init_19 (by decide) ?_
  refine va_newa hx hb (atype := .int) (hts _ tw_105) (ty := .int) rfl hK hP hD hS hA (a0 := (4, .inl (fun _ => 0))) (N' := 4) (fun _ => rfl) (by decide) (by decide) (Nat.le_of_ble_eq_true rfl) (Nat.le_of_ble_eq_true rfl) (Nat.le_of_ble_eq_true rfl) dX4_init_20 (fun a_5 k_6 H hK9 hP hD hS => ?_)
  obtain rfl : k_6 = cy 0 := tp_one hK9 10 0 rfl rfl
  have hP : va_P (dC, dI) vwCl [(a0, .inr (4, [.ref a_1, .ref a_3, .null, .int 0, .int 0, .int 0])), (a_1, .inl (cy 0, 4, .inl ((fun _ => 0)))), (a_3, .inl (cy 0, 4, .inl ((fun _ => 0)))), (a_5, .inl (cy 0, 4, .inl ((fun _ => 0))))] _ := hP
  have hD : va_D A [(a0, .inr (4, [.ref a_1, .ref a_3, .null, .int 0, .int 0, .int 0])), (a_1, .inl (cy 0, 4, .inl ((fun _ => 0)))), (a_3, .inl (cy 0, 4, .inl ((fun _ => 0)))), (a_5, .inl (cy 0, 4, .inl ((fun _ => 0))))] := hD
  refine va_putF (D := (dC, dI)) (ci := 4) (v := .ref a_5) (ty := (.array .int)) (C := RX4) (T := TX4) (N := 6) hx hb hts tl_X4 tyX4 tyX4_ok nmX4 hown hK hP hD hS 0 rfl rfl 2 (by decide) (hts _ tw_221) (fun _ h9 => h9) rfl hin rfl (by decide +kernel) rfl rfl (Nat.le_of_ble_eq_true rfl) dX4_init_22 (fun H locs hP hD hS => ?_)
  have hP : va_P (dC, dI) vwCl [(a0, .inr (4, [.ref a_1, .ref a_3, .ref a_5, .int 0, .int 0, .int 0])), (a_1, .inl (cy 0, 4, .inl ((fun _ => 0)))), (a_3, .inl (cy 0, 4, .inl ((fun _ => 0)))), (a_5, .inl (cy 0, 4, .inl ((fun _ => 0))))] _ := hP
  have hD : va_D A [(a0, .inr (4, [.ref a_1, .ref a_3, .ref a_5, .int 0, .int 0, .int 0])), (a_1, .inl (cy 0, 4, .inl ((fun _ => 0)))), (a_3, .inl (cy 0, 4, .inl ((fun _ => 0)))), (a_5, .inl (cy 0, 4, .inl ((fun _ => 0))))] := hD
  refine lv_aload_n hx hb dX4_init_25 rfl (lv_at hl 0 rfl) ?_
  refine lv_iconst (v := -1) hx hb dX4_init_26 (by decide) ?_
  refine va_put (D := (dC, dI)) (ci := 4) (v := .int ((-1))) (ty := .int) (C := RX4) (T := TX4) (N := 6) hx hb hts tl_X4 tyX4 tyX4_ok nmX4 hown hK hP hD hS 0 rfl rfl 4 (by decide) (hts _ tw_225) (fun _ h9 => h9) rfl (by decide +kernel) rfl rfl (Nat.le_of_ble_eq_true rfl) dX4_init_27 (fun H locs hP hD hS => ?_)
  have hP : va_P (dC, dI) vwCl [(a0, .inr (4, [.ref a_1, .ref a_3, .ref a_5, .int 0, .int ((-1)), .int 0])), (a_1, .inl (cy 0, 4, .inl ((fun _ => 0)))), (a_3, .inl (cy 0, 4, .inl ((fun _ => 0)))), (a_5, .inl (cy 0, 4, .inl ((fun _ => 0))))] _ := hP
  have hD : va_D A [(a0, .inr (4, [.ref a_1, .ref a_3, .ref a_5, .int 0, .int ((-1)), .int 0])), (a_1, .inl (cy 0, 4, .inl ((fun _ => 0)))), (a_3, .inl (cy 0, 4, .inl ((fun _ => 0)))), (a_5, .inl (cy 0, 4, .inl ((fun _ => 0))))] := hD
  refine W.widen (k := 3) (n := 12) (Nat.le_of_ble_eq_true rfl) (Nat.le_of_ble_eq_true rfl) ?_
  have hP9 := hP.sub (ws' := [(a0, .inr (4, [.ref a_1, .ref a_3, .ref a_5, .int 0, .int ((-1)), .int 0]))]) [0] rfl
  have hD9 := hD.sub (ws' := [(a0, .inr (4, [.ref a_1, .ref a_3, .ref a_5, .int 0, .int ((-1)), .int 0]))]) [0] (by decide) rfl
  exact W.vret hx hb hr (fun t ht hW => ⟨⟨(), rfl, trivial, ⟨a_1, a_3, a_5, by rw [ht]; exact hP9, hD9⟩⟩, hS.F ht⟩) hS.2.2 dX4_init_30
set_option maxRecDepth 100000 in
set_option maxHeartbeats 4000000 in
/-- Flow() -/
theorem tm_Flow (l : Launch) (hst : l.stackTraces = false) (dC : Nat → ClassId) (dI : Nat → Nat → Nat) (cy : Nat → ClassId) (a0 : Nat) (sz : Nat) : Met l yX0_init (tp_w yX0_init cX0_init 1 none) ({ frames := 1, cells := 0, slots := 0, locals := 12 }) (va_Pc [.ref a0] (tp_Pre dC dI cy [(a0, .inr (0, [.int 0, .int 0, .int 0, .int 0, .int 0, .int 0, .int 0, .int 0, .int 0, .int 0, .int 0, .int 0]))] sz)) (va_Qv (fun _ : Unit => True) (fun (_ : Unit) (t : State) => tp_Post dC dI (va_A [(a0, .inr (0, [.int 0, .int 0, .int 0, .int 0, .int 0, .int 0, .int 0, .int 0, .int 0, .int 0, .int 0, .int 0]))] sz) [(a0, .inr (0, [.int 0, .int 0, .int 0, .int 0, .int 1, .int 0, .int 0, .int 0, .int 0, .int 0, .int 0, .int 0]))] t) (va_A [(a0, .inr (0, [.int 0, .int 0, .int 0, .int 0, .int 0, .int 0, .int 0, .int 0, .int 0, .int 0, .int 0, .int 0]))] sz)) 0 0 (va_A [(a0, .inr (0, [.int 0, .int 0, .int 0, .int 0, .int 0, .int 0, .int 0, .int 0, .int 0, .int 0, .int 0, .int 0]))] sz) := by
  refine Met.ofW (cc := cX0_init) (maxL := 1) (ret := none) (by decide) rfl ?_
  intro p e s m args below meth c s₁ B hml hv
  obtain ⟨rfl, hsz, hP, hK, hD0, hE, hZ⟩ := hv
  have hx := B.exec
  have hb := B.bytes
  have hr := B.returns
  have hts0 := atoms_spec (ws := tp_w yX0_init cX0_init 1 none) B.pre
  have hts : ∀ w ∈ tp_all, w.before _ s = true := fun w h => hts0 w (List.mem_cons_of_mem _ h)
  have hown : s.vm.findClass RX0 = some m.cls := findClass_of_methodNamed B.named
  have hlocks := B.notSynchronized
  have hin : meth.name = "<init>" := (name_of_methodNamed B.named B.method).1
  subst hsz
  have hD := hD0.self (sz := s.heap.size)
  generalize hAe : va_A [(a0, .inr (0, [.int 0, .int 0, .int 0, .int 0, .int 0, .int 0, .int 0, .int 0, .int 0, .int 0, .int 0, .int 0]))] s.heap.size = A at hD hZ ⊢
  have hA : ∀ q : Nat, s.heap.size ≤ q → A q := fun q h => by rw [← hAe]; exact Or.inr h
  have hS : va_S A s.heap s.heap [] := va_S.rf
  have hl9 := lv_entry ([.ref a0]) (n := 1) (Nat.le_of_ble_eq_true rfl)
  rw [lg_entry_eq]
  generalize (lg_sl ([.ref a0]) ++ List.replicate (1 - (lg_sl ([.ref a0])).length) Slot.unset).toArray = ls at hl9 ⊢
  have hl : lv_has ls 1 [(0, .ref a0)] := hl9
  refine lv_aload_n hx hb dX0_init_0 rfl (lv_at hl 0 rfl) ?_
  refine W.objInit hx hb hown (hts _ tw_247) (hts _ tw_64) (hts _ tw_65) rfl (by rw [hml]; exact hl.1) rfl dX0_init_1 (Nat.le_of_ble_eq_true rfl) (Nat.le_of_ble_eq_true rfl) ?_
  refine W.eq (g2 := F0 m 4 ls []) rfl ?_
  refine lv_aload_n hx hb dX0_init_4 rfl (lv_at hl 0 rfl) ?_
  refine lv_iconst (v := 1) hx hb dX0_init_5 (by decide) ?_
  refine va_put (D := (dC, dI)) (ci := 0) (v := .int 1) (ty := .int) (C := RX0) (T := TX0) (N := 12) hx hb hts tl_X0 tyX0 tyX0_ok nmX0 hown hK hP hD hS 0 rfl rfl 4 (by decide) (hts _ tw_256) (fun _ h9 => h9) rfl (by decide +kernel) rfl rfl (Nat.le_of_ble_eq_true rfl) dX0_init_6 (fun H locs hP hD hS => ?_)
  have hP : va_P (dC, dI) vwCl [(a0, .inr (0, [.int 0, .int 0, .int 0, .int 0, .int 1, .int 0, .int 0, .int 0, .int 0, .int 0, .int 0, .int 0]))] _ := hP
  have hD : va_D A [(a0, .inr (0, [.int 0, .int 0, .int 0, .int 0, .int 1, .int 0, .int 0, .int 0, .int 0, .int 0, .int 0, .int 0]))] := hD
  refine W.widen (k := 0) (n := 0) (Nat.le_of_ble_eq_true rfl) (Nat.le_of_ble_eq_true rfl) ?_
  have hP9 := hP.sub (ws' := [(a0, .inr (0, [.int 0, .int 0, .int 0, .int 0, .int 1, .int 0, .int 0, .int 0, .int 0, .int 0, .int 0, .int 0]))]) [0] rfl
  have hD9 := hD.sub (ws' := [(a0, .inr (0, [.int 0, .int 0, .int 0, .int 0, .int 1, .int 0, .int 0, .int 0, .int 0, .int 0, .int 0, .int 0]))]) [0] (by decide) rfl
  exact W.vret hx hb hr (fun t ht hW => ⟨⟨(), rfl, trivial, ⟨by rw [ht]; exact hP9, hD9⟩⟩, hS.F ht⟩) hS.2.2 dX0_init_9
set_option maxRecDepth 100000 in
set_option maxHeartbeats 4000000 in
/-- Vehicle() -/
theorem tm_Vehicle (l : Launch) (hst : l.stackTraces = false) (dC : Nat → ClassId) (dI : Nat → Nat → Nat) (cy : Nat → ClassId) (a0 : Nat) (sz : Nat) : Met l yX7_init (tp_w yX7_init cX7_init 1 none) ({ frames := 1, cells := 1, slots := 11, locals := 12 }) (va_Pc [.ref a0] (tp_Pre dC dI cy [(a0, .inr (7, [.int 0, .int 0, .int 0, .int 0, .int 0, .int 0, .int 0, .int 0, .int 0, .int 0, .int 0, .int 0, .null]))] sz)) (va_Qv (fun _ : Unit => True) (fun (_ : Unit) (t : State) => ∃ (q1 : Nat), tp_Post dC dI (va_A [(a0, .inr (7, [.int 0, .int 0, .int 0, .int 0, .int 0, .int 0, .int 0, .int 0, .int 0, .int 0, .int 0, .int 0, .null]))] sz) [(a0, .inr (7, [.int 0, .int 0, .int 0, .int 0, .int 0, .int 0, .int 0, .int 0, .int 0, .int 0, .int 0, .int 0, .ref q1]))] t) (va_A [(a0, .inr (7, [.int 0, .int 0, .int 0, .int 0, .int 0, .int 0, .int 0, .int 0, .int 0, .int 0, .int 0, .int 0, .null]))] sz)) 1 11 (va_A [(a0, .inr (7, [.int 0, .int 0, .int 0, .int 0, .int 0, .int 0, .int 0, .int 0, .int 0, .int 0, .int 0, .int 0, .null]))] sz) := by
  refine Met.ofW (cc := cX7_init) (maxL := 1) (ret := none) (by decide) rfl ?_
  intro p e s m args below meth c s₁ B hml hv
  obtain ⟨rfl, hsz, hP, hK, hD0, hE, hZ⟩ := hv
  have hx := B.exec
  have hb := B.bytes
  have hr := B.returns
  have hts0 := atoms_spec (ws := tp_w yX7_init cX7_init 1 none) B.pre
  have hts : ∀ w ∈ tp_all, w.before _ s = true := fun w h => hts0 w (List.mem_cons_of_mem _ h)
  have hown : s.vm.findClass RX7 = some m.cls := findClass_of_methodNamed B.named
  have hlocks := B.notSynchronized
  have hin : meth.name = "<init>" := (name_of_methodNamed B.named B.method).1
  subst hsz
  have hD := hD0.self (sz := s.heap.size)
  generalize hAe : va_A [(a0, .inr (7, [.int 0, .int 0, .int 0, .int 0, .int 0, .int 0, .int 0, .int 0, .int 0, .int 0, .int 0, .int 0, .null]))] s.heap.size = A at hD hZ ⊢
  have hA : ∀ q : Nat, s.heap.size ≤ q → A q := fun q h => by rw [← hAe]; exact Or.inr h
  have hS : va_S A s.heap s.heap [] := va_S.rf
  have hl9 := lv_entry ([.ref a0]) (n := 1) (Nat.le_of_ble_eq_true rfl)
  rw [lg_entry_eq]
  generalize (lg_sl ([.ref a0]) ++ List.replicate (1 - (lg_sl ([.ref a0])).length) Slot.unset).toArray = ls at hl9 ⊢
  have hl : lv_has ls 1 [(0, .ref a0)] := hl9
  refine lv_aload_n hx hb dX7_init_0 rfl (lv_at hl 0 rfl) ?_
  refine W.objInit hx hb hown (hts _ tw_301) (hts _ tw_64) (hts _ tw_65) rfl (by rw [hml]; exact hl.1) rfl dX7_init_1 (Nat.le_of_ble_eq_true rfl) (Nat.le_of_ble_eq_true rfl) ?_
  refine W.eq (g2 := F0 m 4 ls []) rfl ?_
  refine lv_aload_n hx hb dX7_init_4 rfl (lv_at hl 0 rfl) ?_
  refine lv_bipush (v := 11) hx hb dX7_init_5 (by decide) ?_
  refine va_newa hx hb (atype := .int) (hts _ tw_105) (ty := .int) rfl hK hP hD hS hA (a0 := (11, .inl (fun _ => 0))) (N' := 11) (fun _ => rfl) (by decide) (by decide) (Nat.le_of_ble_eq_true rfl) (Nat.le_of_ble_eq_true rfl) (Nat.le_of_ble_eq_true rfl) dX7_init_7 (fun a_1 k_2 H hK9 hP hD hS => ?_)
  obtain rfl : k_2 = cy 0 := tp_one hK9 10 0 rfl rfl
  have hP : va_P (dC, dI) vwCl [(a0, .inr (7, [.int 0, .int 0, .int 0, .int 0, .int 0, .int 0, .int 0, .int 0, .int 0, .int 0, .int 0, .int 0, .null])), (a_1, .inl (cy 0, 11, .inl ((fun _ => 0))))] _ := hP
  have hD : va_D A [(a0, .inr (7, [.int 0, .int 0, .int 0, .int 0, .int 0, .int 0, .int 0, .int 0, .int 0, .int 0, .int 0, .int 0, .null])), (a_1, .inl (cy 0, 11, .inl ((fun _ => 0))))] := hD
  refine va_putF (D := (dC, dI)) (ci := 7) (v := .ref a_1) (ty := (.array .int)) (C := RX7) (T := TX7) (N := 13) hx hb hts tl_X7 tyX7 tyX7_ok nmX7 hown hK hP hD hS 0 rfl rfl 12 (by decide) (hts _ tw_329) (fun _ h9 => h9) rfl hin rfl (by decide +kernel) rfl rfl (Nat.le_of_ble_eq_true rfl) dX7_init_9 (fun H locs hP hD hS => ?_)
  have hP : va_P (dC, dI) vwCl [(a0, .inr (7, [.int 0, .int 0, .int 0, .int 0, .int 0, .int 0, .int 0, .int 0, .int 0, .int 0, .int 0, .int 0, .ref a_1])), (a_1, .inl (cy 0, 11, .inl ((fun _ => 0))))] _ := hP
  have hD : va_D A [(a0, .inr (7, [.int 0, .int 0, .int 0, .int 0, .int 0, .int 0, .int 0, .int 0, .int 0, .int 0, .int 0, .int 0, .ref a_1])), (a_1, .inl (cy 0, 11, .inl ((fun _ => 0))))] := hD
  refine W.widen (k := 1) (n := 11) (Nat.le_of_ble_eq_true rfl) (Nat.le_of_ble_eq_true rfl) ?_
  have hP9 := hP.sub (ws' := [(a0, .inr (7, [.int 0, .int 0, .int 0, .int 0, .int 0, .int 0, .int 0, .int 0, .int 0, .int 0, .int 0, .int 0, .ref a_1]))]) [0] rfl
  have hD9 := hD.sub (ws' := [(a0, .inr (7, [.int 0, .int 0, .int 0, .int 0, .int 0, .int 0, .int 0, .int 0, .int 0, .int 0, .int 0, .int 0, .ref a_1]))]) [0] (by decide) rfl
  exact W.vret hx hb hr (fun t ht hW => ⟨⟨(), rfl, trivial, ⟨a_1, by rw [ht]; exact hP9, hD9⟩⟩, hS.F ht⟩) hS.2.2 dX7_init_12
set_option maxRecDepth 100000 in
set_option maxHeartbeats 4000000 in
/-- Trails() -/
theorem tm_Trails (l : Launch) (hst : l.stackTraces = false) (dC : Nat → ClassId) (dI : Nat → Nat → Nat) (cy : Nat → ClassId) (a0 : Nat) (sz : Nat) : Met l yX6_init (tp_w yX6_init cX6_init 1 none) ({ frames := 1, cells := 201, slots := 400, locals := 12 }) (va_Pc [.ref a0] (tp_Pre dC dI cy [(a0, .inr (6, [.null]))] sz)) (va_Qv (fun _ : Unit => True) (fun (_ : Unit) (t : State) => ∃ (q1 : Nat), tp_Post dC dI (va_A [(a0, .inr (6, [.null]))] sz) [(a0, .inr (6, [.ref q1]))] t) (va_A [(a0, .inr (6, [.null]))] sz)) 201 400 (va_A [(a0, .inr (6, [.null]))] sz) := by
  refine Met.ofW (cc := cX6_init) (maxL := 1) (ret := none) (by decide) rfl ?_
  intro p e s m args below meth c s₁ B hml hv
  obtain ⟨rfl, hsz, hP, hK, hD0, hE, hZ⟩ := hv
  have hx := B.exec
  have hb := B.bytes
  have hr := B.returns
  have hts0 := atoms_spec (ws := tp_w yX6_init cX6_init 1 none) B.pre
  have hts : ∀ w ∈ tp_all, w.before _ s = true := fun w h => hts0 w (List.mem_cons_of_mem _ h)
  have hown : s.vm.findClass RX6 = some m.cls := findClass_of_methodNamed B.named
  have hlocks := B.notSynchronized
  have hin : meth.name = "<init>" := (name_of_methodNamed B.named B.method).1
  subst hsz
  have hD := hD0.self (sz := s.heap.size)
  generalize hAe : va_A [(a0, .inr (6, [.null]))] s.heap.size = A at hD hZ ⊢
  have hA : ∀ q : Nat, s.heap.size ≤ q → A q := fun q h => by rw [← hAe]; exact Or.inr h
  have hS : va_S A s.heap s.heap [] := va_S.rf
  have hl9 := lv_entry ([.ref a0]) (n := 1) (Nat.le_of_ble_eq_true rfl)
  rw [lg_entry_eq]
  generalize (lg_sl ([.ref a0]) ++ List.replicate (1 - (lg_sl ([.ref a0])).length) Slot.unset).toArray = ls at hl9 ⊢
  have hl : lv_has ls 1 [(0, .ref a0)] := hl9
  refine lv_aload_n hx hb dX6_init_0 rfl (lv_at hl 0 rfl) ?_
  refine W.objInit hx hb hown (hts _ tw_206) (hts _ tw_64) (hts _ tw_65) rfl (by rw [hml]; exact hl.1) rfl dX6_init_1 (Nat.le_of_ble_eq_true rfl) (Nat.le_of_ble_eq_true rfl) ?_
  refine W.eq (g2 := F0 m 4 ls []) rfl ?_
  refine lv_aload_n hx hb dX6_init_4 rfl (lv_at hl 0 rfl) ?_
  refine lv_sipush (v := 200) hx hb dX6_init_5 (by decide) ?_
  refine lv_iconst (v := 1) hx hb dX6_init_8 (by decide) ?_
  have hP9 : va_P (dC, dI) vwCl ([(a0, .inr (6, [.null]))] ++ va_pl [] (fun _ => .inr (0, []))) s.heap := by simpa [va_pl] using hP
  have hD9 : va_D A ([(a0, .inr (6, [.null]))] ++ va_pl [] (fun _ => .inr (0, []))) := by simpa [va_pl] using hD
  refine va_mna hx hb (own := RX6) (ty := .long) (cy := cy 1) (N' := 200) (K' := 1) (z := (1, .inr (.inl (fun _ => 0)))) hown (by rw [tp_s2J]; exact hts _ tw_207) (hE.2.2.2.1 _ (List.mem_of_getElem? (i := 1) rfl)) (hts _ tw_213) (tp_fcJ hK) hK hP9 hD9 hS hA (by decide) (by decide) (by decide) (by decide) (Nat.le_of_ble_eq_true rfl) (Nat.le_of_ble_eq_true rfl) (Nat.le_of_ble_eq_true rfl) rfl rfl (Nat.le_of_ble_eq_true rfl) (Nat.le_of_ble_eq_true rfl) (fun _ => rfl) dX6_init_9 (fun a_1 r_3 k_2 H _ _ hK9 hP hD hS => ?_)
  obtain rfl : k_2 = cy 9 := tp_one hK9 10 9 rfl rfl
  have hP := tp_first (X := [(a0, .inr (6, [.null])), (a_1, .inl (cy 9, 200, .inr (.inr (.inr (.inr ((fun i => if i < 200 then some (r_3 i) else none)))))))]) hP
  have hD := tp_firstD (X := [(a0, .inr (6, [.null])), (a_1, .inl (cy 9, 200, .inr (.inr (.inr (.inr ((fun i => if i < 200 then some (r_3 i) else none)))))))]) hD
  refine va_putF (D := (dC, dI)) (ci := 6) (v := .ref a_1) (ty := (.array (.array .long))) (C := RX6) (T := TX6) (N := 1) hx hb hts tl_X6 tyX6 tyX6_ok nmX6 hown hK hP hD hS 0 rfl rfl 0 (by decide) (hts _ tw_209) (fun _ h9 => h9) rfl hin rfl (by decide +kernel) rfl rfl (Nat.le_of_ble_eq_true rfl) dX6_init_13 (fun H locs hP hD hS => ?_)
  have hP : va_P (dC, dI) vwCl [(a0, .inr (6, [.ref a_1])), (a_1, .inl (cy 9, 200, .inr (.inr (.inr (.inr ((fun i => if i < 200 then some (r_3 i) else none)))))))] _ := hP
  have hD : va_D A [(a0, .inr (6, [.ref a_1])), (a_1, .inl (cy 9, 200, .inr (.inr (.inr (.inr ((fun i => if i < 200 then some (r_3 i) else none)))))))] := hD
  refine W.widen (k := 201) (n := 400) (Nat.le_of_ble_eq_true rfl) (Nat.le_of_ble_eq_true rfl) ?_
  have hP9 := hP.sub (ws' := [(a0, .inr (6, [.ref a_1]))]) [0] rfl
  have hD9 := hD.sub (ws' := [(a0, .inr (6, [.ref a_1]))]) [0] (by decide) rfl
  exact W.vret hx hb hr (fun t ht hW => ⟨⟨(), rfl, trivial, ⟨a_1, by rw [ht]; exact hP9, hD9⟩⟩, hS.F ht⟩) hS.2.2 dX6_init_16
set_option maxRecDepth 100000 in
set_option maxHeartbeats 4000000 in
/-- Roads() -/
theorem tm_Roads (l : Launch) (hst : l.stackTraces = false) (dC : Nat → ClassId) (dI : Nat → Nat → Nat) (cy : Nat → ClassId) (a0 : Nat) (sz : Nat) : Met l yX2_init (tp_w yX2_init cX2_init 2 none) ({ frames := 3, cells := 158, slots := 2676, locals := 55 }) (va_Pc [.ref a0] (tp_Pre dC dI cy [(a0, .inr (2, [.null, .int 0, .null, .int 0]))] sz)) (va_Qv (fun _ : Unit => True) (fun (_ : Unit) (t : State) => ∃ (q1 : Nat), ∃ (q2 : Nat), tp_Post dC dI (va_A [(a0, .inr (2, [.null, .int 0, .null, .int 0]))] sz) [(a0, .inr (2, [.ref q1, .int 0, .ref q2, .int 0]))] t) (va_A [(a0, .inr (2, [.null, .int 0, .null, .int 0]))] sz)) 158 2676 (va_A [(a0, .inr (2, [.null, .int 0, .null, .int 0]))] sz) := by
  refine Met.ofW (cc := cX2_init) (maxL := 2) (ret := none) (by decide) rfl ?_
  intro p e s m args below meth c s₁ B hml hv
  obtain ⟨rfl, hsz, hP, hK, hD0, hE, hZ⟩ := hv
  have hx := B.exec
  have hb := B.bytes
  have hr := B.returns
  have hts0 := atoms_spec (ws := tp_w yX2_init cX2_init 2 none) B.pre
  have hts : ∀ w ∈ tp_all, w.before _ s = true := fun w h => hts0 w (List.mem_cons_of_mem _ h)
  have hown : s.vm.findClass RX2 = some m.cls := findClass_of_methodNamed B.named
  have hlocks := B.notSynchronized
  have hin : meth.name = "<init>" := (name_of_methodNamed B.named B.method).1
  subst hsz
  have hD := hD0.self (sz := s.heap.size)
  generalize hAe : va_A [(a0, .inr (2, [.null, .int 0, .null, .int 0]))] s.heap.size = A at hD hZ ⊢
  have hA : ∀ q : Nat, s.heap.size ≤ q → A q := fun q h => by rw [← hAe]; exact Or.inr h
  have hS : va_S A s.heap s.heap [] := va_S.rf
  have hl9 := lv_entry ([.ref a0]) (n := 2) (Nat.le_of_ble_eq_true rfl)
  rw [lg_entry_eq]
  generalize (lg_sl ([.ref a0]) ++ List.replicate (2 - (lg_sl ([.ref a0])).length) Slot.unset).toArray = ls at hl9 ⊢
  have hl : lv_has ls 2 [(0, .ref a0)] := hl9
  refine lv_aload_n hx hb dX2_init_0 rfl (lv_at hl 0 rfl) ?_
  refine W.objInit hx hb hown (hts _ tw_77) (hts _ tw_64) (hts _ tw_65) rfl (by rw [hml]; exact hl.1) rfl dX2_init_1 (Nat.le_of_ble_eq_true rfl) (Nat.le_of_ble_eq_true rfl) ?_
  refine W.eq (g2 := F0 m 4 ls []) rfl ?_
  refine lv_aload_n hx hb dX2_init_4 rfl (lv_at hl 0 rfl) ?_
  refine lv_bipush (v := 24) hx hb dX2_init_5 (by decide) ?_
  refine va_newq hx hb (C := RX1) (N' := 24) hown (hts _ tw_78) (hE.2.2.1 _ (List.mem_of_getElem? (i := 0) rfl)) hK hP hD hS hA (by decide) (by decide) (Nat.le_of_ble_eq_true rfl) (Nat.le_of_ble_eq_true rfl) (Nat.le_of_ble_eq_true rfl) dX2_init_7 (fun a_1 k_2 H hK9 hP hD hS => ?_)
  obtain rfl : k_2 = cy 3 := tp_one hK9 10 3 rfl rfl
  have hP : va_P (dC, dI) vwCl [(a0, .inr (2, [.null, .int 0, .null, .int 0])), (a_1, .inl (cy 3, 24, .inr (.inr (.inr (.inr ((fun _ => none)))))))] _ := hP
  have hD : va_D A [(a0, .inr (2, [.null, .int 0, .null, .int 0])), (a_1, .inl (cy 3, 24, .inr (.inr (.inr (.inr ((fun _ => none)))))))] := hD
  refine va_putF (D := (dC, dI)) (ci := 2) (v := .ref a_1) (ty := (.array (.object "Turnpike$Link"))) (C := RX2) (T := TX2) (N := 4) hx hb hts tl_X2 tyX2 tyX2_ok nmX2 hown hK hP hD hS 0 rfl rfl 0 (by decide) (hts _ tw_177) (fun _ h9 => h9) rfl hin rfl (by decide +kernel) rfl rfl (Nat.le_of_ble_eq_true rfl) dX2_init_10 (fun H locs hP hD hS => ?_)
  have hP : va_P (dC, dI) vwCl [(a0, .inr (2, [.ref a_1, .int 0, .null, .int 0])), (a_1, .inl (cy 3, 24, .inr (.inr (.inr (.inr ((fun _ => none)))))))] _ := hP
  have hD : va_D A [(a0, .inr (2, [.ref a_1, .int 0, .null, .int 0])), (a_1, .inl (cy 3, 24, .inr (.inr (.inr (.inr ((fun _ => none)))))))] := hD
  refine lv_aload_n hx hb dX2_init_13 rfl (lv_at hl 0 rfl) ?_
  refine lv_bipush (v := 12) hx hb dX2_init_14 (by decide) ?_
  refine lv_bipush (v := 12) hx hb dX2_init_16 (by decide) ?_
  have hP9 : va_P (dC, dI) vwCl ([(a0, .inr (2, [.ref a_1, .int 0, .null, .int 0])), (a_1, .inl (cy 3, 24, .inr (.inr (.inr (.inr ((fun _ => none)))))))] ++ va_pl [] (fun _ => .inr (0, []))) H := by simpa [va_pl] using hP
  have hD9 : va_D A ([(a0, .inr (2, [.ref a_1, .int 0, .null, .int 0])), (a_1, .inl (cy 3, 24, .inr (.inr (.inr (.inr ((fun _ => none)))))))] ++ va_pl [] (fun _ => .inr (0, []))) := by simpa [va_pl] using hD
  refine va_mna hx hb (own := RX2) (ty := .int) (cy := cy 0) (N' := 12) (K' := 12) (z := (12, .inl (fun _ => 0))) hown (by rw [tp_s2I]; exact hts _ tw_80) (hE.2.2.2.1 _ (List.mem_of_getElem? (i := 0) rfl)) (hts _ tw_105) (tp_fcI hK) hK hP9 hD9 hS hA (by decide) (by decide) (by decide) (by decide) (Nat.le_of_ble_eq_true rfl) (Nat.le_of_ble_eq_true rfl) (Nat.le_of_ble_eq_true rfl) rfl rfl (Nat.le_of_ble_eq_true rfl) (Nat.le_of_ble_eq_true rfl) (fun _ => rfl) dX2_init_18 (fun a_3 r_5 k_4 H _ _ hK9 hP hD hS => ?_)
  obtain rfl : k_4 = cy 8 := tp_one hK9 10 8 rfl rfl
  have hP := tp_first (X := [(a0, .inr (2, [.ref a_1, .int 0, .null, .int 0])), (a_1, .inl (cy 3, 24, .inr (.inr (.inr (.inr ((fun _ => none))))))), (a_3, .inl (cy 8, 12, .inr (.inr (.inr (.inr ((fun i => if i < 12 then some (r_5 i) else none)))))))]) hP
  have hD := tp_firstD (X := [(a0, .inr (2, [.ref a_1, .int 0, .null, .int 0])), (a_1, .inl (cy 3, 24, .inr (.inr (.inr (.inr ((fun _ => none))))))), (a_3, .inl (cy 8, 12, .inr (.inr (.inr (.inr ((fun i => if i < 12 then some (r_5 i) else none)))))))]) hD
  refine va_putF (D := (dC, dI)) (ci := 2) (v := .ref a_3) (ty := (.array (.array .int))) (C := RX2) (T := TX2) (N := 4) hx hb hts tl_X2 tyX2 tyX2_ok nmX2 hown hK hP hD hS 0 rfl rfl 2 (by decide) (hts _ tw_182) (fun _ h9 => h9) rfl hin rfl (by decide +kernel) rfl rfl (Nat.le_of_ble_eq_true rfl) dX2_init_22 (fun H locs hP hD hS => ?_)
  have hP : va_P (dC, dI) vwCl [(a0, .inr (2, [.ref a_1, .int 0, .ref a_3, .int 0])), (a_1, .inl (cy 3, 24, .inr (.inr (.inr (.inr ((fun _ => none))))))), (a_3, .inl (cy 8, 12, .inr (.inr (.inr (.inr ((fun i => if i < 12 then some (r_5 i) else none)))))))] _ := hP
  have hD : va_D A [(a0, .inr (2, [.ref a_1, .int 0, .ref a_3, .int 0])), (a_1, .inl (cy 3, 24, .inr (.inr (.inr (.inr ((fun _ => none))))))), (a_3, .inl (cy 8, 12, .inr (.inr (.inr (.inr ((fun i => if i < 12 then some (r_5 i) else none)))))))] := hD
  refine lv_iconst (v := 0) hx hb dX2_init_25 (by decide) ?_
  refine lv_istore_n (lv' := [(1, .int 0), (0, .ref a0)]) hx hb dX2_init_26 rfl hl (by decide) rfl (fun ls hl => ?_)
  refine W.widen (k := (0 + 1 + 1 + 12) + 6 * 0) (n := (0 + 24 + 12 + 12 * 12) + 104 * 0) (Nat.le_refl _) (Nat.le_refl _) ?_
  refine tp_for 24 (0 + 1 + 1 + 12) 6 (0 + 24 + 12 + 12 * 12) 104 (fun (i : Nat) (x : (Nat → Option Nat)) (H : Heap) (locs : List Loc) (ls : Array Slot) => va_P (dC, dI) vwCl [(a0, .inr (2, [.ref a_1, .int 0, .ref a_3, .int 0])), (a_1, .inl (cy 3, 24, .inr (.inr (.inr (.inr x)))))] H ∧ va_D A [(a0, .inr (2, [.ref a_1, .int 0, .ref a_3, .int 0])), (a_1, .inl (cy 3, 24, .inr (.inr (.inr (.inr x)))))] ∧ va_S A s.heap H locs ∧ lv_has ls 2 [(1, .int (nI i)), (0, .ref a0)]) ?_ ?_ 24 0 (Nat.zero_add _) ((fun _ => none)) _ _ ls ⟨hP.sub [0, 1] rfl, hD.sub [0, 1] (by decide) rfl, hS, lv_sub hl [0, 1] rfl⟩
  · rintro g1 H locs ls ⟨hP, hD, hS, hl⟩
    have hP : va_P (dC, dI) vwCl [(a0, .inr (2, [.ref a_1, .int 0, .ref a_3, .int 0])), (a_1, .inl (cy 3, 24, .inr (.inr (.inr (.inr g1)))))] _ := hP
    have hD : va_D A [(a0, .inr (2, [.ref a_1, .int 0, .ref a_3, .int 0])), (a_1, .inl (cy 3, 24, .inr (.inr (.inr (.inr g1)))))] := hD
    have hl : lv_has ls 2 [(1, .int (nI 24)), (0, .ref a0)] := hl
    refine lv_iload_n hx hb dX2_init_27 rfl (lv_at hl 0 rfl) ?_
    refine lv_bipush (v := 24) hx hb dX2_init_28 (by decide) ?_
    refine lv_icmp_ge (tgt := 52) hx hb dX2_init_30 (by decide) (fun _ => ?_) (fun c_6 => absurd (by decide) c_6)
    refine W.widen (k := 158) (n := 2676) (by show (0 + 1 + 1 + 12) + 6 * 24 + 0 ≤ 158; omega) (by show (0 + 24 + 12 + 12 * 12) + 104 * 24 + 0 ≤ 2676; omega) ?_
    have hP9 := hP.sub (ws' := [(a0, .inr (2, [.ref a_1, .int 0, .ref a_3, .int 0]))]) [0] rfl
    have hD9 := hD.sub (ws' := [(a0, .inr (2, [.ref a_1, .int 0, .ref a_3, .int 0]))]) [0] (by decide) rfl
    exact W.vret hx hb hr (fun t ht hW => ⟨⟨(), rfl, trivial, ⟨a_1, a_3, by rw [ht]; exact hP9, hD9⟩⟩, hS.F ht⟩) hS.2.2 dX2_init_52
  · rintro i g1 H locs ls hi ⟨hP, hD, hS, hl⟩ ih
    have hP : va_P (dC, dI) vwCl [(a0, .inr (2, [.ref a_1, .int 0, .ref a_3, .int 0])), (a_1, .inl (cy 3, 24, .inr (.inr (.inr (.inr g1)))))] _ := hP
    have hD : va_D A [(a0, .inr (2, [.ref a_1, .int 0, .ref a_3, .int 0])), (a_1, .inl (cy 3, 24, .inr (.inr (.inr (.inr g1)))))] := hD
    have hl : lv_has ls 2 [(1, .int (nI i)), (0, .ref a0)] := hl
    refine lv_iload_n hx hb dX2_init_27 rfl (lv_at hl 0 rfl) ?_
    refine lv_bipush (v := 24) hx hb dX2_init_28 (by decide) ?_
    refine lv_icmp_ge (tgt := 52) hx hb dX2_init_30 (by decide) (fun c_7 => absurd c_7 (show ¬ (24 : Int32) ≤ nI i from nI_ge hi (by decide))) (fun _ => ?_)
    refine lv_aload_n hx hb dX2_init_33 rfl (lv_at hl 1 rfl) ?_
    refine va_get (D := (dC, dI)) (ci := 2) (v := .ref a_1) (C := RX2) (T := TX2) (N := 4) hx hb hts tl_X2 hown hK hP 0 rfl rfl 0 (by decide) (hts _ tw_177) (fun _ h9 => h9) rfl dX2_init_34 ?_
    refine lv_iload_n hx hb dX2_init_37 rfl (lv_at hl 0 rfl) ?_
    have h8_a_8 : tp_dv 16 tyX1 [.int 0, .int 0, .int 0, .int 0, .int 0, .int 0, .int 0, .int 0, .int 0, .null, .null, .int 0, .int 0, .int 0, .int 0, .null] = true := by decide +kernel
    refine va_new (ci := 1) (fs := [.int 0, .int 0, .int 0, .int 0, .int 0, .int 0, .int 0, .int 0, .int 0, .null, .null, .int 0, .int 0, .int 0, .int 0, .null]) (C := RX1) (T := TX1) (N := 16) hx hb hts tl_X1 tyX1 tyX1_ok hown (hts _ tw_78) (hts _ tw_82) (hts _ tw_41) hK hP hD hS hA rfl (fun j hj => by exact tp_dv_ok h8_a_8 j hj) (by show (0 + 1 + 1 + 12) + 6 * i + 1 ≤ 158; omega) (by show (0 + 24 + 12 + 12 * 12) + 104 * i + 16 ≤ 2676; omega) dX2_init_38 (fun a_8 H hP hD hS => ?_)
    have hP : va_P (dC, dI) vwCl [(a0, .inr (2, [.ref a_1, .int 0, .ref a_3, .int 0])), (a_1, .inl (cy 3, 24, .inr (.inr (.inr (.inr g1))))), (a_8, .inr (1, [.int 0, .int 0, .int 0, .int 0, .int 0, .int 0, .int 0, .int 0, .int 0, .null, .null, .int 0, .int 0, .int 0, .int 0, .null]))] _ := hP
    have hD : va_D A [(a0, .inr (2, [.ref a_1, .int 0, .ref a_3, .int 0])), (a_1, .inl (cy 3, 24, .inr (.inr (.inr (.inr g1))))), (a_8, .inr (1, [.int 0, .int 0, .int 0, .int 0, .int 0, .int 0, .int 0, .int 0, .int 0, .null, .null, .int 0, .int 0, .int 0, .int 0, .null]))] := hD
    refine lv_dup hx hb dX2_init_41 rfl ?_
    have hFc := va_free (wc := [(a_8, .inr (1, [.int 0, .int 0, .int 0, .int 0, .int 0, .int 0, .int 0, .int 0, .int 0, .null, .null, .int 0, .int 0, .int 0, .int 0, .null]))]) hD hS hA [2] rfl
    refine va_callv (va_runIN (As := []) (rest := [.ref a_8, .int (nI i), .ref a_1]) ⟨hx, hb, hml, hown, hts⟩ (tm_Link l hst dC dI cy a_8 H.size) ⟨tp_cnB 0 hts (te_m0 hE) tw_41 tw_85 rfl rfl (by decide +kernel) ⟨Nat.le_of_ble_eq_true rfl, Nat.le_of_ble_eq_true rfl⟩, rfl, hts _ tw_84⟩ ⟨tp_blind, fun U hU hW => ⟨rfl, tp_pay hK hP hD hE hZ hS [2] (by decide) rfl hFc U hU hW⟩⟩ rfl rfl hl.1 rfl (lv_room (Nat.le_of_ble_eq_true rfl)) dX2_init_42 ⟨(by show (0 + 1 + 1 + 12) + 6 * i + 1 + 5 ≤ 158; omega), (by show (0 + 24 + 12 + 12 * 12) + 104 * i + 16 + 88 ≤ 2676; omega)⟩) hS (fun q _ h => hFc q h) hFc (fun u t H1 locs ht hvm hw hB hz1 hk1 hS => ?_)
    obtain ⟨z_10, z_11, z_12, hP1, hD1⟩ := hB
    rw [ht] at hP1
    obtain ⟨hP, hD⟩ := va_join (wr := [(a0, .inr (2, [.ref a_1, .int 0, .ref a_3, .int 0])), (a_1, .inl (cy 3, 24, .inr (.inr (.inr (.inr g1)))))]) (w1 := [(a_8, .inr (1, [.int 0, .int 0, .int 0, .int 0, .int 0, .int 0, .int ((-1)), .int 0, .int 0, .ref z_10, .ref z_11, .int 0, .int 0, .int 0, .int 0, .ref z_12]))]) hP hD [2] [0, 1] rfl rfl (by decide) (by decide) hk1 hFc hP1 hD1
    generalize H1 = H at hP hS ⊢
    have hP : va_P (dC, dI) vwCl [(a0, .inr (2, [.ref a_1, .int 0, .ref a_3, .int 0])), (a_1, .inl (cy 3, 24, .inr (.inr (.inr (.inr g1))))), (a_8, .inr (1, [.int 0, .int 0, .int 0, .int 0, .int 0, .int 0, .int ((-1)), .int 0, .int 0, .ref z_10, .ref z_11, .int 0, .int 0, .int 0, .int 0, .ref z_12]))] _ := hP
    have hD : va_D A [(a0, .inr (2, [.ref a_1, .int 0, .ref a_3, .int 0])), (a_1, .inl (cy 3, 24, .inr (.inr (.inr (.inr g1))))), (a_8, .inr (1, [.int 0, .int 0, .int 0, .int 0, .int 0, .int 0, .int ((-1)), .int 0, .int 0, .ref z_10, .ref z_11, .int 0, .int 0, .int 0, .int 0, .ref z_12]))] := hD
    refine va_astq hx hb hK hP hD hS 1 3 2 1 rfl rfl rfl rfl (vp_in_nI hi (by decide)) dX2_init_45 (fun H locs hP hD hS => ?_)
    have hP : va_P (dC, dI) vwCl [(a0, .inr (2, [.ref a_1, .int 0, .ref a_3, .int 0])), (a_1, .inl (cy 3, 24, .inr (.inr (.inr (.inr (va_up g1 (nI i : Int32).toNatClampNeg (some a_8))))))), (a_8, .inr (1, [.int 0, .int 0, .int 0, .int 0, .int 0, .int 0, .int ((-1)), .int 0, .int 0, .ref z_10, .ref z_11, .int 0, .int 0, .int 0, .int 0, .ref z_12]))] _ := hP
    have hD : va_D A [(a0, .inr (2, [.ref a_1, .int 0, .ref a_3, .int 0])), (a_1, .inl (cy 3, 24, .inr (.inr (.inr (.inr (va_up g1 (nI i : Int32).toNatClampNeg (some a_8))))))), (a_8, .inr (1, [.int 0, .int 0, .int 0, .int 0, .int 0, .int 0, .int ((-1)), .int 0, .int 0, .ref z_10, .ref z_11, .int 0, .int 0, .int 0, .int 0, .ref z_12]))] := hD
    refine lv_iinc (v := nI (i + 1)) (lv' := [(1, .int (nI (i + 1))), (0, .ref a0)]) hx hb dX2_init_46 hl (k := 0) rfl (nI_1 i) (by decide) rfl (fun ls hl => ?_)
    refine lv_goto (tgt := 27) hx hb dX2_init_49 (by decide) ?_
    refine W.widen (k := (0 + 1 + 1 + 12) + 6 * (i + 1)) (n := (0 + 24 + 12 + 12 * 12) + 104 * (i + 1)) (by omega) (by omega) ?_
    exact ih (va_up g1 (nI i : Int32).toNatClampNeg (some a_8)) _ _ ls ⟨hP.sub [0, 1] rfl, hD.sub [0, 1] (by decide) rfl, hS, lv_sub hl [0, 1] rfl⟩

theorem b0_nno {a : St} {nd nl nf f : Nat} (h : a 0 0 0 = 0 ∧ a 0 0 1 = 1 ∧ a 0 0 2 = nI nd ∧ nd ≤ 12 ∧ a 1 0 0 = nI nl ∧ nl ≤ 24 ∧ a 0 0 3 = nI nf ∧ nf ≤ 10 ∧ a 0 0 4 = 0 ∧ a 0 0 5 = 0) (hf : f < nd) : ¬ N_no a (nI f) := by
  rintro (h9 | h9)
  · exact nI_nneg (by omega) h9
  · rw [h.2.2.1] at h9
    exact nI_ge hf (by omega) h9
theorem tw_1018 : Cond.code yX9_draw cX9_draw 3 (some .int) ∈ tp_all := tp_mem 1018 (by decide +kernel) rfl
theorem tw_1031 : Cond.methodLink RX9 97 yX9_draw ∈ tp_all := tp_mem 1031 (by decide +kernel) rfl
theorem tw_1016 : Cond.instanceMethod yX9_draw ∈ tp_all := tp_mem 1016 (by decide +kernel) rfl
theorem tw_1017 : Cond.selects RX9 yX9_draw yX9_draw ∈ tp_all := tp_mem 1017 (by decide +kernel) rfl
theorem tw_19 : Cond.initialized RX9 ∈ tp_all := tp_mem 19 (by decide +kernel) rfl
theorem tw_943 : Cond.fieldLink RX9 22 "TurnpikeLaw$Roads" "link" "[[I" ∈ tp_all := tp_mem 943 (by decide +kernel) rfl
theorem tw_942 : Cond.fieldLink RX9 101 "TurnpikeLaw$Roads" "links" "I" ∈ tp_all := tp_mem 942 (by decide +kernel) rfl
theorem tw_945 : Cond.fieldLink RX9 26 "TurnpikeLaw$Roads" "rate" "[I" ∈ tp_all := tp_mem 945 (by decide +kernel) rfl
theorem tw_946 : Cond.fieldLink RX9 29 "TurnpikeLaw$Roads" "slowed" "[I" ∈ tp_all := tp_mem 946 (by decide +kernel) rfl
theorem tw_947 : Cond.fieldLink RX9 32 "TurnpikeLaw$Roads" "cost" "[I" ∈ tp_all := tp_mem 947 (by decide +kernel) rfl
theorem tw_933 : Cond.fieldLink RX9 10 "TurnpikeLaw$Roads" "m" "LTurnpike;" ∈ tp_all := tp_mem 933 (by decide +kernel) rfl
theorem tw_1059 : Cond.code yX8_addLink cX8_addLink 6 (some .int) ∈ tp_all := tp_mem 1059 (by decide +kernel) rfl
theorem tw_1056 : Cond.methodLink RX9 104 yX8_addLink ∈ tp_all := tp_mem 1056 (by decide +kernel) rfl
theorem tw_1057 : Cond.instanceMethod yX8_addLink ∈ tp_all := tp_mem 1057 (by decide +kernel) rfl
theorem tw_1058 : Cond.selects RX8 yX8_addLink yX8_addLink ∈ tp_all := tp_mem 1058 (by decide +kernel) rfl
theorem dX9_addLink_0 : decode cX9_addLink 0 = .ok (.iconst 5, 1) := by decide +kernel
theorem dX9_addLink_1 : decode cX9_addLink 1 = .ok (.newarray .int, 2) := by decide +kernel
theorem dX9_addLink_3 : decode cX9_addLink 3 = .ok (.dup, 1) := by decide +kernel
theorem dX9_addLink_4 : decode cX9_addLink 4 = .ok (.iconst 0, 1) := by decide +kernel
theorem dX9_addLink_5 : decode cX9_addLink 5 = .ok (.iload_n 1, 1) := by decide +kernel
theorem dX9_addLink_6 : decode cX9_addLink 6 = .ok (.iastore, 1) := by decide +kernel
theorem dX9_addLink_7 : decode cX9_addLink 7 = .ok (.dup, 1) := by decide +kernel
theorem dX9_addLink_8 : decode cX9_addLink 8 = .ok (.iconst 1, 1) := by decide +kernel
theorem dX9_addLink_9 : decode cX9_addLink 9 = .ok (.iload_n 2, 1) := by decide +kernel
theorem dX9_addLink_10 : decode cX9_addLink 10 = .ok (.iastore, 1) := by decide +kernel
theorem dX9_addLink_11 : decode cX9_addLink 11 = .ok (.dup, 1) := by decide +kernel
theorem dX9_addLink_12 : decode cX9_addLink 12 = .ok (.iconst 2, 1) := by decide +kernel
theorem dX9_addLink_13 : decode cX9_addLink 13 = .ok (.iconst 1, 1) := by decide +kernel
theorem dX9_addLink_14 : decode cX9_addLink 14 = .ok (.aload_n 0, 1) := by decide +kernel
theorem dX9_addLink_15 : decode cX9_addLink 15 = .ok (.iconst 4, 1) := by decide +kernel
theorem dX9_addLink_16 : decode cX9_addLink 16 = .ok (.invokevirtual 97, 3) := by decide +kernel
theorem dX9_addLink_19 : decode cX9_addLink 19 = .ok (.iadd, 1) := by decide +kernel
theorem dX9_addLink_20 : decode cX9_addLink 20 = .ok (.iastore, 1) := by decide +kernel
theorem dX9_addLink_21 : decode cX9_addLink 21 = .ok (.dup, 1) := by decide +kernel
theorem dX9_addLink_22 : decode cX9_addLink 22 = .ok (.iconst 3, 1) := by decide +kernel
theorem dX9_addLink_23 : decode cX9_addLink 23 = .ok (.iconst 1, 1) := by decide +kernel
theorem dX9_addLink_24 : decode cX9_addLink 24 = .ok (.aload_n 0, 1) := by decide +kernel
theorem dX9_addLink_25 : decode cX9_addLink 25 = .ok (.aload_n 0, 1) := by decide +kernel
theorem dX9_addLink_26 : decode cX9_addLink 26 = .ok (.iconst 2, 1) := by decide +kernel
theorem dX9_addLink_27 : decode cX9_addLink 27 = .ok (.invokevirtual 97, 3) := by decide +kernel
theorem dX9_addLink_30 : decode cX9_addLink 30 = .ok (.ifCond .ne 7, 3) := by decide +kernel
theorem dX9_addLink_37 : decode cX9_addLink 37 = .ok (.bipush 8, 2) := by decide +kernel
theorem dX9_addLink_39 : decode cX9_addLink 39 = .ok (.invokevirtual 97, 3) := by decide +kernel
theorem dX9_addLink_42 : decode cX9_addLink 42 = .ok (.iadd, 1) := by decide +kernel
theorem dX9_addLink_43 : decode cX9_addLink 43 = .ok (.iastore, 1) := by decide +kernel
theorem dX9_addLink_44 : decode cX9_addLink 44 = .ok (.dup, 1) := by decide +kernel
theorem dX9_addLink_45 : decode cX9_addLink 45 = .ok (.iconst 4, 1) := by decide +kernel
theorem dX9_addLink_46 : decode cX9_addLink 46 = .ok (.iconst 1, 1) := by decide +kernel
theorem dX9_addLink_47 : decode cX9_addLink 47 = .ok (.aload_n 0, 1) := by decide +kernel
theorem dX9_addLink_48 : decode cX9_addLink 48 = .ok (.iconst 2, 1) := by decide +kernel
theorem dX9_addLink_49 : decode cX9_addLink 49 = .ok (.invokevirtual 97, 3) := by decide +kernel
theorem dX9_addLink_52 : decode cX9_addLink 52 = .ok (.iadd, 1) := by decide +kernel
theorem dX9_addLink_53 : decode cX9_addLink 53 = .ok (.iastore, 1) := by decide +kernel
theorem dX9_addLink_54 : decode cX9_addLink 54 = .ok (.astore_n 3, 1) := by decide +kernel
theorem dX9_addLink_55 : decode cX9_addLink 55 = .ok (.aload_n 0, 1) := by decide +kernel
theorem dX9_addLink_56 : decode cX9_addLink 56 = .ok (.getfield 22, 3) := by decide +kernel
theorem dX9_addLink_59 : decode cX9_addLink 59 = .ok (.aload_n 0, 1) := by decide +kernel
theorem dX9_addLink_60 : decode cX9_addLink 60 = .ok (.getfield 101, 3) := by decide +kernel
theorem dX9_addLink_63 : decode cX9_addLink 63 = .ok (.aload_n 3, 1) := by decide +kernel
theorem dX9_addLink_64 : decode cX9_addLink 64 = .ok (.aastore, 1) := by decide +kernel
theorem dX9_addLink_65 : decode cX9_addLink 65 = .ok (.aload_n 0, 1) := by decide +kernel
theorem dX9_addLink_66 : decode cX9_addLink 66 = .ok (.getfield 26, 3) := by decide +kernel
theorem dX9_addLink_69 : decode cX9_addLink 69 = .ok (.aload_n 0, 1) := by decide +kernel
theorem dX9_addLink_70 : decode cX9_addLink 70 = .ok (.getfield 101, 3) := by decide +kernel
theorem dX9_addLink_73 : decode cX9_addLink 73 = .ok (.aload_n 3, 1) := by decide +kernel
theorem dX9_addLink_74 : decode cX9_addLink 74 = .ok (.iconst 4, 1) := by decide +kernel
theorem dX9_addLink_75 : decode cX9_addLink 75 = .ok (.iaload, 1) := by decide +kernel
theorem dX9_addLink_76 : decode cX9_addLink 76 = .ok (.iastore, 1) := by decide +kernel
theorem dX9_addLink_77 : decode cX9_addLink 77 = .ok (.aload_n 0, 1) := by decide +kernel
theorem dX9_addLink_78 : decode cX9_addLink 78 = .ok (.getfield 29, 3) := by decide +kernel
theorem dX9_addLink_81 : decode cX9_addLink 81 = .ok (.aload_n 0, 1) := by decide +kernel
theorem dX9_addLink_82 : decode cX9_addLink 82 = .ok (.getfield 101, 3) := by decide +kernel
theorem dX9_addLink_85 : decode cX9_addLink 85 = .ok (.iconst (-1), 1) := by decide +kernel
theorem dX9_addLink_86 : decode cX9_addLink 86 = .ok (.iastore, 1) := by decide +kernel
theorem dX9_addLink_87 : decode cX9_addLink 87 = .ok (.aload_n 0, 1) := by decide +kernel
theorem dX9_addLink_88 : decode cX9_addLink 88 = .ok (.getfield 32, 3) := by decide +kernel
theorem dX9_addLink_91 : decode cX9_addLink 91 = .ok (.aload_n 0, 1) := by decide +kernel
theorem dX9_addLink_92 : decode cX9_addLink 92 = .ok (.getfield 101, 3) := by decide +kernel
theorem dX9_addLink_95 : decode cX9_addLink 95 = .ok (.aload_n 3, 1) := by decide +kernel
theorem dX9_addLink_96 : decode cX9_addLink 96 = .ok (.iconst 2, 1) := by decide +kernel
theorem dX9_addLink_97 : decode cX9_addLink 97 = .ok (.iaload, 1) := by decide +kernel
theorem dX9_addLink_98 : decode cX9_addLink 98 = .ok (.iastore, 1) := by decide +kernel
theorem dX9_addLink_99 : decode cX9_addLink 99 = .ok (.aload_n 0, 1) := by decide +kernel
theorem dX9_addLink_100 : decode cX9_addLink 100 = .ok (.getfield 10, 3) := by decide +kernel
theorem dX9_addLink_103 : decode cX9_addLink 103 = .ok (.iload_n 1, 1) := by decide +kernel
theorem dX9_addLink_104 : decode cX9_addLink 104 = .ok (.iload_n 2, 1) := by decide +kernel
theorem dX9_addLink_105 : decode cX9_addLink 105 = .ok (.aload_n 3, 1) := by decide +kernel
theorem dX9_addLink_106 : decode cX9_addLink 106 = .ok (.iconst 2, 1) := by decide +kernel
theorem dX9_addLink_107 : decode cX9_addLink 107 = .ok (.iaload, 1) := by decide +kernel
theorem dX9_addLink_108 : decode cX9_addLink 108 = .ok (.aload_n 3, 1) := by decide +kernel
theorem dX9_addLink_109 : decode cX9_addLink 109 = .ok (.iconst 3, 1) := by decide +kernel
theorem dX9_addLink_110 : decode cX9_addLink 110 = .ok (.iaload, 1) := by decide +kernel
theorem dX9_addLink_111 : decode cX9_addLink 111 = .ok (.aload_n 3, 1) := by decide +kernel
theorem dX9_addLink_112 : decode cX9_addLink 112 = .ok (.iconst 4, 1) := by decide +kernel
theorem dX9_addLink_113 : decode cX9_addLink 113 = .ok (.iaload, 1) := by decide +kernel
theorem dX9_addLink_114 : decode cX9_addLink 114 = .ok (.invokevirtual 104, 3) := by decide +kernel
theorem dX9_addLink_117 : decode cX9_addLink 117 = .ok (.aload_n 0, 1) := by decide +kernel
theorem dX9_addLink_118 : decode cX9_addLink 118 = .ok (.dup, 1) := by decide +kernel
theorem dX9_addLink_119 : decode cX9_addLink 119 = .ok (.getfield 101, 3) := by decide +kernel
theorem dX9_addLink_122 : decode cX9_addLink 122 = .ok (.dup_x1, 1) := by decide +kernel
theorem dX9_addLink_123 : decode cX9_addLink 123 = .ok (.iconst 1, 1) := by decide +kernel
theorem dX9_addLink_124 : decode cX9_addLink 124 = .ok (.iadd, 1) := by decide +kernel
theorem dX9_addLink_125 : decode cX9_addLink 125 = .ok (.putfield 101, 3) := by decide +kernel
theorem dX9_addLink_128 : decode cX9_addLink 128 = .ok (.if_icmp .ne 7, 3) := by decide +kernel
theorem dX9_addLink_131 : decode cX9_addLink 131 = .ok (.iconst 1, 1) := by decide +kernel
theorem dX9_addLink_132 : decode cX9_addLink 132 = .ok (.goto 4, 3) := by decide +kernel
theorem dX9_addLink_136 : decode cX9_addLink 136 = .ok (.ireturn, 1) := by decide +kernel
theorem dX9_addLink_33 : decode cX9_addLink 33 = .ok (.iconst 2, 1) := by decide +kernel
theorem dX9_addLink_34 : decode cX9_addLink 34 = .ok (.goto 5, 3) := by decide +kernel
set_option maxRecDepth 100000 in
set_option maxHeartbeats 4000000 in
/-- TurnpikeLaw.Roads.addLink -/
theorem c_law_addLink (l : Launch) (dC : Nat → ClassId) (dI : Nat → Nat → Nat) (cy : Nat → ClassId) (bs Ls : Nat) (xs : Nat → Int32) (gp : Nat) (ob : Nat) (qf : Nat → Nat) (d : Nat) (nd : Nat) (nl : Nat) (K : Lay) (s0 : Nat) (tp : Nat) (a : St) (κr : Nat → Nat → Int32) (τ : Tau) (lr : Nat → Nat) (lv : Tb) (pl : Nat → Nat) (fv : Tb) (x1 : Nat → Int32) (x2 : Nat → Int32) (x3 : Nat → Int32) (fA : Nat) (tA : Nat) (sz : Nat) (hT : TL K (some s0) τ) (kB : Bld a nd nl lv pl 0 fv) (knl : nl < 24) (kf : fA < nd) (kt : tA < nd) (kne : fA ≠ tA) (kd : d < 900000) : Met l yX9_addLink (tp_w yX9_addLink cX9_addLink 4 (some .boolean)) ({ frames := 3, cells := 1, slots := 5, locals := 71 }) (va_Pc [.ref gp, .int (nI fA), .int (nI tA)] (gPre dC dI cy bs Ls xs [(fun q e => TW cy K (some s0) a (((0 : Int32), κr)) τ q e ∨ oW ob (K 0 0) tp q e), cel gp (gO ob bs qf d nd nl 0), rwW cy 24 5 (qf 0) lr lv nl, cel (qf 1) (.inl (cy 0, 24, .inl (x1))), cel (qf 2) (.inl (cy 0, 24, .inl (x2))), cel (qf 3) (.inl (cy 0, 24, .inl (x3)))] sz)) (va_Qi (fun (r u : Int32) => r = u) (fun (u : Int32) (t : State) => ∃ (a2 : St), ∃ (lr2 : Nat → Nat), ∃ (lv2 : Tb), ∃ (y1 : Nat → Int32), ∃ (y2 : Nat → Int32), ∃ (y3 : Nat → Int32), (u = 1) ∧ (Bld a2 nd (nl + 1) lv2 pl 0 fv) ∧ ms (dC, dI) vwCl (mA (anyP [(fun q e => TW cy K (some s0) a (((0 : Int32), κr)) τ q e ∨ oW ob (K 0 0) tp q e), cel gp (gO ob bs qf d nd nl 0), rwW cy 24 5 (qf 0) lr lv nl, cel (qf 1) (.inl (cy 0, 24, .inl (x1))), cel (qf 2) (.inl (cy 0, 24, .inl (x2))), cel (qf 3) (.inl (cy 0, 24, .inl (x3)))]) sz) [(fun q e => TW cy K (some s0) a2 (((0 : Int32), κr)) τ q e ∨ oW ob (K 0 0) tp q e), cel gp (gO ob bs qf (d + 4) nd (nl + 1) 0), rwW cy 24 5 (qf 0) lr2 lv2 (nl + 1), cel (qf 1) (.inl (cy 0, 24, .inl (y1))), cel (qf 2) (.inl (cy 0, 24, .inl (y2))), cel (qf 3) (.inl (cy 0, 24, .inl (y3)))] t.heap) (mA (anyP [(fun q e => TW cy K (some s0) a (((0 : Int32), κr)) τ q e ∨ oW ob (K 0 0) tp q e), cel gp (gO ob bs qf d nd nl 0), rwW cy 24 5 (qf 0) lr lv nl, cel (qf 1) (.inl (cy 0, 24, .inl (x1))), cel (qf 2) (.inl (cy 0, 24, .inl (x2))), cel (qf 3) (.inl (cy 0, 24, .inl (x3)))]) sz)) (1) (5) (mA (anyP [(fun q e => TW cy K (some s0) a (((0 : Int32), κr)) τ q e ∨ oW ob (K 0 0) tp q e), cel gp (gO ob bs qf d nd nl 0), rwW cy 24 5 (qf 0) lr lv nl, cel (qf 1) (.inl (cy 0, 24, .inl (x1))), cel (qf 2) (.inl (cy 0, 24, .inl (x2))), cel (qf 3) (.inl (cy 0, 24, .inl (x3)))]) sz) := by
  refine Met.ofW (cc := cX9_addLink) (maxL := 4) (ret := (some .boolean)) (by decide) rfl ?_
  intro p e s m args below meth c s₁ B hml hv
  obtain ⟨rfl, hsz, hP, hK, hE, hX, hbl, hbL, hbn⟩ := hv
  have hx := B.exec
  have hb := B.bytes
  have hr := B.returns
  have hts0 := atoms_spec (ws := tp_w yX9_addLink cX9_addLink 4 (some .boolean)) B.pre
  have hts : ∀ w ∈ tp_all, w.before _ s = true := fun w h => hts0 w (List.mem_cons_of_mem _ h)
  have hown : s.vm.findClass RX9 = some m.cls := findClass_of_methodNamed B.named
  have hlocks := B.notSynchronized
  subst hsz
  have hP := hP.self s.heap.size
  have hbA : ¬ mA (anyP [(fun q e => TW cy K (some s0) a (((0 : Int32), κr)) τ q e ∨ oW ob (K 0 0) tp q e), cel gp (gO ob bs qf d nd nl 0), rwW cy 24 5 (qf 0) lr lv nl, cel (qf 1) (.inl (cy 0, 24, .inl (x1))), cel (qf 2) (.inl (cy 0, 24, .inl (x2))), cel (qf 3) (.inl (cy 0, 24, .inl (x3)))]) s.heap.size bs := by
    rintro (⟨e9, he⟩ | h9)
    · exact hbn e9 he
    · omega
  generalize hAe : mA (anyP [(fun q e => TW cy K (some s0) a (((0 : Int32), κr)) τ q e ∨ oW ob (K 0 0) tp q e), cel gp (gO ob bs qf d nd nl 0), rwW cy 24 5 (qf 0) lr lv nl, cel (qf 1) (.inl (cy 0, 24, .inl (x1))), cel (qf 2) (.inl (cy 0, 24, .inl (x2))), cel (qf 3) (.inl (cy 0, 24, .inl (x3)))]) s.heap.size = A at hP hbA ⊢
  have hA : ∀ q : Nat, s.heap.size ≤ q → A q := fun q h => by rw [← hAe]; exact Or.inr h
  have hS : va_S A s.heap s.heap [] := va_S.rf
  have hl9 := lv_entry ([.ref gp, .int (nI fA), .int (nI tA)]) (n := 4) (Nat.le_of_ble_eq_true rfl)
  rw [lg_entry_eq]
  generalize (lg_sl ([.ref gp, .int (nI fA), .int (nI tA)]) ++ List.replicate (4 - (lg_sl ([.ref gp, .int (nI fA), .int (nI tA)])).length) Slot.unset).toArray = ls at hl9 ⊢
  have hl : lv_has ls 4 [(0, .ref gp), (1, .int (nI fA)), (2, .int (nI tA))] := hl9
  have h0 := kB.b0
  have h12 := h0.1.2.2.2.1
  refine lv_iconst (v := 5) hx hb dX9_addLink_0 (by decide) ?_
  obtain ⟨ws9, hPw, hDw, -, hbk⟩ := hP.push
  refine va_newa hx hb (atype := .int) (hts _ tw_623) (ty := .int) rfl hK hPw hDw hS hA (a0 := (5, .inl (fun _ => 0))) (N' := 5) (fun _ => rfl) (by decide) (by decide) (Nat.le_of_ble_eq_true rfl) (by show 0 + 1 ≤ 1; omega) (by show 0 + 5 ≤ 5; omega) dX9_addLink_1 (fun a_1 k9 H hK9 hPw hDw hS => ?_)
  obtain rfl : k9 = cy 0 := tp_one hK9 11 0 rfl rfl
  have hP : ms (dC, dI) vwCl A [(fun q e => TW cy K (some s0) a (((0 : Int32), κr)) τ q e ∨ oW ob (K 0 0) tp q e), cel gp (gO ob bs qf d nd nl 0), rwW cy 24 5 (qf 0) lr lv nl, cel (qf 1) (.inl (cy 0, 24, .inl (x1))), cel (qf 2) (.inl (cy 0, 24, .inl (x2))), cel (qf 3) (.inl (cy 0, 24, .inl (x3))), cel a_1 (.inl (cy 0, 5, .inl (fun _ => 0)))] H := hbk _ _ _ hPw hDw
  clear hbk hPw hDw hK9
  refine lv_dup hx hb dX9_addLink_3 rfl ?_
  refine lv_iconst (v := 0) hx hb dX9_addLink_4 (by decide) ?_
  refine lv_iload_n hx hb dX9_addLink_5 rfl (lv_at hl 1 rfl) ?_
  have j_2 : (0 : Int32).toNatClampNeg = 0 := m_cl (n := 5) rfl (by decide) (by decide)
  obtain ⟨ws9, k9, hPw, hDw, hk9, -, hbk⟩ := hP.cutc (e := .inl (cy 0, 5, .inl (fun _ => 0))) 6 rfl
  refine va_iast hx hb hK hPw hDw hS k9 0 hk9 rfl (m_in (n := 5) rfl (by decide) (by decide)) dX9_addLink_6 (fun H locs hPw hDw hS => ?_)
  rw [j_2] at hPw hDw
  have hP : ms (dC, dI) vwCl A [(fun q e => TW cy K (some s0) a (((0 : Int32), κr)) τ q e ∨ oW ob (K 0 0) tp q e), cel gp (gO ob bs qf d nd nl 0), rwW cy 24 5 (qf 0) lr lv nl, cel (qf 1) (.inl (cy 0, 24, .inl (x1))), cel (qf 2) (.inl (cy 0, 24, .inl (x2))), cel (qf 3) (.inl (cy 0, 24, .inl (x3))), cel a_1 (.inl (cy 0, 5, .inl (upd (fun _ => 0) 0 (nI fA))))] H := hbk _ _ hPw hDw
  clear hbk hPw hDw hk9
  refine lv_dup hx hb dX9_addLink_7 rfl ?_
  refine lv_iconst (v := 1) hx hb dX9_addLink_8 (by decide) ?_
  refine lv_iload_n hx hb dX9_addLink_9 rfl (lv_at hl 2 rfl) ?_
  have j_3 : (1 : Int32).toNatClampNeg = 1 := m_cl (n := 5) rfl (by decide) (by decide)
  obtain ⟨ws9, k9, hPw, hDw, hk9, -, hbk⟩ := hP.cutc (e := .inl (cy 0, 5, .inl (upd (fun _ => 0) 0 (nI fA)))) 6 rfl
  refine va_iast hx hb hK hPw hDw hS k9 0 hk9 rfl (m_in (n := 5) rfl (by decide) (by decide)) dX9_addLink_10 (fun H locs hPw hDw hS => ?_)
  rw [j_3] at hPw hDw
  have hP : ms (dC, dI) vwCl A [(fun q e => TW cy K (some s0) a (((0 : Int32), κr)) τ q e ∨ oW ob (K 0 0) tp q e), cel gp (gO ob bs qf d nd nl 0), rwW cy 24 5 (qf 0) lr lv nl, cel (qf 1) (.inl (cy 0, 24, .inl (x1))), cel (qf 2) (.inl (cy 0, 24, .inl (x2))), cel (qf 3) (.inl (cy 0, 24, .inl (x3))), cel a_1 (.inl (cy 0, 5, .inl (upd (upd (fun _ => 0) 0 (nI fA)) 1 (nI tA))))] H := hbk _ _ hPw hDw
  clear hbk hPw hDw hk9
  refine lv_dup hx hb dX9_addLink_11 rfl ?_
  refine lv_iconst (v := 2) hx hb dX9_addLink_12 (by decide) ?_
  refine lv_iconst (v := 1) hx hb dX9_addLink_13 (by decide) ?_
  refine lv_aload_n hx hb dX9_addLink_14 rfl (lv_at hl 0 rfl) ?_
  refine lv_iconst (v := 4) hx hb dX9_addLink_15 (by decide) ?_
  have hPc : ms (dC, dI) vwCl A ([cel gp (gO ob bs qf d nd nl 0)] ++ [(fun q e => TW cy K (some s0) a (((0 : Int32), κr)) τ q e ∨ oW ob (K 0 0) tp q e), rwW cy 24 5 (qf 0) lr lv nl, cel (qf 1) (.inl (cy 0, 24, .inl (x1))), cel (qf 2) (.inl (cy 0, 24, .inl (x2))), cel (qf 3) (.inl (cy 0, 24, .inl (x3))), cel a_1 (.inl (cy 0, 5, .inl (upd (upd (fun _ => 0) 0 (nI fA)) 1 (nI tA))))]) H := hP.sel [1, 0, 2, 3, 4, 5, 6] rfl (by decide)
  have hFc := g_free hPc hS hA
  refine va_calli (va_runV (As := [.int 4]) (rest := [.int 1, .int 2, .ref a_1, .ref a_1]) ⟨hx, hb, hml, hown, hts⟩ (c_draw l dC dI cy bs Ls xs gp ob qf d nd nl 0 4 H.size (by first | assumption | omega) (by first | assumption | omega) (by first | assumption | omega)) (tp_cwV 1 hts tw_1031 tw_1016 tw_1017 tw_19 tw_1018 rfl rfl (by decide +kernel) ⟨Nat.le_of_ble_eq_true rfl, Nat.le_of_ble_eq_true rfl⟩) ⟨g_blind, va_recv hK (hP.one (e := .inr (9, [.ref ob, .ref bs, .int (nI d), .int (nI nd), .int 0, .int 1, .int (nI nl), .ref (qf 0), .ref (qf 1), .ref (qf 2), .ref (qf 3), .ref (qf 4), .ref (qf 5), .ref (qf 6), .ref (qf 7), .ref (qf 8), .int (nI 0), .ref (qf 9), .int 0, .ref (qf 10), .ref (qf 11), .ref (qf 12), .ref (qf 13), .ref (qf 14), .ref (qf 15)])) 1 rfl cel_in) (ci := 9) (q0 := 0) rfl rfl, fun U hU hW => ⟨rfl, g_pay hK hPc hE hX hbl hbL hbA hS U hU hW⟩⟩ rfl rfl hl.1 rfl (lv_room (Nat.le_of_ble_eq_true rfl)) dX9_addLink_16 ⟨(by show 0 + 1 + 0 ≤ 1; omega), (by show 0 + 5 + 0 ≤ 5; omega)⟩) hS (fun q _ h => hFc q h) hFc (fun r_4 u t H1 locs ht hvm hpo hB hz1 hk1 hS => ?_)
  obtain rfl := hpo
  obtain ⟨z_5, f_6, f_7, hP1⟩ := hB
  rw [ht] at hP1
  have hPj := hPc.calls hk1 hFc hP1
  have hP : ms (dC, dI) vwCl A [(fun q e => TW cy K (some s0) a (((0 : Int32), κr)) τ q e ∨ oW ob (K 0 0) tp q e), cel gp (gO ob bs qf (d + 1) nd nl 0), rwW cy 24 5 (qf 0) lr lv nl, cel (qf 1) (.inl (cy 0, 24, .inl (x1))), cel (qf 2) (.inl (cy 0, 24, .inl (x2))), cel (qf 3) (.inl (cy 0, 24, .inl (x3))), cel a_1 (.inl (cy 0, 5, .inl (upd (upd (fun _ => 0) 0 (nI fA)) 1 (nI tA))))] H1 := hPj.sel [1, 0, 2, 3, 4, 5, 6] rfl (by decide)
  clear hPj hPc hP1 hk1 hFc
  generalize H1 = H at hP hS ⊢
  subst f_7
  have q1 := f_6
  refine lv_iadd hx hb dX9_addLink_19 ?_
  refine W.eq (g2 := F0 m 20 ls [.int (nI (1 + z_5)), .int 2, .ref a_1, .ref a_1]) (by rw [show (1 : Int32) = nI 1 from rfl, nI_add]) ?_
  have j_8 : (2 : Int32).toNatClampNeg = 2 := m_cl (n := 5) rfl (by decide) (by decide)
  obtain ⟨ws9, k9, hPw, hDw, hk9, -, hbk⟩ := hP.cutc (e := .inl (cy 0, 5, .inl (upd (upd (fun _ => 0) 0 (nI fA)) 1 (nI tA)))) 6 rfl
  refine va_iast hx hb hK hPw hDw hS k9 0 hk9 rfl (m_in (n := 5) rfl (by decide) (by decide)) dX9_addLink_20 (fun H locs hPw hDw hS => ?_)
  rw [j_8] at hPw hDw
  have hP : ms (dC, dI) vwCl A [(fun q e => TW cy K (some s0) a (((0 : Int32), κr)) τ q e ∨ oW ob (K 0 0) tp q e), cel gp (gO ob bs qf (d + 1) nd nl 0), rwW cy 24 5 (qf 0) lr lv nl, cel (qf 1) (.inl (cy 0, 24, .inl (x1))), cel (qf 2) (.inl (cy 0, 24, .inl (x2))), cel (qf 3) (.inl (cy 0, 24, .inl (x3))), cel a_1 (.inl (cy 0, 5, .inl (upd (upd (upd (fun _ => 0) 0 (nI fA)) 1 (nI tA)) 2 (nI (1 + z_5)))))] H := hbk _ _ hPw hDw
  clear hbk hPw hDw hk9
  refine lv_dup hx hb dX9_addLink_21 rfl ?_
  refine lv_iconst (v := 3) hx hb dX9_addLink_22 (by decide) ?_
  refine lv_iconst (v := 1) hx hb dX9_addLink_23 (by decide) ?_
  refine lv_aload_n hx hb dX9_addLink_24 rfl (lv_at hl 0 rfl) ?_
  refine lv_aload_n hx hb dX9_addLink_25 rfl (lv_at hl 0 rfl) ?_
  refine lv_iconst (v := 2) hx hb dX9_addLink_26 (by decide) ?_
  have hPc : ms (dC, dI) vwCl A ([cel gp (gO ob bs qf (d + 1) nd nl 0)] ++ [(fun q e => TW cy K (some s0) a (((0 : Int32), κr)) τ q e ∨ oW ob (K 0 0) tp q e), rwW cy 24 5 (qf 0) lr lv nl, cel (qf 1) (.inl (cy 0, 24, .inl (x1))), cel (qf 2) (.inl (cy 0, 24, .inl (x2))), cel (qf 3) (.inl (cy 0, 24, .inl (x3))), cel a_1 (.inl (cy 0, 5, .inl (upd (upd (upd (fun _ => 0) 0 (nI fA)) 1 (nI tA)) 2 (nI (1 + z_5)))))]) H := hP.sel [1, 0, 2, 3, 4, 5, 6] rfl (by decide)
  have hFc := g_free hPc hS hA
  refine va_calli (va_runV (As := [.int 2]) (rest := [.ref gp, .int 1, .int 3, .ref a_1, .ref a_1]) ⟨hx, hb, hml, hown, hts⟩ (c_draw l dC dI cy bs Ls xs gp ob qf (d + 1) nd nl 0 2 H.size (by first | assumption | omega) (by first | assumption | omega) (by first | assumption | omega)) (tp_cwV 1 hts tw_1031 tw_1016 tw_1017 tw_19 tw_1018 rfl rfl (by decide +kernel) ⟨Nat.le_of_ble_eq_true rfl, Nat.le_of_ble_eq_true rfl⟩) ⟨g_blind, va_recv hK (hP.one (e := .inr (9, [.ref ob, .ref bs, .int (nI (d + 1)), .int (nI nd), .int 0, .int 1, .int (nI nl), .ref (qf 0), .ref (qf 1), .ref (qf 2), .ref (qf 3), .ref (qf 4), .ref (qf 5), .ref (qf 6), .ref (qf 7), .ref (qf 8), .int (nI 0), .ref (qf 9), .int 0, .ref (qf 10), .ref (qf 11), .ref (qf 12), .ref (qf 13), .ref (qf 14), .ref (qf 15)])) 1 rfl cel_in) (ci := 9) (q0 := 0) rfl rfl, fun U hU hW => ⟨rfl, g_pay hK hPc hE hX hbl hbL hbA hS U hU hW⟩⟩ rfl rfl hl.1 rfl (lv_room (Nat.le_of_ble_eq_true rfl)) dX9_addLink_27 ⟨(by show 0 + 1 + 0 + 0 ≤ 1; omega), (by show 0 + 5 + 0 + 0 ≤ 5; omega)⟩) hS (fun q _ h => hFc q h) hFc (fun r_9 u t H1 locs ht hvm hpo hB hz1 hk1 hS => ?_)
  obtain rfl := hpo
  obtain ⟨z_10, f_11, f_12, hP1⟩ := hB
  rw [ht] at hP1
  have hPj := hPc.calls hk1 hFc hP1
  have hP : ms (dC, dI) vwCl A [(fun q e => TW cy K (some s0) a (((0 : Int32), κr)) τ q e ∨ oW ob (K 0 0) tp q e), cel gp (gO ob bs qf (d + 1 + 1) nd nl 0), rwW cy 24 5 (qf 0) lr lv nl, cel (qf 1) (.inl (cy 0, 24, .inl (x1))), cel (qf 2) (.inl (cy 0, 24, .inl (x2))), cel (qf 3) (.inl (cy 0, 24, .inl (x3))), cel a_1 (.inl (cy 0, 5, .inl (upd (upd (upd (fun _ => 0) 0 (nI fA)) 1 (nI tA)) 2 (nI (1 + z_5)))))] H1 := hPj.sel [1, 0, 2, 3, 4, 5, 6] rfl (by decide)
  clear hPj hPc hP1 hk1 hFc
  generalize H1 = H at hP hS ⊢
  subst f_12
  have q2 := f_11
  refine lv_if_ne (tgt := 37) hx hb dX9_addLink_30 (by decide) (fun c_13 => ?_) (fun c_13 => ?_)
  · refine lv_bipush (v := 8) hx hb dX9_addLink_37 (by decide) ?_
    have hPc : ms (dC, dI) vwCl A ([cel gp (gO ob bs qf (d + 1 + 1) nd nl 0)] ++ [(fun q e => TW cy K (some s0) a (((0 : Int32), κr)) τ q e ∨ oW ob (K 0 0) tp q e), rwW cy 24 5 (qf 0) lr lv nl, cel (qf 1) (.inl (cy 0, 24, .inl (x1))), cel (qf 2) (.inl (cy 0, 24, .inl (x2))), cel (qf 3) (.inl (cy 0, 24, .inl (x3))), cel a_1 (.inl (cy 0, 5, .inl (upd (upd (upd (fun _ => 0) 0 (nI fA)) 1 (nI tA)) 2 (nI (1 + z_5)))))]) H := hP.sel [1, 0, 2, 3, 4, 5, 6] rfl (by decide)
    have hFc := g_free hPc hS hA
    refine va_calli (va_runV (As := [.int 8]) (rest := [.int 1, .int 3, .ref a_1, .ref a_1]) ⟨hx, hb, hml, hown, hts⟩ (c_draw l dC dI cy bs Ls xs gp ob qf (d + 1 + 1) nd nl 0 8 H.size (by first | assumption | omega) (by first | assumption | omega) (by first | assumption | omega)) (tp_cwV 1 hts tw_1031 tw_1016 tw_1017 tw_19 tw_1018 rfl rfl (by decide +kernel) ⟨Nat.le_of_ble_eq_true rfl, Nat.le_of_ble_eq_true rfl⟩) ⟨g_blind, va_recv hK (hP.one (e := .inr (9, [.ref ob, .ref bs, .int (nI (d + 1 + 1)), .int (nI nd), .int 0, .int 1, .int (nI nl), .ref (qf 0), .ref (qf 1), .ref (qf 2), .ref (qf 3), .ref (qf 4), .ref (qf 5), .ref (qf 6), .ref (qf 7), .ref (qf 8), .int (nI 0), .ref (qf 9), .int 0, .ref (qf 10), .ref (qf 11), .ref (qf 12), .ref (qf 13), .ref (qf 14), .ref (qf 15)])) 1 rfl cel_in) (ci := 9) (q0 := 0) rfl rfl, fun U hU hW => ⟨rfl, g_pay hK hPc hE hX hbl hbL hbA hS U hU hW⟩⟩ rfl rfl hl.1 rfl (lv_room (Nat.le_of_ble_eq_true rfl)) dX9_addLink_39 ⟨(by show 0 + 1 + 0 + 0 + 0 ≤ 1; omega), (by show 0 + 5 + 0 + 0 + 0 ≤ 5; omega)⟩) hS (fun q _ h => hFc q h) hFc (fun r_14 u t H1 locs ht hvm hpo hB hz1 hk1 hS => ?_)
    obtain rfl := hpo
    obtain ⟨z_15, f_16, f_17, hP1⟩ := hB
    rw [ht] at hP1
    have hPj := hPc.calls hk1 hFc hP1
    have hP : ms (dC, dI) vwCl A [(fun q e => TW cy K (some s0) a (((0 : Int32), κr)) τ q e ∨ oW ob (K 0 0) tp q e), cel gp (gO ob bs qf (d + 1 + 1 + 1) nd nl 0), rwW cy 24 5 (qf 0) lr lv nl, cel (qf 1) (.inl (cy 0, 24, .inl (x1))), cel (qf 2) (.inl (cy 0, 24, .inl (x2))), cel (qf 3) (.inl (cy 0, 24, .inl (x3))), cel a_1 (.inl (cy 0, 5, .inl (upd (upd (upd (fun _ => 0) 0 (nI fA)) 1 (nI tA)) 2 (nI (1 + z_5)))))] H1 := hPj.sel [1, 0, 2, 3, 4, 5, 6] rfl (by decide)
    clear hPj hPc hP1 hk1 hFc
    generalize H1 = H at hP hS ⊢
    subst f_17
    have q3 := f_16
    refine lv_iadd hx hb dX9_addLink_42 ?_
    refine W.eq (g2 := F0 m 43 ls [.int (nI (1 + z_15)), .int 3, .ref a_1, .ref a_1]) (by rw [show (1 : Int32) = nI 1 from rfl, nI_add]) ?_
    have j_18 : (3 : Int32).toNatClampNeg = 3 := m_cl (n := 5) rfl (by decide) (by decide)
    obtain ⟨ws9, k9, hPw, hDw, hk9, -, hbk⟩ := hP.cutc (e := .inl (cy 0, 5, .inl (upd (upd (upd (fun _ => 0) 0 (nI fA)) 1 (nI tA)) 2 (nI (1 + z_5))))) 6 rfl
    refine va_iast hx hb hK hPw hDw hS k9 0 hk9 rfl (m_in (n := 5) rfl (by decide) (by decide)) dX9_addLink_43 (fun H locs hPw hDw hS => ?_)
    rw [j_18] at hPw hDw
    have hP : ms (dC, dI) vwCl A [(fun q e => TW cy K (some s0) a (((0 : Int32), κr)) τ q e ∨ oW ob (K 0 0) tp q e), cel gp (gO ob bs qf (d + 1 + 1 + 1) nd nl 0), rwW cy 24 5 (qf 0) lr lv nl, cel (qf 1) (.inl (cy 0, 24, .inl (x1))), cel (qf 2) (.inl (cy 0, 24, .inl (x2))), cel (qf 3) (.inl (cy 0, 24, .inl (x3))), cel a_1 (.inl (cy 0, 5, .inl (upd (upd (upd (upd (fun _ => 0) 0 (nI fA)) 1 (nI tA)) 2 (nI (1 + z_5))) 3 (nI (1 + z_15)))))] H := hbk _ _ hPw hDw
    clear hbk hPw hDw hk9
    refine lv_dup hx hb dX9_addLink_44 rfl ?_
    refine lv_iconst (v := 4) hx hb dX9_addLink_45 (by decide) ?_
    refine lv_iconst (v := 1) hx hb dX9_addLink_46 (by decide) ?_
    refine lv_aload_n hx hb dX9_addLink_47 rfl (lv_at hl 0 rfl) ?_
    refine lv_iconst (v := 2) hx hb dX9_addLink_48 (by decide) ?_
    have hPc : ms (dC, dI) vwCl A ([cel gp (gO ob bs qf (d + 1 + 1 + 1) nd nl 0)] ++ [(fun q e => TW cy K (some s0) a (((0 : Int32), κr)) τ q e ∨ oW ob (K 0 0) tp q e), rwW cy 24 5 (qf 0) lr lv nl, cel (qf 1) (.inl (cy 0, 24, .inl (x1))), cel (qf 2) (.inl (cy 0, 24, .inl (x2))), cel (qf 3) (.inl (cy 0, 24, .inl (x3))), cel a_1 (.inl (cy 0, 5, .inl (upd (upd (upd (upd (fun _ => 0) 0 (nI fA)) 1 (nI tA)) 2 (nI (1 + z_5))) 3 (nI (1 + z_15)))))]) H := hP.sel [1, 0, 2, 3, 4, 5, 6] rfl (by decide)
    have hFc := g_free hPc hS hA
    refine va_calli (va_runV (As := [.int 2]) (rest := [.int 1, .int 4, .ref a_1, .ref a_1]) ⟨hx, hb, hml, hown, hts⟩ (c_draw l dC dI cy bs Ls xs gp ob qf (d + 1 + 1 + 1) nd nl 0 2 H.size (by first | assumption | omega) (by first | assumption | omega) (by first | assumption | omega)) (tp_cwV 1 hts tw_1031 tw_1016 tw_1017 tw_19 tw_1018 rfl rfl (by decide +kernel) ⟨Nat.le_of_ble_eq_true rfl, Nat.le_of_ble_eq_true rfl⟩) ⟨g_blind, va_recv hK (hP.one (e := .inr (9, [.ref ob, .ref bs, .int (nI (d + 1 + 1 + 1)), .int (nI nd), .int 0, .int 1, .int (nI nl), .ref (qf 0), .ref (qf 1), .ref (qf 2), .ref (qf 3), .ref (qf 4), .ref (qf 5), .ref (qf 6), .ref (qf 7), .ref (qf 8), .int (nI 0), .ref (qf 9), .int 0, .ref (qf 10), .ref (qf 11), .ref (qf 12), .ref (qf 13), .ref (qf 14), .ref (qf 15)])) 1 rfl cel_in) (ci := 9) (q0 := 0) rfl rfl, fun U hU hW => ⟨rfl, g_pay hK hPc hE hX hbl hbL hbA hS U hU hW⟩⟩ rfl rfl hl.1 rfl (lv_room (Nat.le_of_ble_eq_true rfl)) dX9_addLink_49 ⟨(by show 0 + 1 + 0 + 0 + 0 + 0 ≤ 1; omega), (by show 0 + 5 + 0 + 0 + 0 + 0 ≤ 5; omega)⟩) hS (fun q _ h => hFc q h) hFc (fun r_19 u t H1 locs ht hvm hpo hB hz1 hk1 hS => ?_)
    obtain rfl := hpo
    obtain ⟨z_20, f_21, f_22, hP1⟩ := hB
    rw [ht] at hP1
    have hPj := hPc.calls hk1 hFc hP1
    have hP : ms (dC, dI) vwCl A [(fun q e => TW cy K (some s0) a (((0 : Int32), κr)) τ q e ∨ oW ob (K 0 0) tp q e), cel gp (gO ob bs qf (d + 1 + 1 + 1 + 1) nd nl 0), rwW cy 24 5 (qf 0) lr lv nl, cel (qf 1) (.inl (cy 0, 24, .inl (x1))), cel (qf 2) (.inl (cy 0, 24, .inl (x2))), cel (qf 3) (.inl (cy 0, 24, .inl (x3))), cel a_1 (.inl (cy 0, 5, .inl (upd (upd (upd (upd (fun _ => 0) 0 (nI fA)) 1 (nI tA)) 2 (nI (1 + z_5))) 3 (nI (1 + z_15)))))] H1 := hPj.sel [1, 0, 2, 3, 4, 5, 6] rfl (by decide)
    clear hPj hPc hP1 hk1 hFc
    generalize H1 = H at hP hS ⊢
    subst f_22
    have q4 := f_21
    refine lv_iadd hx hb dX9_addLink_52 ?_
    refine W.eq (g2 := F0 m 53 ls [.int (nI (1 + z_20)), .int 4, .ref a_1, .ref a_1]) (by rw [show (1 : Int32) = nI 1 from rfl, nI_add]) ?_
    have j_23 : (4 : Int32).toNatClampNeg = 4 := m_cl (n := 5) rfl (by decide) (by decide)
    obtain ⟨ws9, k9, hPw, hDw, hk9, -, hbk⟩ := hP.cutc (e := .inl (cy 0, 5, .inl (upd (upd (upd (upd (fun _ => 0) 0 (nI fA)) 1 (nI tA)) 2 (nI (1 + z_5))) 3 (nI (1 + z_15))))) 6 rfl
    refine va_iast hx hb hK hPw hDw hS k9 0 hk9 rfl (m_in (n := 5) rfl (by decide) (by decide)) dX9_addLink_53 (fun H locs hPw hDw hS => ?_)
    rw [j_23] at hPw hDw
    have hP : ms (dC, dI) vwCl A [(fun q e => TW cy K (some s0) a (((0 : Int32), κr)) τ q e ∨ oW ob (K 0 0) tp q e), cel gp (gO ob bs qf (d + 1 + 1 + 1 + 1) nd nl 0), rwW cy 24 5 (qf 0) lr lv nl, cel (qf 1) (.inl (cy 0, 24, .inl (x1))), cel (qf 2) (.inl (cy 0, 24, .inl (x2))), cel (qf 3) (.inl (cy 0, 24, .inl (x3))), cel a_1 (.inl (cy 0, 5, .inl (upd (upd (upd (upd (upd (fun _ => 0) 0 (nI fA)) 1 (nI tA)) 2 (nI (1 + z_5))) 3 (nI (1 + z_15))) 4 (nI (1 + z_20)))))] H := hbk _ _ hPw hDw
    clear hbk hPw hDw hk9
    refine lv_astore_n (lv' := [(3, .ref a_1), (0, .ref gp), (1, .int (nI fA)), (2, .int (nI tA))]) hx hb dX9_addLink_54 rfl hl (by decide) rfl (fun ls hl => ?_)
    refine lv_aload_n hx hb dX9_addLink_55 rfl (lv_at hl 1 rfl) ?_
    refine va_get (D := (dC, dI)) (ws := [(gp, .inr (9, [.ref ob, .ref bs, .int (nI (d + 1 + 1 + 1 + 1)), .int (nI nd), .int 0, .int 1, .int (nI nl), .ref (qf 0), .ref (qf 1), .ref (qf 2), .ref (qf 3), .ref (qf 4), .ref (qf 5), .ref (qf 6), .ref (qf 7), .ref (qf 8), .int (nI 0), .ref (qf 9), .int 0, .ref (qf 10), .ref (qf 11), .ref (qf 12), .ref (qf 13), .ref (qf 14), .ref (qf 15)]))]) (ci := 9) (v := .ref (qf 0)) (C := RX9) (T := TX9) (N := 25) hx hb hts tl_X9 hown hK (hP.one 1 rfl cel_in) 0 rfl rfl 7 (by decide) (hts _ tw_943) (fun _ h9 => h9) rfl dX9_addLink_56 ?_
    refine lv_aload_n hx hb dX9_addLink_59 rfl (lv_at hl 1 rfl) ?_
    refine va_get (D := (dC, dI)) (ws := [(gp, .inr (9, [.ref ob, .ref bs, .int (nI (d + 1 + 1 + 1 + 1)), .int (nI nd), .int 0, .int 1, .int (nI nl), .ref (qf 0), .ref (qf 1), .ref (qf 2), .ref (qf 3), .ref (qf 4), .ref (qf 5), .ref (qf 6), .ref (qf 7), .ref (qf 8), .int (nI 0), .ref (qf 9), .int 0, .ref (qf 10), .ref (qf 11), .ref (qf 12), .ref (qf 13), .ref (qf 14), .ref (qf 15)]))]) (ci := 9) (v := .int (nI nl)) (C := RX9) (T := TX9) (N := 25) hx hb hts tl_X9 hown hK (hP.one 1 rfl cel_in) 0 rfl rfl 6 (by decide) (hts _ tw_942) (fun _ h9 => h9) rfl dX9_addLink_60 ?_
    refine lv_aload_n hx hb dX9_addLink_63 rfl (lv_at hl 0 rfl) ?_
    have hneA := rw_ne (i := 2) hP rfl
    have hne := rw_ne (i := 2) hP rfl
    have j_24 : (nI nl : Int32).toNatClampNeg = nl := m_cl (n := 24) rfl (by omega) (by decide)
    obtain ⟨ws9, k9, hPw, hDw, hk9, hin9, hbk⟩ := hP.cut (e := arQ (cy 8) 24 (fun j => if j < nl then some (lr j) else none)) 2 rfl (Or.inl ⟨rfl, rfl⟩)
    obtain ⟨k8, hk8⟩ := hin9 _ _ (any_in (i := 6) rfl (cel_in (a := a_1) (e := .inl (cy 0, 5, .inl (upd (upd (upd (upd (upd (fun _ => 0) 0 (nI fA)) 1 (nI tA)) 2 (nI (1 + z_5))) 3 (nI (1 + z_15))) 4 (nI (1 + z_20)))))))
    refine m_astA hx hb hK hPw hDw hS k9 8 k8 0 hk9 rfl hk8 rfl (hE.2.2.2 _ (List.mem_of_getElem? (i := 0) rfl)) rfl (fun h => h) (m_in (n := 24) rfl (by omega) (by decide)) dX9_addLink_64 (fun H locs hPw hDw hS => ?_)
    rw [j_24] at hPw hDw
    have hP : ms (dC, dI) vwCl A [(fun q e => TW cy K (some s0) a (((0 : Int32), κr)) τ q e ∨ oW ob (K 0 0) tp q e), cel gp (gO ob bs qf (d + 1 + 1 + 1 + 1) nd nl 0), (mset (rwW cy 24 5 (qf 0) lr lv nl) (qf 0) (arQ (cy 8) 24 (va_up (fun j => if j < nl then some (lr j) else none) nl (some a_1)))), cel (qf 1) (.inl (cy 0, 24, .inl (x1))), cel (qf 2) (.inl (cy 0, 24, .inl (x2))), cel (qf 3) (.inl (cy 0, 24, .inl (x3))), cel a_1 (.inl (cy 0, 5, .inl (upd (upd (upd (upd (upd (fun _ => 0) 0 (nI fA)) 1 (nI tA)) 2 (nI (1 + z_5))) 3 (nI (1 + z_15))) 4 (nI (1 + z_20)))))] H := hbk _ _ hPw hDw
    clear hbk hPw hDw hk9 hin9 hk8
    refine lv_aload_n hx hb dX9_addLink_65 rfl (lv_at hl 1 rfl) ?_
    refine va_get (D := (dC, dI)) (ws := [(gp, .inr (9, [.ref ob, .ref bs, .int (nI (d + 1 + 1 + 1 + 1)), .int (nI nd), .int 0, .int 1, .int (nI nl), .ref (qf 0), .ref (qf 1), .ref (qf 2), .ref (qf 3), .ref (qf 4), .ref (qf 5), .ref (qf 6), .ref (qf 7), .ref (qf 8), .int (nI 0), .ref (qf 9), .int 0, .ref (qf 10), .ref (qf 11), .ref (qf 12), .ref (qf 13), .ref (qf 14), .ref (qf 15)]))]) (ci := 9) (v := .ref (qf 1)) (C := RX9) (T := TX9) (N := 25) hx hb hts tl_X9 hown hK (hP.one 1 rfl cel_in) 0 rfl rfl 8 (by decide) (hts _ tw_945) (fun _ h9 => h9) rfl dX9_addLink_66 ?_
    refine lv_aload_n hx hb dX9_addLink_69 rfl (lv_at hl 1 rfl) ?_
    refine va_get (D := (dC, dI)) (ws := [(gp, .inr (9, [.ref ob, .ref bs, .int (nI (d + 1 + 1 + 1 + 1)), .int (nI nd), .int 0, .int 1, .int (nI nl), .ref (qf 0), .ref (qf 1), .ref (qf 2), .ref (qf 3), .ref (qf 4), .ref (qf 5), .ref (qf 6), .ref (qf 7), .ref (qf 8), .int (nI 0), .ref (qf 9), .int 0, .ref (qf 10), .ref (qf 11), .ref (qf 12), .ref (qf 13), .ref (qf 14), .ref (qf 15)]))]) (ci := 9) (v := .int (nI nl)) (C := RX9) (T := TX9) (N := 25) hx hb hts tl_X9 hown hK (hP.one 1 rfl cel_in) 0 rfl rfl 6 (by decide) (hts _ tw_942) (fun _ h9 => h9) rfl dX9_addLink_70 ?_
    refine lv_aload_n hx hb dX9_addLink_73 rfl (lv_at hl 0 rfl) ?_
    refine lv_iconst (v := 4) hx hb dX9_addLink_74 (by decide) ?_
    have j_25 : (4 : Int32).toNatClampNeg = 4 := m_cl (n := 5) rfl (by decide) (by decide)
    refine va_iald hx hb hK (ws := [(a_1, .inl (cy 0, 5, .inl (upd (upd (upd (upd (upd (fun _ => 0) 0 (nI fA)) 1 (nI tA)) 2 (nI (1 + z_5))) 3 (nI (1 + z_15))) 4 (nI (1 + z_20)))))]) (hP.one 6 rfl cel_in) 0 0 rfl rfl (m_in (n := 5) rfl (by decide) (by decide)) dX9_addLink_75 ?_
    refine W.eq (g2 := F0 m 76 ls [.int ((upd (upd (upd (upd (upd (fun _ => 0) 0 (nI fA)) 1 (nI tA)) 2 (nI (1 + z_5))) 3 (nI (1 + z_15))) 4 (nI (1 + z_20))) 4), .int (nI nl), .ref (qf 1)]) (by rw [j_25]) ?_
    have j_26 : (nI nl : Int32).toNatClampNeg = nl := m_cl (n := 24) rfl (by omega) (by decide)
    obtain ⟨ws9, k9, hPw, hDw, hk9, -, hbk⟩ := hP.cutc (e := .inl (cy 0, 24, .inl (x1))) 3 rfl
    refine va_iast hx hb hK hPw hDw hS k9 0 hk9 rfl (m_in (n := 24) rfl (by omega) (by decide)) dX9_addLink_76 (fun H locs hPw hDw hS => ?_)
    rw [j_26] at hPw hDw
    have hP : ms (dC, dI) vwCl A [(fun q e => TW cy K (some s0) a (((0 : Int32), κr)) τ q e ∨ oW ob (K 0 0) tp q e), cel gp (gO ob bs qf (d + 1 + 1 + 1 + 1) nd nl 0), (mset (rwW cy 24 5 (qf 0) lr lv nl) (qf 0) (arQ (cy 8) 24 (va_up (fun j => if j < nl then some (lr j) else none) nl (some a_1)))), cel (qf 1) (.inl (cy 0, 24, .inl (upd x1 nl ((upd (upd (upd (upd (upd (fun _ => 0) 0 (nI fA)) 1 (nI tA)) 2 (nI (1 + z_5))) 3 (nI (1 + z_15))) 4 (nI (1 + z_20))) 4)))), cel (qf 2) (.inl (cy 0, 24, .inl (x2))), cel (qf 3) (.inl (cy 0, 24, .inl (x3))), cel a_1 (.inl (cy 0, 5, .inl (upd (upd (upd (upd (upd (fun _ => 0) 0 (nI fA)) 1 (nI tA)) 2 (nI (1 + z_5))) 3 (nI (1 + z_15))) 4 (nI (1 + z_20)))))] H := hbk _ _ hPw hDw
    clear hbk hPw hDw hk9
    refine lv_aload_n hx hb dX9_addLink_77 rfl (lv_at hl 1 rfl) ?_
    refine va_get (D := (dC, dI)) (ws := [(gp, .inr (9, [.ref ob, .ref bs, .int (nI (d + 1 + 1 + 1 + 1)), .int (nI nd), .int 0, .int 1, .int (nI nl), .ref (qf 0), .ref (qf 1), .ref (qf 2), .ref (qf 3), .ref (qf 4), .ref (qf 5), .ref (qf 6), .ref (qf 7), .ref (qf 8), .int (nI 0), .ref (qf 9), .int 0, .ref (qf 10), .ref (qf 11), .ref (qf 12), .ref (qf 13), .ref (qf 14), .ref (qf 15)]))]) (ci := 9) (v := .ref (qf 2)) (C := RX9) (T := TX9) (N := 25) hx hb hts tl_X9 hown hK (hP.one 1 rfl cel_in) 0 rfl rfl 9 (by decide) (hts _ tw_946) (fun _ h9 => h9) rfl dX9_addLink_78 ?_
    refine lv_aload_n hx hb dX9_addLink_81 rfl (lv_at hl 1 rfl) ?_
    refine va_get (D := (dC, dI)) (ws := [(gp, .inr (9, [.ref ob, .ref bs, .int (nI (d + 1 + 1 + 1 + 1)), .int (nI nd), .int 0, .int 1, .int (nI nl), .ref (qf 0), .ref (qf 1), .ref (qf 2), .ref (qf 3), .ref (qf 4), .ref (qf 5), .ref (qf 6), .ref (qf 7), .ref (qf 8), .int (nI 0), .ref (qf 9), .int 0, .ref (qf 10), .ref (qf 11), .ref (qf 12), .ref (qf 13), .ref (qf 14), .ref (qf 15)]))]) (ci := 9) (v := .int (nI nl)) (C := RX9) (T := TX9) (N := 25) hx hb hts tl_X9 hown hK (hP.one 1 rfl cel_in) 0 rfl rfl 6 (by decide) (hts _ tw_942) (fun _ h9 => h9) rfl dX9_addLink_82 ?_
    refine lv_iconst (v := -1) hx hb dX9_addLink_85 (by decide) ?_
    have j_27 : (nI nl : Int32).toNatClampNeg = nl := m_cl (n := 24) rfl (by omega) (by decide)
    obtain ⟨ws9, k9, hPw, hDw, hk9, -, hbk⟩ := hP.cutc (e := .inl (cy 0, 24, .inl (x2))) 4 rfl
    refine va_iast hx hb hK hPw hDw hS k9 0 hk9 rfl (m_in (n := 24) rfl (by omega) (by decide)) dX9_addLink_86 (fun H locs hPw hDw hS => ?_)
    rw [j_27] at hPw hDw
    have hP : ms (dC, dI) vwCl A [(fun q e => TW cy K (some s0) a (((0 : Int32), κr)) τ q e ∨ oW ob (K 0 0) tp q e), cel gp (gO ob bs qf (d + 1 + 1 + 1 + 1) nd nl 0), (mset (rwW cy 24 5 (qf 0) lr lv nl) (qf 0) (arQ (cy 8) 24 (va_up (fun j => if j < nl then some (lr j) else none) nl (some a_1)))), cel (qf 1) (.inl (cy 0, 24, .inl (upd x1 nl ((upd (upd (upd (upd (upd (fun _ => 0) 0 (nI fA)) 1 (nI tA)) 2 (nI (1 + z_5))) 3 (nI (1 + z_15))) 4 (nI (1 + z_20))) 4)))), cel (qf 2) (.inl (cy 0, 24, .inl (upd x2 nl ((-1))))), cel (qf 3) (.inl (cy 0, 24, .inl (x3))), cel a_1 (.inl (cy 0, 5, .inl (upd (upd (upd (upd (upd (fun _ => 0) 0 (nI fA)) 1 (nI tA)) 2 (nI (1 + z_5))) 3 (nI (1 + z_15))) 4 (nI (1 + z_20)))))] H := hbk _ _ hPw hDw
    clear hbk hPw hDw hk9
    refine lv_aload_n hx hb dX9_addLink_87 rfl (lv_at hl 1 rfl) ?_
    refine va_get (D := (dC, dI)) (ws := [(gp, .inr (9, [.ref ob, .ref bs, .int (nI (d + 1 + 1 + 1 + 1)), .int (nI nd), .int 0, .int 1, .int (nI nl), .ref (qf 0), .ref (qf 1), .ref (qf 2), .ref (qf 3), .ref (qf 4), .ref (qf 5), .ref (qf 6), .ref (qf 7), .ref (qf 8), .int (nI 0), .ref (qf 9), .int 0, .ref (qf 10), .ref (qf 11), .ref (qf 12), .ref (qf 13), .ref (qf 14), .ref (qf 15)]))]) (ci := 9) (v := .ref (qf 3)) (C := RX9) (T := TX9) (N := 25) hx hb hts tl_X9 hown hK (hP.one 1 rfl cel_in) 0 rfl rfl 10 (by decide) (hts _ tw_947) (fun _ h9 => h9) rfl dX9_addLink_88 ?_
    refine lv_aload_n hx hb dX9_addLink_91 rfl (lv_at hl 1 rfl) ?_
    refine va_get (D := (dC, dI)) (ws := [(gp, .inr (9, [.ref ob, .ref bs, .int (nI (d + 1 + 1 + 1 + 1)), .int (nI nd), .int 0, .int 1, .int (nI nl), .ref (qf 0), .ref (qf 1), .ref (qf 2), .ref (qf 3), .ref (qf 4), .ref (qf 5), .ref (qf 6), .ref (qf 7), .ref (qf 8), .int (nI 0), .ref (qf 9), .int 0, .ref (qf 10), .ref (qf 11), .ref (qf 12), .ref (qf 13), .ref (qf 14), .ref (qf 15)]))]) (ci := 9) (v := .int (nI nl)) (C := RX9) (T := TX9) (N := 25) hx hb hts tl_X9 hown hK (hP.one 1 rfl cel_in) 0 rfl rfl 6 (by decide) (hts _ tw_942) (fun _ h9 => h9) rfl dX9_addLink_92 ?_
    refine lv_aload_n hx hb dX9_addLink_95 rfl (lv_at hl 0 rfl) ?_
    refine lv_iconst (v := 2) hx hb dX9_addLink_96 (by decide) ?_
    have j_28 : (2 : Int32).toNatClampNeg = 2 := m_cl (n := 5) rfl (by decide) (by decide)
    refine va_iald hx hb hK (ws := [(a_1, .inl (cy 0, 5, .inl (upd (upd (upd (upd (upd (fun _ => 0) 0 (nI fA)) 1 (nI tA)) 2 (nI (1 + z_5))) 3 (nI (1 + z_15))) 4 (nI (1 + z_20)))))]) (hP.one 6 rfl cel_in) 0 0 rfl rfl (m_in (n := 5) rfl (by decide) (by decide)) dX9_addLink_97 ?_
    refine W.eq (g2 := F0 m 98 ls [.int ((upd (upd (upd (upd (upd (fun _ => 0) 0 (nI fA)) 1 (nI tA)) 2 (nI (1 + z_5))) 3 (nI (1 + z_15))) 4 (nI (1 + z_20))) 2), .int (nI nl), .ref (qf 3)]) (by rw [j_28]) ?_
    have j_29 : (nI nl : Int32).toNatClampNeg = nl := m_cl (n := 24) rfl (by omega) (by decide)
    obtain ⟨ws9, k9, hPw, hDw, hk9, -, hbk⟩ := hP.cutc (e := .inl (cy 0, 24, .inl (x3))) 5 rfl
    refine va_iast hx hb hK hPw hDw hS k9 0 hk9 rfl (m_in (n := 24) rfl (by omega) (by decide)) dX9_addLink_98 (fun H locs hPw hDw hS => ?_)
    rw [j_29] at hPw hDw
    have hP : ms (dC, dI) vwCl A [(fun q e => TW cy K (some s0) a (((0 : Int32), κr)) τ q e ∨ oW ob (K 0 0) tp q e), cel gp (gO ob bs qf (d + 1 + 1 + 1 + 1) nd nl 0), (mset (rwW cy 24 5 (qf 0) lr lv nl) (qf 0) (arQ (cy 8) 24 (va_up (fun j => if j < nl then some (lr j) else none) nl (some a_1)))), cel (qf 1) (.inl (cy 0, 24, .inl (upd x1 nl ((upd (upd (upd (upd (upd (fun _ => 0) 0 (nI fA)) 1 (nI tA)) 2 (nI (1 + z_5))) 3 (nI (1 + z_15))) 4 (nI (1 + z_20))) 4)))), cel (qf 2) (.inl (cy 0, 24, .inl (upd x2 nl ((-1))))), cel (qf 3) (.inl (cy 0, 24, .inl (upd x3 nl ((upd (upd (upd (upd (upd (fun _ => 0) 0 (nI fA)) 1 (nI tA)) 2 (nI (1 + z_5))) 3 (nI (1 + z_15))) 4 (nI (1 + z_20))) 2)))), cel a_1 (.inl (cy 0, 5, .inl (upd (upd (upd (upd (upd (fun _ => 0) 0 (nI fA)) 1 (nI tA)) 2 (nI (1 + z_5))) 3 (nI (1 + z_15))) 4 (nI (1 + z_20)))))] H := hbk _ _ hPw hDw
    clear hbk hPw hDw hk9
    refine lv_aload_n hx hb dX9_addLink_99 rfl (lv_at hl 1 rfl) ?_
    refine va_get (D := (dC, dI)) (ws := [(gp, .inr (9, [.ref ob, .ref bs, .int (nI (d + 1 + 1 + 1 + 1)), .int (nI nd), .int 0, .int 1, .int (nI nl), .ref (qf 0), .ref (qf 1), .ref (qf 2), .ref (qf 3), .ref (qf 4), .ref (qf 5), .ref (qf 6), .ref (qf 7), .ref (qf 8), .int (nI 0), .ref (qf 9), .int 0, .ref (qf 10), .ref (qf 11), .ref (qf 12), .ref (qf 13), .ref (qf 14), .ref (qf 15)]))]) (ci := 9) (v := .ref ob) (C := RX9) (T := TX9) (N := 25) hx hb hts tl_X9 hown hK (hP.one 1 rfl cel_in) 0 rfl rfl 0 (by decide) (hts _ tw_933) (fun _ h9 => h9) rfl dX9_addLink_100 ?_
    refine lv_iload_n hx hb dX9_addLink_103 rfl (lv_at hl 2 rfl) ?_
    refine lv_iload_n hx hb dX9_addLink_104 rfl (lv_at hl 3 rfl) ?_
    refine lv_aload_n hx hb dX9_addLink_105 rfl (lv_at hl 0 rfl) ?_
    refine lv_iconst (v := 2) hx hb dX9_addLink_106 (by decide) ?_
    have j_30 : (2 : Int32).toNatClampNeg = 2 := m_cl (n := 5) rfl (by decide) (by decide)
    refine va_iald hx hb hK (ws := [(a_1, .inl (cy 0, 5, .inl (upd (upd (upd (upd (upd (fun _ => 0) 0 (nI fA)) 1 (nI tA)) 2 (nI (1 + z_5))) 3 (nI (1 + z_15))) 4 (nI (1 + z_20)))))]) (hP.one 6 rfl cel_in) 0 0 rfl rfl (m_in (n := 5) rfl (by decide) (by decide)) dX9_addLink_107 ?_
    refine W.eq (g2 := F0 m 108 ls [.int ((upd (upd (upd (upd (upd (fun _ => 0) 0 (nI fA)) 1 (nI tA)) 2 (nI (1 + z_5))) 3 (nI (1 + z_15))) 4 (nI (1 + z_20))) 2), .int (nI tA), .int (nI fA), .ref ob]) (by rw [j_30]) ?_
    refine W.eq (g2 := F0 m 108 ls [.int (nI (1 + z_5)), .int (nI tA), .int (nI fA), .ref ob]) rfl ?_
    refine lv_aload_n hx hb dX9_addLink_108 rfl (lv_at hl 0 rfl) ?_
    refine lv_iconst (v := 3) hx hb dX9_addLink_109 (by decide) ?_
    have j_31 : (3 : Int32).toNatClampNeg = 3 := m_cl (n := 5) rfl (by decide) (by decide)
    refine va_iald hx hb hK (ws := [(a_1, .inl (cy 0, 5, .inl (upd (upd (upd (upd (upd (fun _ => 0) 0 (nI fA)) 1 (nI tA)) 2 (nI (1 + z_5))) 3 (nI (1 + z_15))) 4 (nI (1 + z_20)))))]) (hP.one 6 rfl cel_in) 0 0 rfl rfl (m_in (n := 5) rfl (by decide) (by decide)) dX9_addLink_110 ?_
    refine W.eq (g2 := F0 m 111 ls [.int ((upd (upd (upd (upd (upd (fun _ => 0) 0 (nI fA)) 1 (nI tA)) 2 (nI (1 + z_5))) 3 (nI (1 + z_15))) 4 (nI (1 + z_20))) 3), .int (nI (1 + z_5)), .int (nI tA), .int (nI fA), .ref ob]) (by rw [j_31]) ?_
    refine W.eq (g2 := F0 m 111 ls [.int (nI (1 + z_15)), .int (nI (1 + z_5)), .int (nI tA), .int (nI fA), .ref ob]) rfl ?_
    refine lv_aload_n hx hb dX9_addLink_111 rfl (lv_at hl 0 rfl) ?_
    refine lv_iconst (v := 4) hx hb dX9_addLink_112 (by decide) ?_
    have j_32 : (4 : Int32).toNatClampNeg = 4 := m_cl (n := 5) rfl (by decide) (by decide)
    refine va_iald hx hb hK (ws := [(a_1, .inl (cy 0, 5, .inl (upd (upd (upd (upd (upd (fun _ => 0) 0 (nI fA)) 1 (nI tA)) 2 (nI (1 + z_5))) 3 (nI (1 + z_15))) 4 (nI (1 + z_20)))))]) (hP.one 6 rfl cel_in) 0 0 rfl rfl (m_in (n := 5) rfl (by decide) (by decide)) dX9_addLink_113 ?_
    refine W.eq (g2 := F0 m 114 ls [.int ((upd (upd (upd (upd (upd (fun _ => 0) 0 (nI fA)) 1 (nI tA)) 2 (nI (1 + z_5))) 3 (nI (1 + z_15))) 4 (nI (1 + z_20))) 4), .int (nI (1 + z_15)), .int (nI (1 + z_5)), .int (nI tA), .int (nI fA), .ref ob]) (by rw [j_32]) ?_
    refine W.eq (g2 := F0 m 114 ls [.int (nI (1 + z_20)), .int (nI (1 + z_15)), .int (nI (1 + z_5)), .int (nI tA), .int (nI fA), .ref ob]) rfl ?_
    have hFc := m_free (C := (fun q e => TW cy K (some s0) a (((0 : Int32), κr)) τ q e ∨ oW ob (K 0 0) tp q e)) hP.1 hS hA (fun _ _ h => any_in (i := 0) rfl h)
    refine va_calli (va_runV (As := [.int (nI fA), .int (nI tA), .int (nI (1 + z_5)), .int (nI (1 + z_15)), .int (nI (1 + z_20))]) (rest := []) ⟨hx, hb, hml, hown, hts⟩ (c_addLink l dC dI cy K ((some s0)) a (((0 : Int32), κr)) τ ob tp 0 (nI fA) (nI tA) (nI (1 + z_5)) (nI (1 + z_15)) (nI (1 + z_20)) H.size hT h0.2.2.2.2 (b0_nno h0.1 kf) (b0_nno h0.1 kt) (fun h => kne ((nI_eq (by omega) (by omega)).mp h)) (nI_nlt (b := 1) (by omega) (by omega)) (nI_nlt (a := 20) (by omega) (by decide)) (nI_nlt (b := 1) (by omega) (by omega)) (nI_nlt (a := 30) (by omega) (by decide)) (nI_nlt (b := 1) (by omega) (by omega)) (nI_nlt (a := 3) (by omega) (by decide)) (by rw [h0.1.2.2.2.2.1, nI_toInt (by omega)]; omega)) (tp_cwV 5 hts tw_1056 tw_1057 tw_1058 tw_20 tw_1059 rfl rfl (by decide +kernel) ⟨Nat.le_of_ble_eq_true rfl, Nat.le_of_ble_eq_true rfl⟩) ⟨m_blind, va_recv hK (hP.one (e := .inr (8, [.ref (K 0 0), .ref tp])) 0 rfl (Or.inr oW_mem)) (ci := 8) (q0 := 0) rfl rfl, fun U hU hW => ⟨rfl, m_pay hK hP.1 hE (fun _ _ h => any_in (i := 0) rfl h) U hU hW⟩⟩ rfl rfl hl.1 rfl (lv_room (Nat.le_of_ble_eq_true rfl)) dX9_addLink_114 ⟨(by show 0 + 1 + 0 + 0 + 0 + 0 + 0 ≤ 1; omega), (by show 0 + 5 + 0 + 0 + 0 + 0 + 0 ≤ 5; omega)⟩) hS (fun q _ h => hFc q h) hFc (fun r_33 u t H1 locs ht hvm hpo hB hz1 hk1 hS => ?_)
    obtain rfl := hpo
    obtain ⟨f_34, hP1⟩ := hB
    subst f_34
    rw [ht] at hP1
    have hP : ms (dC, dI) vwCl A [(fun q e => TW cy K (some s0) (G_lay a (nI fA) (nI tA) (nI (1 + z_5)) (nI (1 + z_15)) (nI (1 + z_20))) ((0, (((0 : Int32), κr)).2)) τ q e ∨ oW ob (K 0 0) tp q e), cel gp (gO ob bs qf (d + 1 + 1 + 1 + 1) nd nl 0), (mset (rwW cy 24 5 (qf 0) lr lv nl) (qf 0) (arQ (cy 8) 24 (va_up (fun j => if j < nl then some (lr j) else none) nl (some a_1)))), cel (qf 1) (.inl (cy 0, 24, .inl (upd x1 nl ((upd (upd (upd (upd (upd (fun _ => 0) 0 (nI fA)) 1 (nI tA)) 2 (nI (1 + z_5))) 3 (nI (1 + z_15))) 4 (nI (1 + z_20))) 4)))), cel (qf 2) (.inl (cy 0, 24, .inl (upd x2 nl ((-1))))), cel (qf 3) (.inl (cy 0, 24, .inl (upd x3 nl ((upd (upd (upd (upd (upd (fun _ => 0) 0 (nI fA)) 1 (nI tA)) 2 (nI (1 + z_5))) 3 (nI (1 + z_15))) 4 (nI (1 + z_20))) 2)))), cel a_1 (.inl (cy 0, 5, .inl (upd (upd (upd (upd (upd (fun _ => 0) 0 (nI fA)) 1 (nI tA)) 2 (nI (1 + z_5))) 3 (nI (1 + z_15))) 4 (nI (1 + z_20)))))] H1 := hP.call 0 rfl hk1 hFc hP1
    clear hP1 hk1 hFc
    generalize H1 = H at hP hS ⊢
    refine lv_aload_n hx hb dX9_addLink_117 rfl (lv_at hl 1 rfl) ?_
    refine lv_dup hx hb dX9_addLink_118 rfl ?_
    refine va_get (D := (dC, dI)) (ws := [(gp, .inr (9, [.ref ob, .ref bs, .int (nI (d + 1 + 1 + 1 + 1)), .int (nI nd), .int 0, .int 1, .int (nI nl), .ref (qf 0), .ref (qf 1), .ref (qf 2), .ref (qf 3), .ref (qf 4), .ref (qf 5), .ref (qf 6), .ref (qf 7), .ref (qf 8), .int (nI 0), .ref (qf 9), .int 0, .ref (qf 10), .ref (qf 11), .ref (qf 12), .ref (qf 13), .ref (qf 14), .ref (qf 15)]))]) (ci := 9) (v := .int (nI nl)) (C := RX9) (T := TX9) (N := 25) hx hb hts tl_X9 hown hK (hP.one 1 rfl cel_in) 0 rfl rfl 6 (by decide) (hts _ tw_942) (fun _ h9 => h9) rfl dX9_addLink_119 ?_
    refine lv_dup_x1 hx hb dX9_addLink_122 rfl rfl ?_
    refine lv_iconst (v := 1) hx hb dX9_addLink_123 (by decide) ?_
    refine lv_iadd hx hb dX9_addLink_124 ?_
    refine W.eq (g2 := F0 m 125 ls [.int (nI (nl + 1)), .ref gp, .int (nI nl), .int (a 1 0 0)]) (by rw [nI_1]) ?_
    obtain ⟨ws9, k9, hPw, hDw, hk9, -, hbk⟩ := hP.cutc 1 rfl
    refine va_put (D := (dC, dI)) (ci := 9) (v := .int (nI (nl + 1))) (ty := .int) (C := RX9) (T := TX9) (N := 25) hx hb hts tl_X9 tyX9 tyX9_ok nmX9 hown hK hPw hDw hS k9 hk9 rfl 6 (by decide) (hts _ tw_942) (fun _ h9 => h9) rfl (by decide +kernel) rfl rfl (Nat.le_of_ble_eq_true rfl) dX9_addLink_125 (fun H locs hPw hDw hS => ?_)
    have hP : ms (dC, dI) vwCl A [(fun q e => TW cy K (some s0) (G_lay a (nI fA) (nI tA) (nI (1 + z_5)) (nI (1 + z_15)) (nI (1 + z_20))) ((0, (((0 : Int32), κr)).2)) τ q e ∨ oW ob (K 0 0) tp q e), cel gp (gO ob bs qf (d + 1 + 1 + 1 + 1) nd (nl + 1) 0), (mset (rwW cy 24 5 (qf 0) lr lv nl) (qf 0) (arQ (cy 8) 24 (va_up (fun j => if j < nl then some (lr j) else none) nl (some a_1)))), cel (qf 1) (.inl (cy 0, 24, .inl (upd x1 nl ((upd (upd (upd (upd (upd (fun _ => 0) 0 (nI fA)) 1 (nI tA)) 2 (nI (1 + z_5))) 3 (nI (1 + z_15))) 4 (nI (1 + z_20))) 4)))), cel (qf 2) (.inl (cy 0, 24, .inl (upd x2 nl ((-1))))), cel (qf 3) (.inl (cy 0, 24, .inl (upd x3 nl ((upd (upd (upd (upd (upd (fun _ => 0) 0 (nI fA)) 1 (nI tA)) 2 (nI (1 + z_5))) 3 (nI (1 + z_15))) 4 (nI (1 + z_20))) 2)))), cel a_1 (.inl (cy 0, 5, .inl (upd (upd (upd (upd (upd (fun _ => 0) 0 (nI fA)) 1 (nI tA)) 2 (nI (1 + z_5))) 3 (nI (1 + z_15))) 4 (nI (1 + z_20)))))] H := hbk _ _ hPw hDw
    clear hbk hPw hDw hk9
    refine lv_icmp_ne (tgt := 135) hx hb dX9_addLink_128 (by decide) (fun c_35 => absurd h0.1.2.2.2.2.1 c_35) (fun _ => ?_)
    refine lv_iconst (v := 1) hx hb dX9_addLink_131 (by decide) ?_
    refine lv_goto (tgt := 136) hx hb dX9_addLink_132 (by decide) ?_
    have hP := hP.sel [2, 6, 0, 1, 3, 4, 5] rfl (by decide)
    have hP := rw_add hneA hP
    refine W.widen (k := 1) (n := 5) (by show 0 + 1 + 0 + 0 + 0 + 0 + 0 + 0 ≤ 1; omega) (by show 0 + 5 + 0 + 0 + 0 + 0 + 0 + 0 ≤ 5; omega) ?_
    have g_36 : (1 : Int32) = 1 := rfl
    have g_37 : Bld (G_lay a (nI fA) (nI tA) (nI (1 + z_5)) (nI (1 + z_15)) (nI (1 + z_20))) nd (nl + 1) (up2 lv nl (rw5 fA tA (1 + z_5) (1 + z_15) (1 + z_20))) pl 0 fv := Bld.link a nd nl lv pl fv fA tA _ _ _ kB knl kf kt kne (by omega) (by omega) (by omega) (by omega) (by omega) (by omega)
    have hP : ms (dC, dI) vwCl A [(fun q e => TW cy K (some s0) (G_lay a (nI fA) (nI tA) (nI (1 + z_5)) (nI (1 + z_15)) (nI (1 + z_20))) (((0 : Int32), κr)) τ q e ∨ oW ob (K 0 0) tp q e), cel gp (gO ob bs qf (d + 4) nd (nl + 1) 0), rwW cy 24 5 (qf 0) (up2 lr nl a_1) (up2 lv nl (rw5 fA tA (1 + z_5) (1 + z_15) (1 + z_20))) (nl + 1), cel (qf 1) (.inl (cy 0, 24, .inl (upd x1 nl ((upd (upd (upd (upd (upd (fun _ => 0) 0 (nI fA)) 1 (nI tA)) 2 (nI (1 + z_5))) 3 (nI (1 + z_15))) 4 (nI (1 + z_20))) 4)))), cel (qf 2) (.inl (cy 0, 24, .inl (upd x2 nl ((-1))))), cel (qf 3) (.inl (cy 0, 24, .inl (upd x3 nl ((upd (upd (upd (upd (upd (fun _ => 0) 0 (nI fA)) 1 (nI tA)) 2 (nI (1 + z_5))) 3 (nI (1 + z_15))) 4 (nI (1 + z_20))) 2))))] H := hP.sel [1, 2, 0, 3, 4, 5] rfl (by decide)
    exact W.zret (v := 1) hx hb hr rfl (fun t ht hW => ⟨⟨1, 1, rfl, rfl, ⟨(G_lay a (nI fA) (nI tA) (nI (1 + z_5)) (nI (1 + z_15)) (nI (1 + z_20))), (up2 lr nl a_1), (up2 lv nl (rw5 fA tA (1 + z_5) (1 + z_15) (1 + z_20))), (upd x1 nl ((upd (upd (upd (upd (upd (fun _ => 0) 0 (nI fA)) 1 (nI tA)) 2 (nI (1 + z_5))) 3 (nI (1 + z_15))) 4 (nI (1 + z_20))) 4)), (upd x2 nl ((-1))), (upd x3 nl ((upd (upd (upd (upd (upd (fun _ => 0) 0 (nI fA)) 1 (nI tA)) 2 (nI (1 + z_5))) 3 (nI (1 + z_15))) 4 (nI (1 + z_20))) 2)), g_36, g_37, by show ms _ _ _ _ t.heap; rw [ht]; exact hP⟩⟩, hS.F ht⟩) hS.2.2 dX9_addLink_136
  · refine lv_iconst (v := 2) hx hb dX9_addLink_33 (by decide) ?_
    refine lv_goto (tgt := 39) hx hb dX9_addLink_34 (by decide) ?_
    have hPc : ms (dC, dI) vwCl A ([cel gp (gO ob bs qf (d + 1 + 1) nd nl 0)] ++ [(fun q e => TW cy K (some s0) a (((0 : Int32), κr)) τ q e ∨ oW ob (K 0 0) tp q e), rwW cy 24 5 (qf 0) lr lv nl, cel (qf 1) (.inl (cy 0, 24, .inl (x1))), cel (qf 2) (.inl (cy 0, 24, .inl (x2))), cel (qf 3) (.inl (cy 0, 24, .inl (x3))), cel a_1 (.inl (cy 0, 5, .inl (upd (upd (upd (fun _ => 0) 0 (nI fA)) 1 (nI tA)) 2 (nI (1 + z_5)))))]) H := hP.sel [1, 0, 2, 3, 4, 5, 6] rfl (by decide)
    have hFc := g_free hPc hS hA
    refine va_calli (va_runV (As := [.int 2]) (rest := [.int 1, .int 3, .ref a_1, .ref a_1]) ⟨hx, hb, hml, hown, hts⟩ (c_draw l dC dI cy bs Ls xs gp ob qf (d + 1 + 1) nd nl 0 2 H.size (by first | assumption | omega) (by first | assumption | omega) (by first | assumption | omega)) (tp_cwV 1 hts tw_1031 tw_1016 tw_1017 tw_19 tw_1018 rfl rfl (by decide +kernel) ⟨Nat.le_of_ble_eq_true rfl, Nat.le_of_ble_eq_true rfl⟩) ⟨g_blind, va_recv hK (hP.one (e := .inr (9, [.ref ob, .ref bs, .int (nI (d + 1 + 1)), .int (nI nd), .int 0, .int 1, .int (nI nl), .ref (qf 0), .ref (qf 1), .ref (qf 2), .ref (qf 3), .ref (qf 4), .ref (qf 5), .ref (qf 6), .ref (qf 7), .ref (qf 8), .int (nI 0), .ref (qf 9), .int 0, .ref (qf 10), .ref (qf 11), .ref (qf 12), .ref (qf 13), .ref (qf 14), .ref (qf 15)])) 1 rfl cel_in) (ci := 9) (q0 := 0) rfl rfl, fun U hU hW => ⟨rfl, g_pay hK hPc hE hX hbl hbL hbA hS U hU hW⟩⟩ rfl rfl hl.1 rfl (lv_room (Nat.le_of_ble_eq_true rfl)) dX9_addLink_39 ⟨(by show 0 + 1 + 0 + 0 + 0 ≤ 1; omega), (by show 0 + 5 + 0 + 0 + 0 ≤ 5; omega)⟩) hS (fun q _ h => hFc q h) hFc (fun r_38 u t H1 locs ht hvm hpo hB hz1 hk1 hS => ?_)
    obtain rfl := hpo
    obtain ⟨z_39, f_40, f_41, hP1⟩ := hB
    rw [ht] at hP1
    have hPj := hPc.calls hk1 hFc hP1
    have hP : ms (dC, dI) vwCl A [(fun q e => TW cy K (some s0) a (((0 : Int32), κr)) τ q e ∨ oW ob (K 0 0) tp q e), cel gp (gO ob bs qf (d + 1 + 1 + 1) nd nl 0), rwW cy 24 5 (qf 0) lr lv nl, cel (qf 1) (.inl (cy 0, 24, .inl (x1))), cel (qf 2) (.inl (cy 0, 24, .inl (x2))), cel (qf 3) (.inl (cy 0, 24, .inl (x3))), cel a_1 (.inl (cy 0, 5, .inl (upd (upd (upd (fun _ => 0) 0 (nI fA)) 1 (nI tA)) 2 (nI (1 + z_5)))))] H1 := hPj.sel [1, 0, 2, 3, 4, 5, 6] rfl (by decide)
    clear hPj hPc hP1 hk1 hFc
    generalize H1 = H at hP hS ⊢
    subst f_41
    have q3 := f_40
    refine lv_iadd hx hb dX9_addLink_42 ?_
    refine W.eq (g2 := F0 m 43 ls [.int (nI (1 + z_39)), .int 3, .ref a_1, .ref a_1]) (by rw [show (1 : Int32) = nI 1 from rfl, nI_add]) ?_
    have j_42 : (3 : Int32).toNatClampNeg = 3 := m_cl (n := 5) rfl (by decide) (by decide)
    obtain ⟨ws9, k9, hPw, hDw, hk9, -, hbk⟩ := hP.cutc (e := .inl (cy 0, 5, .inl (upd (upd (upd (fun _ => 0) 0 (nI fA)) 1 (nI tA)) 2 (nI (1 + z_5))))) 6 rfl
    refine va_iast hx hb hK hPw hDw hS k9 0 hk9 rfl (m_in (n := 5) rfl (by decide) (by decide)) dX9_addLink_43 (fun H locs hPw hDw hS => ?_)
    rw [j_42] at hPw hDw
    have hP : ms (dC, dI) vwCl A [(fun q e => TW cy K (some s0) a (((0 : Int32), κr)) τ q e ∨ oW ob (K 0 0) tp q e), cel gp (gO ob bs qf (d + 1 + 1 + 1) nd nl 0), rwW cy 24 5 (qf 0) lr lv nl, cel (qf 1) (.inl (cy 0, 24, .inl (x1))), cel (qf 2) (.inl (cy 0, 24, .inl (x2))), cel (qf 3) (.inl (cy 0, 24, .inl (x3))), cel a_1 (.inl (cy 0, 5, .inl (upd (upd (upd (upd (fun _ => 0) 0 (nI fA)) 1 (nI tA)) 2 (nI (1 + z_5))) 3 (nI (1 + z_39)))))] H := hbk _ _ hPw hDw
    clear hbk hPw hDw hk9
    refine lv_dup hx hb dX9_addLink_44 rfl ?_
    refine lv_iconst (v := 4) hx hb dX9_addLink_45 (by decide) ?_
    refine lv_iconst (v := 1) hx hb dX9_addLink_46 (by decide) ?_
    refine lv_aload_n hx hb dX9_addLink_47 rfl (lv_at hl 0 rfl) ?_
    refine lv_iconst (v := 2) hx hb dX9_addLink_48 (by decide) ?_
    have hPc : ms (dC, dI) vwCl A ([cel gp (gO ob bs qf (d + 1 + 1 + 1) nd nl 0)] ++ [(fun q e => TW cy K (some s0) a (((0 : Int32), κr)) τ q e ∨ oW ob (K 0 0) tp q e), rwW cy 24 5 (qf 0) lr lv nl, cel (qf 1) (.inl (cy 0, 24, .inl (x1))), cel (qf 2) (.inl (cy 0, 24, .inl (x2))), cel (qf 3) (.inl (cy 0, 24, .inl (x3))), cel a_1 (.inl (cy 0, 5, .inl (upd (upd (upd (upd (fun _ => 0) 0 (nI fA)) 1 (nI tA)) 2 (nI (1 + z_5))) 3 (nI (1 + z_39)))))]) H := hP.sel [1, 0, 2, 3, 4, 5, 6] rfl (by decide)
    have hFc := g_free hPc hS hA
    refine va_calli (va_runV (As := [.int 2]) (rest := [.int 1, .int 4, .ref a_1, .ref a_1]) ⟨hx, hb, hml, hown, hts⟩ (c_draw l dC dI cy bs Ls xs gp ob qf (d + 1 + 1 + 1) nd nl 0 2 H.size (by first | assumption | omega) (by first | assumption | omega) (by first | assumption | omega)) (tp_cwV 1 hts tw_1031 tw_1016 tw_1017 tw_19 tw_1018 rfl rfl (by decide +kernel) ⟨Nat.le_of_ble_eq_true rfl, Nat.le_of_ble_eq_true rfl⟩) ⟨g_blind, va_recv hK (hP.one (e := .inr (9, [.ref ob, .ref bs, .int (nI (d + 1 + 1 + 1)), .int (nI nd), .int 0, .int 1, .int (nI nl), .ref (qf 0), .ref (qf 1), .ref (qf 2), .ref (qf 3), .ref (qf 4), .ref (qf 5), .ref (qf 6), .ref (qf 7), .ref (qf 8), .int (nI 0), .ref (qf 9), .int 0, .ref (qf 10), .ref (qf 11), .ref (qf 12), .ref (qf 13), .ref (qf 14), .ref (qf 15)])) 1 rfl cel_in) (ci := 9) (q0 := 0) rfl rfl, fun U hU hW => ⟨rfl, g_pay hK hPc hE hX hbl hbL hbA hS U hU hW⟩⟩ rfl rfl hl.1 rfl (lv_room (Nat.le_of_ble_eq_true rfl)) dX9_addLink_49 ⟨(by show 0 + 1 + 0 + 0 + 0 + 0 ≤ 1; omega), (by show 0 + 5 + 0 + 0 + 0 + 0 ≤ 5; omega)⟩) hS (fun q _ h => hFc q h) hFc (fun r_43 u t H1 locs ht hvm hpo hB hz1 hk1 hS => ?_)
    obtain rfl := hpo
    obtain ⟨z_44, f_45, f_46, hP1⟩ := hB
    rw [ht] at hP1
    have hPj := hPc.calls hk1 hFc hP1
    have hP : ms (dC, dI) vwCl A [(fun q e => TW cy K (some s0) a (((0 : Int32), κr)) τ q e ∨ oW ob (K 0 0) tp q e), cel gp (gO ob bs qf (d + 1 + 1 + 1 + 1) nd nl 0), rwW cy 24 5 (qf 0) lr lv nl, cel (qf 1) (.inl (cy 0, 24, .inl (x1))), cel (qf 2) (.inl (cy 0, 24, .inl (x2))), cel (qf 3) (.inl (cy 0, 24, .inl (x3))), cel a_1 (.inl (cy 0, 5, .inl (upd (upd (upd (upd (fun _ => 0) 0 (nI fA)) 1 (nI tA)) 2 (nI (1 + z_5))) 3 (nI (1 + z_39)))))] H1 := hPj.sel [1, 0, 2, 3, 4, 5, 6] rfl (by decide)
    clear hPj hPc hP1 hk1 hFc
    generalize H1 = H at hP hS ⊢
    subst f_46
    have q4 := f_45
    refine lv_iadd hx hb dX9_addLink_52 ?_
    refine W.eq (g2 := F0 m 53 ls [.int (nI (1 + z_44)), .int 4, .ref a_1, .ref a_1]) (by rw [show (1 : Int32) = nI 1 from rfl, nI_add]) ?_
    have j_47 : (4 : Int32).toNatClampNeg = 4 := m_cl (n := 5) rfl (by decide) (by decide)
    obtain ⟨ws9, k9, hPw, hDw, hk9, -, hbk⟩ := hP.cutc (e := .inl (cy 0, 5, .inl (upd (upd (upd (upd (fun _ => 0) 0 (nI fA)) 1 (nI tA)) 2 (nI (1 + z_5))) 3 (nI (1 + z_39))))) 6 rfl
    refine va_iast hx hb hK hPw hDw hS k9 0 hk9 rfl (m_in (n := 5) rfl (by decide) (by decide)) dX9_addLink_53 (fun H locs hPw hDw hS => ?_)
    rw [j_47] at hPw hDw
    have hP : ms (dC, dI) vwCl A [(fun q e => TW cy K (some s0) a (((0 : Int32), κr)) τ q e ∨ oW ob (K 0 0) tp q e), cel gp (gO ob bs qf (d + 1 + 1 + 1 + 1) nd nl 0), rwW cy 24 5 (qf 0) lr lv nl, cel (qf 1) (.inl (cy 0, 24, .inl (x1))), cel (qf 2) (.inl (cy 0, 24, .inl (x2))), cel (qf 3) (.inl (cy 0, 24, .inl (x3))), cel a_1 (.inl (cy 0, 5, .inl (upd (upd (upd (upd (upd (fun _ => 0) 0 (nI fA)) 1 (nI tA)) 2 (nI (1 + z_5))) 3 (nI (1 + z_39))) 4 (nI (1 + z_44)))))] H := hbk _ _ hPw hDw
    clear hbk hPw hDw hk9
    refine lv_astore_n (lv' := [(3, .ref a_1), (0, .ref gp), (1, .int (nI fA)), (2, .int (nI tA))]) hx hb dX9_addLink_54 rfl hl (by decide) rfl (fun ls hl => ?_)
    refine lv_aload_n hx hb dX9_addLink_55 rfl (lv_at hl 1 rfl) ?_
    refine va_get (D := (dC, dI)) (ws := [(gp, .inr (9, [.ref ob, .ref bs, .int (nI (d + 1 + 1 + 1 + 1)), .int (nI nd), .int 0, .int 1, .int (nI nl), .ref (qf 0), .ref (qf 1), .ref (qf 2), .ref (qf 3), .ref (qf 4), .ref (qf 5), .ref (qf 6), .ref (qf 7), .ref (qf 8), .int (nI 0), .ref (qf 9), .int 0, .ref (qf 10), .ref (qf 11), .ref (qf 12), .ref (qf 13), .ref (qf 14), .ref (qf 15)]))]) (ci := 9) (v := .ref (qf 0)) (C := RX9) (T := TX9) (N := 25) hx hb hts tl_X9 hown hK (hP.one 1 rfl cel_in) 0 rfl rfl 7 (by decide) (hts _ tw_943) (fun _ h9 => h9) rfl dX9_addLink_56 ?_
    refine lv_aload_n hx hb dX9_addLink_59 rfl (lv_at hl 1 rfl) ?_
    refine va_get (D := (dC, dI)) (ws := [(gp, .inr (9, [.ref ob, .ref bs, .int (nI (d + 1 + 1 + 1 + 1)), .int (nI nd), .int 0, .int 1, .int (nI nl), .ref (qf 0), .ref (qf 1), .ref (qf 2), .ref (qf 3), .ref (qf 4), .ref (qf 5), .ref (qf 6), .ref (qf 7), .ref (qf 8), .int (nI 0), .ref (qf 9), .int 0, .ref (qf 10), .ref (qf 11), .ref (qf 12), .ref (qf 13), .ref (qf 14), .ref (qf 15)]))]) (ci := 9) (v := .int (nI nl)) (C := RX9) (T := TX9) (N := 25) hx hb hts tl_X9 hown hK (hP.one 1 rfl cel_in) 0 rfl rfl 6 (by decide) (hts _ tw_942) (fun _ h9 => h9) rfl dX9_addLink_60 ?_
    refine lv_aload_n hx hb dX9_addLink_63 rfl (lv_at hl 0 rfl) ?_
    have hneA := rw_ne (i := 2) hP rfl
    have hne := rw_ne (i := 2) hP rfl
    have j_48 : (nI nl : Int32).toNatClampNeg = nl := m_cl (n := 24) rfl (by omega) (by decide)
    obtain ⟨ws9, k9, hPw, hDw, hk9, hin9, hbk⟩ := hP.cut (e := arQ (cy 8) 24 (fun j => if j < nl then some (lr j) else none)) 2 rfl (Or.inl ⟨rfl, rfl⟩)
    obtain ⟨k8, hk8⟩ := hin9 _ _ (any_in (i := 6) rfl (cel_in (a := a_1) (e := .inl (cy 0, 5, .inl (upd (upd (upd (upd (upd (fun _ => 0) 0 (nI fA)) 1 (nI tA)) 2 (nI (1 + z_5))) 3 (nI (1 + z_39))) 4 (nI (1 + z_44)))))))
    refine m_astA hx hb hK hPw hDw hS k9 8 k8 0 hk9 rfl hk8 rfl (hE.2.2.2 _ (List.mem_of_getElem? (i := 0) rfl)) rfl (fun h => h) (m_in (n := 24) rfl (by omega) (by decide)) dX9_addLink_64 (fun H locs hPw hDw hS => ?_)
    rw [j_48] at hPw hDw
    have hP : ms (dC, dI) vwCl A [(fun q e => TW cy K (some s0) a (((0 : Int32), κr)) τ q e ∨ oW ob (K 0 0) tp q e), cel gp (gO ob bs qf (d + 1 + 1 + 1 + 1) nd nl 0), (mset (rwW cy 24 5 (qf 0) lr lv nl) (qf 0) (arQ (cy 8) 24 (va_up (fun j => if j < nl then some (lr j) else none) nl (some a_1)))), cel (qf 1) (.inl (cy 0, 24, .inl (x1))), cel (qf 2) (.inl (cy 0, 24, .inl (x2))), cel (qf 3) (.inl (cy 0, 24, .inl (x3))), cel a_1 (.inl (cy 0, 5, .inl (upd (upd (upd (upd (upd (fun _ => 0) 0 (nI fA)) 1 (nI tA)) 2 (nI (1 + z_5))) 3 (nI (1 + z_39))) 4 (nI (1 + z_44)))))] H := hbk _ _ hPw hDw
    clear hbk hPw hDw hk9 hin9 hk8
    refine lv_aload_n hx hb dX9_addLink_65 rfl (lv_at hl 1 rfl) ?_
    refine va_get (D := (dC, dI)) (ws := [(gp, .inr (9, [.ref ob, .ref bs, .int (nI (d + 1 + 1 + 1 + 1)), .int (nI nd), .int 0, .int 1, .int (nI nl), .ref (qf 0), .ref (qf 1), .ref (qf 2), .ref (qf 3), .ref (qf 4), .ref (qf 5), .ref (qf 6), .ref (qf 7), .ref (qf 8), .int (nI 0), .ref (qf 9), .int 0, .ref (qf 10), .ref (qf 11), .ref (qf 12), .ref (qf 13), .ref (qf 14), .ref (qf 15)]))]) (ci := 9) (v := .ref (qf 1)) (C := RX9) (T := TX9) (N := 25) hx hb hts tl_X9 hown hK (hP.one 1 rfl cel_in) 0 rfl rfl 8 (by decide) (hts _ tw_945) (fun _ h9 => h9) rfl dX9_addLink_66 ?_
    refine lv_aload_n hx hb dX9_addLink_69 rfl (lv_at hl 1 rfl) ?_
    refine va_get (D := (dC, dI)) (ws := [(gp, .inr (9, [.ref ob, .ref bs, .int (nI (d + 1 + 1 + 1 + 1)), .int (nI nd), .int 0, .int 1, .int (nI nl), .ref (qf 0), .ref (qf 1), .ref (qf 2), .ref (qf 3), .ref (qf 4), .ref (qf 5), .ref (qf 6), .ref (qf 7), .ref (qf 8), .int (nI 0), .ref (qf 9), .int 0, .ref (qf 10), .ref (qf 11), .ref (qf 12), .ref (qf 13), .ref (qf 14), .ref (qf 15)]))]) (ci := 9) (v := .int (nI nl)) (C := RX9) (T := TX9) (N := 25) hx hb hts tl_X9 hown hK (hP.one 1 rfl cel_in) 0 rfl rfl 6 (by decide) (hts _ tw_942) (fun _ h9 => h9) rfl dX9_addLink_70 ?_
    refine lv_aload_n hx hb dX9_addLink_73 rfl (lv_at hl 0 rfl) ?_
    refine lv_iconst (v := 4) hx hb dX9_addLink_74 (by decide) ?_
    have j_49 : (4 : Int32).toNatClampNeg = 4 := m_cl (n := 5) rfl (by decide) (by decide)
    refine va_iald hx hb hK (ws := [(a_1, .inl (cy 0, 5, .inl (upd (upd (upd (upd (upd (fun _ => 0) 0 (nI fA)) 1 (nI tA)) 2 (nI (1 + z_5))) 3 (nI (1 + z_39))) 4 (nI (1 + z_44)))))]) (hP.one 6 rfl cel_in) 0 0 rfl rfl (m_in (n := 5) rfl (by decide) (by decide)) dX9_addLink_75 ?_
    refine W.eq (g2 := F0 m 76 ls [.int ((upd (upd (upd (upd (upd (fun _ => 0) 0 (nI fA)) 1 (nI tA)) 2 (nI (1 + z_5))) 3 (nI (1 + z_39))) 4 (nI (1 + z_44))) 4), .int (nI nl), .ref (qf 1)]) (by rw [j_49]) ?_
    have j_50 : (nI nl : Int32).toNatClampNeg = nl := m_cl (n := 24) rfl (by omega) (by decide)
    obtain ⟨ws9, k9, hPw, hDw, hk9, -, hbk⟩ := hP.cutc (e := .inl (cy 0, 24, .inl (x1))) 3 rfl
    refine va_iast hx hb hK hPw hDw hS k9 0 hk9 rfl (m_in (n := 24) rfl (by omega) (by decide)) dX9_addLink_76 (fun H locs hPw hDw hS => ?_)
    rw [j_50] at hPw hDw
    have hP : ms (dC, dI) vwCl A [(fun q e => TW cy K (some s0) a (((0 : Int32), κr)) τ q e ∨ oW ob (K 0 0) tp q e), cel gp (gO ob bs qf (d + 1 + 1 + 1 + 1) nd nl 0), (mset (rwW cy 24 5 (qf 0) lr lv nl) (qf 0) (arQ (cy 8) 24 (va_up (fun j => if j < nl then some (lr j) else none) nl (some a_1)))), cel (qf 1) (.inl (cy 0, 24, .inl (upd x1 nl ((upd (upd (upd (upd (upd (fun _ => 0) 0 (nI fA)) 1 (nI tA)) 2 (nI (1 + z_5))) 3 (nI (1 + z_39))) 4 (nI (1 + z_44))) 4)))), cel (qf 2) (.inl (cy 0, 24, .inl (x2))), cel (qf 3) (.inl (cy 0, 24, .inl (x3))), cel a_1 (.inl (cy 0, 5, .inl (upd (upd (upd (upd (upd (fun _ => 0) 0 (nI fA)) 1 (nI tA)) 2 (nI (1 + z_5))) 3 (nI (1 + z_39))) 4 (nI (1 + z_44)))))] H := hbk _ _ hPw hDw
    clear hbk hPw hDw hk9
    refine lv_aload_n hx hb dX9_addLink_77 rfl (lv_at hl 1 rfl) ?_
    refine va_get (D := (dC, dI)) (ws := [(gp, .inr (9, [.ref ob, .ref bs, .int (nI (d + 1 + 1 + 1 + 1)), .int (nI nd), .int 0, .int 1, .int (nI nl), .ref (qf 0), .ref (qf 1), .ref (qf 2), .ref (qf 3), .ref (qf 4), .ref (qf 5), .ref (qf 6), .ref (qf 7), .ref (qf 8), .int (nI 0), .ref (qf 9), .int 0, .ref (qf 10), .ref (qf 11), .ref (qf 12), .ref (qf 13), .ref (qf 14), .ref (qf 15)]))]) (ci := 9) (v := .ref (qf 2)) (C := RX9) (T := TX9) (N := 25) hx hb hts tl_X9 hown hK (hP.one 1 rfl cel_in) 0 rfl rfl 9 (by decide) (hts _ tw_946) (fun _ h9 => h9) rfl dX9_addLink_78 ?_
    refine lv_aload_n hx hb dX9_addLink_81 rfl (lv_at hl 1 rfl) ?_
    refine va_get (D := (dC, dI)) (ws := [(gp, .inr (9, [.ref ob, .ref bs, .int (nI (d + 1 + 1 + 1 + 1)), .int (nI nd), .int 0, .int 1, .int (nI nl), .ref (qf 0), .ref (qf 1), .ref (qf 2), .ref (qf 3), .ref (qf 4), .ref (qf 5), .ref (qf 6), .ref (qf 7), .ref (qf 8), .int (nI 0), .ref (qf 9), .int 0, .ref (qf 10), .ref (qf 11), .ref (qf 12), .ref (qf 13), .ref (qf 14), .ref (qf 15)]))]) (ci := 9) (v := .int (nI nl)) (C := RX9) (T := TX9) (N := 25) hx hb hts tl_X9 hown hK (hP.one 1 rfl cel_in) 0 rfl rfl 6 (by decide) (hts _ tw_942) (fun _ h9 => h9) rfl dX9_addLink_82 ?_
    refine lv_iconst (v := -1) hx hb dX9_addLink_85 (by decide) ?_
    have j_51 : (nI nl : Int32).toNatClampNeg = nl := m_cl (n := 24) rfl (by omega) (by decide)
    obtain ⟨ws9, k9, hPw, hDw, hk9, -, hbk⟩ := hP.cutc (e := .inl (cy 0, 24, .inl (x2))) 4 rfl
    refine va_iast hx hb hK hPw hDw hS k9 0 hk9 rfl (m_in (n := 24) rfl (by omega) (by decide)) dX9_addLink_86 (fun H locs hPw hDw hS => ?_)
    rw [j_51] at hPw hDw
    have hP : ms (dC, dI) vwCl A [(fun q e => TW cy K (some s0) a (((0 : Int32), κr)) τ q e ∨ oW ob (K 0 0) tp q e), cel gp (gO ob bs qf (d + 1 + 1 + 1 + 1) nd nl 0), (mset (rwW cy 24 5 (qf 0) lr lv nl) (qf 0) (arQ (cy 8) 24 (va_up (fun j => if j < nl then some (lr j) else none) nl (some a_1)))), cel (qf 1) (.inl (cy 0, 24, .inl (upd x1 nl ((upd (upd (upd (upd (upd (fun _ => 0) 0 (nI fA)) 1 (nI tA)) 2 (nI (1 + z_5))) 3 (nI (1 + z_39))) 4 (nI (1 + z_44))) 4)))), cel (qf 2) (.inl (cy 0, 24, .inl (upd x2 nl ((-1))))), cel (qf 3) (.inl (cy 0, 24, .inl (x3))), cel a_1 (.inl (cy 0, 5, .inl (upd (upd (upd (upd (upd (fun _ => 0) 0 (nI fA)) 1 (nI tA)) 2 (nI (1 + z_5))) 3 (nI (1 + z_39))) 4 (nI (1 + z_44)))))] H := hbk _ _ hPw hDw
    clear hbk hPw hDw hk9
    refine lv_aload_n hx hb dX9_addLink_87 rfl (lv_at hl 1 rfl) ?_
    refine va_get (D := (dC, dI)) (ws := [(gp, .inr (9, [.ref ob, .ref bs, .int (nI (d + 1 + 1 + 1 + 1)), .int (nI nd), .int 0, .int 1, .int (nI nl), .ref (qf 0), .ref (qf 1), .ref (qf 2), .ref (qf 3), .ref (qf 4), .ref (qf 5), .ref (qf 6), .ref (qf 7), .ref (qf 8), .int (nI 0), .ref (qf 9), .int 0, .ref (qf 10), .ref (qf 11), .ref (qf 12), .ref (qf 13), .ref (qf 14), .ref (qf 15)]))]) (ci := 9) (v := .ref (qf 3)) (C := RX9) (T := TX9) (N := 25) hx hb hts tl_X9 hown hK (hP.one 1 rfl cel_in) 0 rfl rfl 10 (by decide) (hts _ tw_947) (fun _ h9 => h9) rfl dX9_addLink_88 ?_
    refine lv_aload_n hx hb dX9_addLink_91 rfl (lv_at hl 1 rfl) ?_
    refine va_get (D := (dC, dI)) (ws := [(gp, .inr (9, [.ref ob, .ref bs, .int (nI (d + 1 + 1 + 1 + 1)), .int (nI nd), .int 0, .int 1, .int (nI nl), .ref (qf 0), .ref (qf 1), .ref (qf 2), .ref (qf 3), .ref (qf 4), .ref (qf 5), .ref (qf 6), .ref (qf 7), .ref (qf 8), .int (nI 0), .ref (qf 9), .int 0, .ref (qf 10), .ref (qf 11), .ref (qf 12), .ref (qf 13), .ref (qf 14), .ref (qf 15)]))]) (ci := 9) (v := .int (nI nl)) (C := RX9) (T := TX9) (N := 25) hx hb hts tl_X9 hown hK (hP.one 1 rfl cel_in) 0 rfl rfl 6 (by decide) (hts _ tw_942) (fun _ h9 => h9) rfl dX9_addLink_92 ?_
    refine lv_aload_n hx hb dX9_addLink_95 rfl (lv_at hl 0 rfl) ?_
    refine lv_iconst (v := 2) hx hb dX9_addLink_96 (by decide) ?_
    have j_52 : (2 : Int32).toNatClampNeg = 2 := m_cl (n := 5) rfl (by decide) (by decide)
    refine va_iald hx hb hK (ws := [(a_1, .inl (cy 0, 5, .inl (upd (upd (upd (upd (upd (fun _ => 0) 0 (nI fA)) 1 (nI tA)) 2 (nI (1 + z_5))) 3 (nI (1 + z_39))) 4 (nI (1 + z_44)))))]) (hP.one 6 rfl cel_in) 0 0 rfl rfl (m_in (n := 5) rfl (by decide) (by decide)) dX9_addLink_97 ?_
    refine W.eq (g2 := F0 m 98 ls [.int ((upd (upd (upd (upd (upd (fun _ => 0) 0 (nI fA)) 1 (nI tA)) 2 (nI (1 + z_5))) 3 (nI (1 + z_39))) 4 (nI (1 + z_44))) 2), .int (nI nl), .ref (qf 3)]) (by rw [j_52]) ?_
    have j_53 : (nI nl : Int32).toNatClampNeg = nl := m_cl (n := 24) rfl (by omega) (by decide)
    obtain ⟨ws9, k9, hPw, hDw, hk9, -, hbk⟩ := hP.cutc (e := .inl (cy 0, 24, .inl (x3))) 5 rfl
    refine va_iast hx hb hK hPw hDw hS k9 0 hk9 rfl (m_in (n := 24) rfl (by omega) (by decide)) dX9_addLink_98 (fun H locs hPw hDw hS => ?_)
    rw [j_53] at hPw hDw
    have hP : ms (dC, dI) vwCl A [(fun q e => TW cy K (some s0) a (((0 : Int32), κr)) τ q e ∨ oW ob (K 0 0) tp q e), cel gp (gO ob bs qf (d + 1 + 1 + 1 + 1) nd nl 0), (mset (rwW cy 24 5 (qf 0) lr lv nl) (qf 0) (arQ (cy 8) 24 (va_up (fun j => if j < nl then some (lr j) else none) nl (some a_1)))), cel (qf 1) (.inl (cy 0, 24, .inl (upd x1 nl ((upd (upd (upd (upd (upd (fun _ => 0) 0 (nI fA)) 1 (nI tA)) 2 (nI (1 + z_5))) 3 (nI (1 + z_39))) 4 (nI (1 + z_44))) 4)))), cel (qf 2) (.inl (cy 0, 24, .inl (upd x2 nl ((-1))))), cel (qf 3) (.inl (cy 0, 24, .inl (upd x3 nl ((upd (upd (upd (upd (upd (fun _ => 0) 0 (nI fA)) 1 (nI tA)) 2 (nI (1 + z_5))) 3 (nI (1 + z_39))) 4 (nI (1 + z_44))) 2)))), cel a_1 (.inl (cy 0, 5, .inl (upd (upd (upd (upd (upd (fun _ => 0) 0 (nI fA)) 1 (nI tA)) 2 (nI (1 + z_5))) 3 (nI (1 + z_39))) 4 (nI (1 + z_44)))))] H := hbk _ _ hPw hDw
    clear hbk hPw hDw hk9
    refine lv_aload_n hx hb dX9_addLink_99 rfl (lv_at hl 1 rfl) ?_
    refine va_get (D := (dC, dI)) (ws := [(gp, .inr (9, [.ref ob, .ref bs, .int (nI (d + 1 + 1 + 1 + 1)), .int (nI nd), .int 0, .int 1, .int (nI nl), .ref (qf 0), .ref (qf 1), .ref (qf 2), .ref (qf 3), .ref (qf 4), .ref (qf 5), .ref (qf 6), .ref (qf 7), .ref (qf 8), .int (nI 0), .ref (qf 9), .int 0, .ref (qf 10), .ref (qf 11), .ref (qf 12), .ref (qf 13), .ref (qf 14), .ref (qf 15)]))]) (ci := 9) (v := .ref ob) (C := RX9) (T := TX9) (N := 25) hx hb hts tl_X9 hown hK (hP.one 1 rfl cel_in) 0 rfl rfl 0 (by decide) (hts _ tw_933) (fun _ h9 => h9) rfl dX9_addLink_100 ?_
    refine lv_iload_n hx hb dX9_addLink_103 rfl (lv_at hl 2 rfl) ?_
    refine lv_iload_n hx hb dX9_addLink_104 rfl (lv_at hl 3 rfl) ?_
    refine lv_aload_n hx hb dX9_addLink_105 rfl (lv_at hl 0 rfl) ?_
    refine lv_iconst (v := 2) hx hb dX9_addLink_106 (by decide) ?_
    have j_54 : (2 : Int32).toNatClampNeg = 2 := m_cl (n := 5) rfl (by decide) (by decide)
    refine va_iald hx hb hK (ws := [(a_1, .inl (cy 0, 5, .inl (upd (upd (upd (upd (upd (fun _ => 0) 0 (nI fA)) 1 (nI tA)) 2 (nI (1 + z_5))) 3 (nI (1 + z_39))) 4 (nI (1 + z_44)))))]) (hP.one 6 rfl cel_in) 0 0 rfl rfl (m_in (n := 5) rfl (by decide) (by decide)) dX9_addLink_107 ?_
    refine W.eq (g2 := F0 m 108 ls [.int ((upd (upd (upd (upd (upd (fun _ => 0) 0 (nI fA)) 1 (nI tA)) 2 (nI (1 + z_5))) 3 (nI (1 + z_39))) 4 (nI (1 + z_44))) 2), .int (nI tA), .int (nI fA), .ref ob]) (by rw [j_54]) ?_
    refine W.eq (g2 := F0 m 108 ls [.int (nI (1 + z_5)), .int (nI tA), .int (nI fA), .ref ob]) rfl ?_
    refine lv_aload_n hx hb dX9_addLink_108 rfl (lv_at hl 0 rfl) ?_
    refine lv_iconst (v := 3) hx hb dX9_addLink_109 (by decide) ?_
    have j_55 : (3 : Int32).toNatClampNeg = 3 := m_cl (n := 5) rfl (by decide) (by decide)
    refine va_iald hx hb hK (ws := [(a_1, .inl (cy 0, 5, .inl (upd (upd (upd (upd (upd (fun _ => 0) 0 (nI fA)) 1 (nI tA)) 2 (nI (1 + z_5))) 3 (nI (1 + z_39))) 4 (nI (1 + z_44)))))]) (hP.one 6 rfl cel_in) 0 0 rfl rfl (m_in (n := 5) rfl (by decide) (by decide)) dX9_addLink_110 ?_
    refine W.eq (g2 := F0 m 111 ls [.int ((upd (upd (upd (upd (upd (fun _ => 0) 0 (nI fA)) 1 (nI tA)) 2 (nI (1 + z_5))) 3 (nI (1 + z_39))) 4 (nI (1 + z_44))) 3), .int (nI (1 + z_5)), .int (nI tA), .int (nI fA), .ref ob]) (by rw [j_55]) ?_
    refine W.eq (g2 := F0 m 111 ls [.int (nI (1 + z_39)), .int (nI (1 + z_5)), .int (nI tA), .int (nI fA), .ref ob]) rfl ?_
    refine lv_aload_n hx hb dX9_addLink_111 rfl (lv_at hl 0 rfl) ?_
    refine lv_iconst (v := 4) hx hb dX9_addLink_112 (by decide) ?_
    have j_56 : (4 : Int32).toNatClampNeg = 4 := m_cl (n := 5) rfl (by decide) (by decide)
    refine va_iald hx hb hK (ws := [(a_1, .inl (cy 0, 5, .inl (upd (upd (upd (upd (upd (fun _ => 0) 0 (nI fA)) 1 (nI tA)) 2 (nI (1 + z_5))) 3 (nI (1 + z_39))) 4 (nI (1 + z_44)))))]) (hP.one 6 rfl cel_in) 0 0 rfl rfl (m_in (n := 5) rfl (by decide) (by decide)) dX9_addLink_113 ?_
    refine W.eq (g2 := F0 m 114 ls [.int ((upd (upd (upd (upd (upd (fun _ => 0) 0 (nI fA)) 1 (nI tA)) 2 (nI (1 + z_5))) 3 (nI (1 + z_39))) 4 (nI (1 + z_44))) 4), .int (nI (1 + z_39)), .int (nI (1 + z_5)), .int (nI tA), .int (nI fA), .ref ob]) (by rw [j_56]) ?_
    refine W.eq (g2 := F0 m 114 ls [.int (nI (1 + z_44)), .int (nI (1 + z_39)), .int (nI (1 + z_5)), .int (nI tA), .int (nI fA), .ref ob]) rfl ?_
    have hFc := m_free (C := (fun q e => TW cy K (some s0) a (((0 : Int32), κr)) τ q e ∨ oW ob (K 0 0) tp q e)) hP.1 hS hA (fun _ _ h => any_in (i := 0) rfl h)
    refine va_calli (va_runV (As := [.int (nI fA), .int (nI tA), .int (nI (1 + z_5)), .int (nI (1 + z_39)), .int (nI (1 + z_44))]) (rest := []) ⟨hx, hb, hml, hown, hts⟩ (c_addLink l dC dI cy K ((some s0)) a (((0 : Int32), κr)) τ ob tp 0 (nI fA) (nI tA) (nI (1 + z_5)) (nI (1 + z_39)) (nI (1 + z_44)) H.size hT h0.2.2.2.2 (b0_nno h0.1 kf) (b0_nno h0.1 kt) (fun h => kne ((nI_eq (by omega) (by omega)).mp h)) (nI_nlt (b := 1) (by omega) (by omega)) (nI_nlt (a := 20) (by omega) (by decide)) (nI_nlt (b := 1) (by omega) (by omega)) (nI_nlt (a := 30) (by omega) (by decide)) (nI_nlt (b := 1) (by omega) (by omega)) (nI_nlt (a := 3) (by omega) (by decide)) (by rw [h0.1.2.2.2.2.1, nI_toInt (by omega)]; omega)) (tp_cwV 5 hts tw_1056 tw_1057 tw_1058 tw_20 tw_1059 rfl rfl (by decide +kernel) ⟨Nat.le_of_ble_eq_true rfl, Nat.le_of_ble_eq_true rfl⟩) ⟨m_blind, va_recv hK (hP.one (e := .inr (8, [.ref (K 0 0), .ref tp])) 0 rfl (Or.inr oW_mem)) (ci := 8) (q0 := 0) rfl rfl, fun U hU hW => ⟨rfl, m_pay hK hP.1 hE (fun _ _ h => any_in (i := 0) rfl h) U hU hW⟩⟩ rfl rfl hl.1 rfl (lv_room (Nat.le_of_ble_eq_true rfl)) dX9_addLink_114 ⟨(by show 0 + 1 + 0 + 0 + 0 + 0 + 0 ≤ 1; omega), (by show 0 + 5 + 0 + 0 + 0 + 0 + 0 ≤ 5; omega)⟩) hS (fun q _ h => hFc q h) hFc (fun r_57 u t H1 locs ht hvm hpo hB hz1 hk1 hS => ?_)
    obtain rfl := hpo
    obtain ⟨f_58, hP1⟩ := hB
    subst f_58
    rw [ht] at hP1
    have hP : ms (dC, dI) vwCl A [(fun q e => TW cy K (some s0) (G_lay a (nI fA) (nI tA) (nI (1 + z_5)) (nI (1 + z_39)) (nI (1 + z_44))) ((0, (((0 : Int32), κr)).2)) τ q e ∨ oW ob (K 0 0) tp q e), cel gp (gO ob bs qf (d + 1 + 1 + 1 + 1) nd nl 0), (mset (rwW cy 24 5 (qf 0) lr lv nl) (qf 0) (arQ (cy 8) 24 (va_up (fun j => if j < nl then some (lr j) else none) nl (some a_1)))), cel (qf 1) (.inl (cy 0, 24, .inl (upd x1 nl ((upd (upd (upd (upd (upd (fun _ => 0) 0 (nI fA)) 1 (nI tA)) 2 (nI (1 + z_5))) 3 (nI (1 + z_39))) 4 (nI (1 + z_44))) 4)))), cel (qf 2) (.inl (cy 0, 24, .inl (upd x2 nl ((-1))))), cel (qf 3) (.inl (cy 0, 24, .inl (upd x3 nl ((upd (upd (upd (upd (upd (fun _ => 0) 0 (nI fA)) 1 (nI tA)) 2 (nI (1 + z_5))) 3 (nI (1 + z_39))) 4 (nI (1 + z_44))) 2)))), cel a_1 (.inl (cy 0, 5, .inl (upd (upd (upd (upd (upd (fun _ => 0) 0 (nI fA)) 1 (nI tA)) 2 (nI (1 + z_5))) 3 (nI (1 + z_39))) 4 (nI (1 + z_44)))))] H1 := hP.call 0 rfl hk1 hFc hP1
    clear hP1 hk1 hFc
    generalize H1 = H at hP hS ⊢
    refine lv_aload_n hx hb dX9_addLink_117 rfl (lv_at hl 1 rfl) ?_
    refine lv_dup hx hb dX9_addLink_118 rfl ?_
    refine va_get (D := (dC, dI)) (ws := [(gp, .inr (9, [.ref ob, .ref bs, .int (nI (d + 1 + 1 + 1 + 1)), .int (nI nd), .int 0, .int 1, .int (nI nl), .ref (qf 0), .ref (qf 1), .ref (qf 2), .ref (qf 3), .ref (qf 4), .ref (qf 5), .ref (qf 6), .ref (qf 7), .ref (qf 8), .int (nI 0), .ref (qf 9), .int 0, .ref (qf 10), .ref (qf 11), .ref (qf 12), .ref (qf 13), .ref (qf 14), .ref (qf 15)]))]) (ci := 9) (v := .int (nI nl)) (C := RX9) (T := TX9) (N := 25) hx hb hts tl_X9 hown hK (hP.one 1 rfl cel_in) 0 rfl rfl 6 (by decide) (hts _ tw_942) (fun _ h9 => h9) rfl dX9_addLink_119 ?_
    refine lv_dup_x1 hx hb dX9_addLink_122 rfl rfl ?_
    refine lv_iconst (v := 1) hx hb dX9_addLink_123 (by decide) ?_
    refine lv_iadd hx hb dX9_addLink_124 ?_
    refine W.eq (g2 := F0 m 125 ls [.int (nI (nl + 1)), .ref gp, .int (nI nl), .int (a 1 0 0)]) (by rw [nI_1]) ?_
    obtain ⟨ws9, k9, hPw, hDw, hk9, -, hbk⟩ := hP.cutc 1 rfl
    refine va_put (D := (dC, dI)) (ci := 9) (v := .int (nI (nl + 1))) (ty := .int) (C := RX9) (T := TX9) (N := 25) hx hb hts tl_X9 tyX9 tyX9_ok nmX9 hown hK hPw hDw hS k9 hk9 rfl 6 (by decide) (hts _ tw_942) (fun _ h9 => h9) rfl (by decide +kernel) rfl rfl (Nat.le_of_ble_eq_true rfl) dX9_addLink_125 (fun H locs hPw hDw hS => ?_)
    have hP : ms (dC, dI) vwCl A [(fun q e => TW cy K (some s0) (G_lay a (nI fA) (nI tA) (nI (1 + z_5)) (nI (1 + z_39)) (nI (1 + z_44))) ((0, (((0 : Int32), κr)).2)) τ q e ∨ oW ob (K 0 0) tp q e), cel gp (gO ob bs qf (d + 1 + 1 + 1 + 1) nd (nl + 1) 0), (mset (rwW cy 24 5 (qf 0) lr lv nl) (qf 0) (arQ (cy 8) 24 (va_up (fun j => if j < nl then some (lr j) else none) nl (some a_1)))), cel (qf 1) (.inl (cy 0, 24, .inl (upd x1 nl ((upd (upd (upd (upd (upd (fun _ => 0) 0 (nI fA)) 1 (nI tA)) 2 (nI (1 + z_5))) 3 (nI (1 + z_39))) 4 (nI (1 + z_44))) 4)))), cel (qf 2) (.inl (cy 0, 24, .inl (upd x2 nl ((-1))))), cel (qf 3) (.inl (cy 0, 24, .inl (upd x3 nl ((upd (upd (upd (upd (upd (fun _ => 0) 0 (nI fA)) 1 (nI tA)) 2 (nI (1 + z_5))) 3 (nI (1 + z_39))) 4 (nI (1 + z_44))) 2)))), cel a_1 (.inl (cy 0, 5, .inl (upd (upd (upd (upd (upd (fun _ => 0) 0 (nI fA)) 1 (nI tA)) 2 (nI (1 + z_5))) 3 (nI (1 + z_39))) 4 (nI (1 + z_44)))))] H := hbk _ _ hPw hDw
    clear hbk hPw hDw hk9
    refine lv_icmp_ne (tgt := 135) hx hb dX9_addLink_128 (by decide) (fun c_59 => absurd h0.1.2.2.2.2.1 c_59) (fun _ => ?_)
    refine lv_iconst (v := 1) hx hb dX9_addLink_131 (by decide) ?_
    refine lv_goto (tgt := 136) hx hb dX9_addLink_132 (by decide) ?_
    have hP := hP.sel [2, 6, 0, 1, 3, 4, 5] rfl (by decide)
    have hP := rw_add hneA hP
    refine W.widen (k := 1) (n := 5) (by show 0 + 1 + 0 + 0 + 0 + 0 + 0 + 0 ≤ 1; omega) (by show 0 + 5 + 0 + 0 + 0 + 0 + 0 + 0 ≤ 5; omega) ?_
    have g_60 : (1 : Int32) = 1 := rfl
    have g_61 : Bld (G_lay a (nI fA) (nI tA) (nI (1 + z_5)) (nI (1 + z_39)) (nI (1 + z_44))) nd (nl + 1) (up2 lv nl (rw5 fA tA (1 + z_5) (1 + z_39) (1 + z_44))) pl 0 fv := Bld.link a nd nl lv pl fv fA tA _ _ _ kB knl kf kt kne (by omega) (by omega) (by omega) (by omega) (by omega) (by omega)
    have hP : ms (dC, dI) vwCl A [(fun q e => TW cy K (some s0) (G_lay a (nI fA) (nI tA) (nI (1 + z_5)) (nI (1 + z_39)) (nI (1 + z_44))) (((0 : Int32), κr)) τ q e ∨ oW ob (K 0 0) tp q e), cel gp (gO ob bs qf (d + 4) nd (nl + 1) 0), rwW cy 24 5 (qf 0) (up2 lr nl a_1) (up2 lv nl (rw5 fA tA (1 + z_5) (1 + z_39) (1 + z_44))) (nl + 1), cel (qf 1) (.inl (cy 0, 24, .inl (upd x1 nl ((upd (upd (upd (upd (upd (fun _ => 0) 0 (nI fA)) 1 (nI tA)) 2 (nI (1 + z_5))) 3 (nI (1 + z_39))) 4 (nI (1 + z_44))) 4)))), cel (qf 2) (.inl (cy 0, 24, .inl (upd x2 nl ((-1))))), cel (qf 3) (.inl (cy 0, 24, .inl (upd x3 nl ((upd (upd (upd (upd (upd (fun _ => 0) 0 (nI fA)) 1 (nI tA)) 2 (nI (1 + z_5))) 3 (nI (1 + z_39))) 4 (nI (1 + z_44))) 2))))] H := hP.sel [1, 2, 0, 3, 4, 5] rfl (by decide)
    exact W.zret (v := 1) hx hb hr rfl (fun t ht hW => ⟨⟨1, 1, rfl, rfl, ⟨(G_lay a (nI fA) (nI tA) (nI (1 + z_5)) (nI (1 + z_39)) (nI (1 + z_44))), (up2 lr nl a_1), (up2 lv nl (rw5 fA tA (1 + z_5) (1 + z_39) (1 + z_44))), (upd x1 nl ((upd (upd (upd (upd (upd (fun _ => 0) 0 (nI fA)) 1 (nI tA)) 2 (nI (1 + z_5))) 3 (nI (1 + z_39))) 4 (nI (1 + z_44))) 4)), (upd x2 nl ((-1))), (upd x3 nl ((upd (upd (upd (upd (upd (fun _ => 0) 0 (nI fA)) 1 (nI tA)) 2 (nI (1 + z_5))) 3 (nI (1 + z_39))) 4 (nI (1 + z_44))) 2)), g_60, g_61, by show ms _ _ _ _ t.heap; rw [ht]; exact hP⟩⟩, hS.F ht⟩) hS.2.2 dX9_addLink_136

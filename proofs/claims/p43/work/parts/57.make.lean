theorem md_ne1 {i n : Nat} (h : i < n) (h3 : 3 ≤ n) : i ≠ (i + 1) % n := by
  by_cases h1 : i + 1 < n
  · rw [Nat.mod_eq_of_lt h1]; omega
  · rw [show i + 1 = n by omega, Nat.mod_self]; omega
theorem md_ne2 {i g n : Nat} (h : i < n) (hg : g < n - 1) : i ≠ (i + 1 + g) % n := by
  by_cases h1 : i + 1 + g < n
  · rw [Nat.mod_eq_of_lt h1]; omega
  · rw [show i + 1 + g = (i + 1 + g - n) + n by omega, Nat.add_mod_right, Nat.mod_eq_of_lt (by omega)]; omega
theorem tw_938 : Cond.fieldLink RX9 108 "TurnpikeLaw$Roads" "nodes" "I" ∈ tp_all := tp_mem 938 (by decide +kernel) rfl
theorem tw_1065 : Cond.methodLink RX9 118 yX8_nodes ∈ tp_all := tp_mem 1065 (by decide +kernel) rfl
theorem tw_1066 : Cond.methodLink RX9 120 yX8_links ∈ tp_all := tp_mem 1066 (by decide +kernel) rfl
theorem tw_1055 : Cond.code yX9_addLink cX9_addLink 4 (some .boolean) ∈ tp_all := tp_mem 1055 (by decide +kernel) rfl
theorem tw_1052 : Cond.methodLink RX9 115 yX9_addLink ∈ tp_all := tp_mem 1052 (by decide +kernel) rfl
theorem tw_1053 : Cond.instanceMethod yX9_addLink ∈ tp_all := tp_mem 1053 (by decide +kernel) rfl
theorem tw_1054 : Cond.selects RX9 yX9_addLink yX9_addLink ∈ tp_all := tp_mem 1054 (by decide +kernel) rfl
theorem tw_1035 : Cond.code yX8_addNode cX8_addNode 1 (some .int) ∈ tp_all := tp_mem 1035 (by decide +kernel) rfl
theorem tw_1032 : Cond.methodLink RX9 111 yX8_addNode ∈ tp_all := tp_mem 1032 (by decide +kernel) rfl
theorem tw_1033 : Cond.instanceMethod yX8_addNode ∈ tp_all := tp_mem 1033 (by decide +kernel) rfl
theorem tw_1034 : Cond.selects RX8 yX8_addNode yX8_addNode ∈ tp_all := tp_mem 1034 (by decide +kernel) rfl
theorem tw_961 : Cond.fieldLink RX9 69 "TurnpikeLaw$Roads" "isOn" "[I" ∈ tp_all := tp_mem 961 (by decide +kernel) rfl
theorem dX9_make_0 : decode cX9_make 0 = .ok (.aload_n 0, 1) := by decide +kernel
theorem dX9_make_1 : decode cX9_make 1 = .ok (.iconst 3, 1) := by decide +kernel
theorem dX9_make_2 : decode cX9_make 2 = .ok (.aload_n 0, 1) := by decide +kernel
theorem dX9_make_3 : decode cX9_make 3 = .ok (.iconst 4, 1) := by decide +kernel
theorem dX9_make_4 : decode cX9_make 4 = .ok (.invokevirtual 97, 3) := by decide +kernel
theorem dX9_make_7 : decode cX9_make 7 = .ok (.iadd, 1) := by decide +kernel
theorem dX9_make_8 : decode cX9_make 8 = .ok (.putfield 108, 3) := by decide +kernel
theorem dX9_make_11 : decode cX9_make 11 = .ok (.iconst 0, 1) := by decide +kernel
theorem dX9_make_12 : decode cX9_make 12 = .ok (.istore_n 1, 1) := by decide +kernel
theorem dX9_make_13 : decode cX9_make 13 = .ok (.iload_n 1, 1) := by decide +kernel
theorem dX9_make_14 : decode cX9_make 14 = .ok (.aload_n 0, 1) := by decide +kernel
theorem dX9_make_15 : decode cX9_make 15 = .ok (.getfield 108, 3) := by decide +kernel
theorem dX9_make_18 : decode cX9_make 18 = .ok (.if_icmp .ge 29, 3) := by decide +kernel
theorem dX9_make_47 : decode cX9_make 47 = .ok (.iconst 0, 1) := by decide +kernel
theorem dX9_make_48 : decode cX9_make 48 = .ok (.istore_n 1, 1) := by decide +kernel
theorem dX9_make_49 : decode cX9_make 49 = .ok (.iload_n 1, 1) := by decide +kernel
theorem dX9_make_50 : decode cX9_make 50 = .ok (.aload_n 0, 1) := by decide +kernel
theorem dX9_make_51 : decode cX9_make 51 = .ok (.getfield 108, 3) := by decide +kernel
theorem dX9_make_54 : decode cX9_make 54 = .ok (.if_icmp .ge 27, 3) := by decide +kernel
theorem dX9_make_81 : decode cX9_make 81 = .ok (.iconst 1, 1) := by decide +kernel
theorem dX9_make_82 : decode cX9_make 82 = .ok (.aload_n 0, 1) := by decide +kernel
theorem dX9_make_83 : decode cX9_make 83 = .ok (.bipush 6, 2) := by decide +kernel
theorem dX9_make_85 : decode cX9_make 85 = .ok (.invokevirtual 97, 3) := by decide +kernel
theorem dX9_make_88 : decode cX9_make 88 = .ok (.iadd, 1) := by decide +kernel
theorem dX9_make_89 : decode cX9_make 89 = .ok (.istore_n 1, 1) := by decide +kernel
theorem dX9_make_90 : decode cX9_make 90 = .ok (.iload_n 1, 1) := by decide +kernel
theorem dX9_make_91 : decode cX9_make 91 = .ok (.ifCond .le 47, 3) := by decide +kernel
theorem dX9_make_138 : decode cX9_make 138 = .ok (.aload_n 0, 1) := by decide +kernel
theorem dX9_make_139 : decode cX9_make 139 = .ok (.getfield 10, 3) := by decide +kernel
theorem dX9_make_142 : decode cX9_make 142 = .ok (.invokevirtual 118, 3) := by decide +kernel
theorem dX9_make_145 : decode cX9_make 145 = .ok (.aload_n 0, 1) := by decide +kernel
theorem dX9_make_146 : decode cX9_make 146 = .ok (.getfield 108, 3) := by decide +kernel
theorem dX9_make_149 : decode cX9_make 149 = .ok (.if_icmp .ne 21, 3) := by decide +kernel
theorem dX9_make_152 : decode cX9_make 152 = .ok (.aload_n 0, 1) := by decide +kernel
theorem dX9_make_153 : decode cX9_make 153 = .ok (.getfield 10, 3) := by decide +kernel
theorem dX9_make_156 : decode cX9_make 156 = .ok (.invokevirtual 120, 3) := by decide +kernel
theorem dX9_make_159 : decode cX9_make 159 = .ok (.aload_n 0, 1) := by decide +kernel
theorem dX9_make_160 : decode cX9_make 160 = .ok (.getfield 101, 3) := by decide +kernel
theorem dX9_make_163 : decode cX9_make 163 = .ok (.if_icmp .ne 7, 3) := by decide +kernel
theorem dX9_make_166 : decode cX9_make 166 = .ok (.iconst 1, 1) := by decide +kernel
theorem dX9_make_167 : decode cX9_make 167 = .ok (.goto 4, 3) := by decide +kernel
theorem dX9_make_171 : decode cX9_make 171 = .ok (.ireturn, 1) := by decide +kernel
theorem dX9_make_94 : decode cX9_make 94 = .ok (.aload_n 0, 1) := by decide +kernel
theorem dX9_make_95 : decode cX9_make 95 = .ok (.aload_n 0, 1) := by decide +kernel
theorem dX9_make_96 : decode cX9_make 96 = .ok (.getfield 108, 3) := by decide +kernel
theorem dX9_make_99 : decode cX9_make 99 = .ok (.invokevirtual 97, 3) := by decide +kernel
theorem dX9_make_102 : decode cX9_make 102 = .ok (.istore_n 2, 1) := by decide +kernel
theorem dX9_make_103 : decode cX9_make 103 = .ok (.aload_n 0, 1) := by decide +kernel
theorem dX9_make_104 : decode cX9_make 104 = .ok (.iload_n 2, 1) := by decide +kernel
theorem dX9_make_105 : decode cX9_make 105 = .ok (.iload_n 2, 1) := by decide +kernel
theorem dX9_make_106 : decode cX9_make 106 = .ok (.iconst 1, 1) := by decide +kernel
theorem dX9_make_107 : decode cX9_make 107 = .ok (.iadd, 1) := by decide +kernel
theorem dX9_make_108 : decode cX9_make 108 = .ok (.aload_n 0, 1) := by decide +kernel
theorem dX9_make_109 : decode cX9_make 109 = .ok (.aload_n 0, 1) := by decide +kernel
theorem dX9_make_110 : decode cX9_make 110 = .ok (.getfield 108, 3) := by decide +kernel
theorem dX9_make_113 : decode cX9_make 113 = .ok (.iconst 1, 1) := by decide +kernel
theorem dX9_make_114 : decode cX9_make 114 = .ok (.isub, 1) := by decide +kernel
theorem dX9_make_115 : decode cX9_make 115 = .ok (.invokevirtual 97, 3) := by decide +kernel
theorem dX9_make_118 : decode cX9_make 118 = .ok (.iadd, 1) := by decide +kernel
theorem dX9_make_119 : decode cX9_make 119 = .ok (.aload_n 0, 1) := by decide +kernel
theorem dX9_make_120 : decode cX9_make 120 = .ok (.getfield 108, 3) := by decide +kernel
theorem dX9_make_123 : decode cX9_make 123 = .ok (.irem, 1) := by decide +kernel
theorem dX9_make_124 : decode cX9_make 124 = .ok (.invokevirtual 115, 3) := by decide +kernel
theorem dX9_make_127 : decode cX9_make 127 = .ok (.ifCond .ne 5, 3) := by decide +kernel
theorem dX9_make_132 : decode cX9_make 132 = .ok (.iinc 1 (-1), 3) := by decide +kernel
theorem dX9_make_135 : decode cX9_make 135 = .ok (.goto (-45), 3) := by decide +kernel
theorem dX9_make_57 : decode cX9_make 57 = .ok (.aload_n 0, 1) := by decide +kernel
theorem dX9_make_58 : decode cX9_make 58 = .ok (.iload_n 1, 1) := by decide +kernel
theorem dX9_make_59 : decode cX9_make 59 = .ok (.iload_n 1, 1) := by decide +kernel
theorem dX9_make_60 : decode cX9_make 60 = .ok (.iconst 1, 1) := by decide +kernel
theorem dX9_make_61 : decode cX9_make 61 = .ok (.iadd, 1) := by decide +kernel
theorem dX9_make_62 : decode cX9_make 62 = .ok (.aload_n 0, 1) := by decide +kernel
theorem dX9_make_63 : decode cX9_make 63 = .ok (.getfield 108, 3) := by decide +kernel
theorem dX9_make_66 : decode cX9_make 66 = .ok (.irem, 1) := by decide +kernel
theorem dX9_make_67 : decode cX9_make 67 = .ok (.invokevirtual 115, 3) := by decide +kernel
theorem dX9_make_70 : decode cX9_make 70 = .ok (.ifCond .ne 5, 3) := by decide +kernel
theorem dX9_make_75 : decode cX9_make 75 = .ok (.iinc 1 1, 3) := by decide +kernel
theorem dX9_make_78 : decode cX9_make 78 = .ok (.goto (-29), 3) := by decide +kernel
theorem dX9_make_21 : decode cX9_make 21 = .ok (.aload_n 0, 1) := by decide +kernel
theorem dX9_make_22 : decode cX9_make 22 = .ok (.getfield 10, 3) := by decide +kernel
theorem dX9_make_25 : decode cX9_make 25 = .ok (.invokevirtual 111, 3) := by decide +kernel
theorem dX9_make_28 : decode cX9_make 28 = .ok (.iload_n 1, 1) := by decide +kernel
theorem dX9_make_29 : decode cX9_make 29 = .ok (.if_icmp .eq 5, 3) := by decide +kernel
theorem dX9_make_34 : decode cX9_make 34 = .ok (.aload_n 0, 1) := by decide +kernel
theorem dX9_make_35 : decode cX9_make 35 = .ok (.getfield 69, 3) := by decide +kernel
theorem dX9_make_38 : decode cX9_make 38 = .ok (.iload_n 1, 1) := by decide +kernel
theorem dX9_make_39 : decode cX9_make 39 = .ok (.iconst (-1), 1) := by decide +kernel
theorem dX9_make_40 : decode cX9_make 40 = .ok (.iastore, 1) := by decide +kernel
theorem dX9_make_41 : decode cX9_make 41 = .ok (.iinc 1 1, 3) := by decide +kernel
theorem dX9_make_44 : decode cX9_make 44 = .ok (.goto (-31), 3) := by decide +kernel
set_option maxRecDepth 100000 in
set_option maxHeartbeats 4000000 in
/-- TurnpikeLaw.Roads.make -/
theorem c_law_make (l : Launch) (dC : Nat → ClassId) (dI : Nat → Nat → Nat) (cy : Nat → ClassId) (bs Ls : Nat) (xs : Nat → Int32) (gp : Nat) (ob : Nat) (qf : Nat → Nat) (d : Nat) (K : Lay) (s0 : Nat) (tp : Nat) (a : St) (κr : Nat → Nat → Int32) (τ : Tau) (lr : Nat → Nat) (lv : Tb) (pl : Nat → Nat) (fv : Tb) (x1 : Nat → Int32) (x2 : Nat → Int32) (x3 : Nat → Int32) (x4 : Nat → Int32) (sz : Nat) (hT : TL K (some s0) τ) (kpl : ∀ n, pl n = 0) (kd : d < 800000) : Met l yX9_make (tp_w yX9_make cX9_make 3 (some .boolean)) ({ frames := 4, cells := 12, slots := 60, locals := 94 }) (va_Pc [.ref gp] (gPre dC dI cy bs Ls xs [(fun q e => TW cy K (some s0) St0 (((0 : Int32), κr)) τ q e ∨ oW ob (K 0 0) tp q e), cel gp (gO ob bs qf d 0 0 0), rwW cy 24 5 (qf 0) lr lv 0, cel (qf 1) (.inl (cy 0, 24, .inl (x1))), cel (qf 2) (.inl (cy 0, 24, .inl (x2))), cel (qf 3) (.inl (cy 0, 24, .inl (x3))), cel (qf 14) (.inl (cy 0, 12, .inl (x4)))] sz)) (va_Qi (fun (r u : Int32) => r = u) (fun (u : Int32) (t : State) => ∃ (a2 : St), ∃ (nd : Nat), ∃ (nl : Nat), ∃ (d2 : Nat), ∃ (lr2 : Nat → Nat), ∃ (lv2 : Tb), ∃ (y1 : Nat → Int32), ∃ (y2 : Nat → Int32), ∃ (y3 : Nat → Int32), ∃ (y4 : Nat → Int32), (u = 1) ∧ (Bld a2 nd nl lv2 pl 0 fv) ∧ (3 ≤ nd ∧ nd ≤ 6) ∧ (nd ≤ nl ∧ nl ≤ 12) ∧ (d2 ≤ d + 100) ∧ ms (dC, dI) vwCl (mA (anyP [(fun q e => TW cy K (some s0) St0 (((0 : Int32), κr)) τ q e ∨ oW ob (K 0 0) tp q e), cel gp (gO ob bs qf d 0 0 0), rwW cy 24 5 (qf 0) lr lv 0, cel (qf 1) (.inl (cy 0, 24, .inl (x1))), cel (qf 2) (.inl (cy 0, 24, .inl (x2))), cel (qf 3) (.inl (cy 0, 24, .inl (x3))), cel (qf 14) (.inl (cy 0, 12, .inl (x4)))]) sz) [(fun q e => TW cy K (some s0) a2 (((0 : Int32), κr)) τ q e ∨ oW ob (K 0 0) tp q e), cel gp (gO ob bs qf d2 nd nl 0), rwW cy 24 5 (qf 0) lr2 lv2 nl, cel (qf 1) (.inl (cy 0, 24, .inl (y1))), cel (qf 2) (.inl (cy 0, 24, .inl (y2))), cel (qf 3) (.inl (cy 0, 24, .inl (y3))), cel (qf 14) (.inl (cy 0, 12, .inl (y4)))] t.heap) (mA (anyP [(fun q e => TW cy K (some s0) St0 (((0 : Int32), κr)) τ q e ∨ oW ob (K 0 0) tp q e), cel gp (gO ob bs qf d 0 0 0), rwW cy 24 5 (qf 0) lr lv 0, cel (qf 1) (.inl (cy 0, 24, .inl (x1))), cel (qf 2) (.inl (cy 0, 24, .inl (x2))), cel (qf 3) (.inl (cy 0, 24, .inl (x3))), cel (qf 14) (.inl (cy 0, 12, .inl (x4)))]) sz)) (12) (60) (mA (anyP [(fun q e => TW cy K (some s0) St0 (((0 : Int32), κr)) τ q e ∨ oW ob (K 0 0) tp q e), cel gp (gO ob bs qf d 0 0 0), rwW cy 24 5 (qf 0) lr lv 0, cel (qf 1) (.inl (cy 0, 24, .inl (x1))), cel (qf 2) (.inl (cy 0, 24, .inl (x2))), cel (qf 3) (.inl (cy 0, 24, .inl (x3))), cel (qf 14) (.inl (cy 0, 12, .inl (x4)))]) sz) := by
  refine Met.ofW (cc := cX9_make) (maxL := 3) (ret := (some .boolean)) (by decide) rfl ?_
  intro p e s m args below meth c s₁ B hml hv
  obtain ⟨rfl, hsz, hP, hK, hE, hX, hbl, hbL, hbn⟩ := hv
  have hx := B.exec
  have hb := B.bytes
  have hr := B.returns
  have hts0 := atoms_spec (ws := tp_w yX9_make cX9_make 3 (some .boolean)) B.pre
  have hts : ∀ w ∈ tp_all, w.before _ s = true := fun w h => hts0 w (List.mem_cons_of_mem _ h)
  have hown : s.vm.findClass RX9 = some m.cls := findClass_of_methodNamed B.named
  have hlocks := B.notSynchronized
  subst hsz
  have hP := hP.self s.heap.size
  have hbA : ¬ mA (anyP [(fun q e => TW cy K (some s0) St0 (((0 : Int32), κr)) τ q e ∨ oW ob (K 0 0) tp q e), cel gp (gO ob bs qf d 0 0 0), rwW cy 24 5 (qf 0) lr lv 0, cel (qf 1) (.inl (cy 0, 24, .inl (x1))), cel (qf 2) (.inl (cy 0, 24, .inl (x2))), cel (qf 3) (.inl (cy 0, 24, .inl (x3))), cel (qf 14) (.inl (cy 0, 12, .inl (x4)))]) s.heap.size bs := by
    rintro (⟨e9, he⟩ | h9)
    · exact hbn e9 he
    · omega
  generalize hAe : mA (anyP [(fun q e => TW cy K (some s0) St0 (((0 : Int32), κr)) τ q e ∨ oW ob (K 0 0) tp q e), cel gp (gO ob bs qf d 0 0 0), rwW cy 24 5 (qf 0) lr lv 0, cel (qf 1) (.inl (cy 0, 24, .inl (x1))), cel (qf 2) (.inl (cy 0, 24, .inl (x2))), cel (qf 3) (.inl (cy 0, 24, .inl (x3))), cel (qf 14) (.inl (cy 0, 12, .inl (x4)))]) s.heap.size = A at hP hbA ⊢
  have hA : ∀ q : Nat, s.heap.size ≤ q → A q := fun q h => by rw [← hAe]; exact Or.inr h
  have hS : va_S A s.heap s.heap [] := va_S.rf
  have hl9 := lv_entry ([.ref gp]) (n := 3) (Nat.le_of_ble_eq_true rfl)
  rw [lg_entry_eq]
  generalize (lg_sl ([.ref gp]) ++ List.replicate (3 - (lg_sl ([.ref gp])).length) Slot.unset).toArray = ls at hl9 ⊢
  have hl : lv_has ls 3 [(0, .ref gp)] := hl9
  refine lv_aload_n hx hb dX9_make_0 rfl (lv_at hl 0 rfl) ?_
  refine lv_iconst (v := 3) hx hb dX9_make_1 (by decide) ?_
  refine lv_aload_n hx hb dX9_make_2 rfl (lv_at hl 0 rfl) ?_
  refine lv_iconst (v := 4) hx hb dX9_make_3 (by decide) ?_
  have hPc : ms (dC, dI) vwCl A ([cel gp (gO ob bs qf d 0 0 0)] ++ [(fun q e => TW cy K (some s0) St0 (((0 : Int32), κr)) τ q e ∨ oW ob (K 0 0) tp q e), rwW cy 24 5 (qf 0) lr lv 0, cel (qf 1) (.inl (cy 0, 24, .inl (x1))), cel (qf 2) (.inl (cy 0, 24, .inl (x2))), cel (qf 3) (.inl (cy 0, 24, .inl (x3))), cel (qf 14) (.inl (cy 0, 12, .inl (x4)))]) s.heap := hP.sel [1, 0, 2, 3, 4, 5, 6] rfl (by decide)
  have hFc := g_free hPc hS hA
  refine va_calli (va_runV (As := [.int 4]) (rest := [.int 3, .ref gp]) ⟨hx, hb, hml, hown, hts⟩ (c_draw l dC dI cy bs Ls xs gp ob qf d 0 0 0 4 s.heap.size (by first | assumption | omega) (by first | assumption | omega) (by first | assumption | omega)) (tp_cwV 1 hts tw_1031 tw_1016 tw_1017 tw_19 tw_1018 rfl rfl (by decide +kernel) ⟨Nat.le_of_ble_eq_true rfl, Nat.le_of_ble_eq_true rfl⟩) ⟨g_blind, va_recv hK (hP.one (e := .inr (9, [.ref ob, .ref bs, .int (nI d), .int (nI 0), .int 0, .int 1, .int (nI 0), .ref (qf 0), .ref (qf 1), .ref (qf 2), .ref (qf 3), .ref (qf 4), .ref (qf 5), .ref (qf 6), .ref (qf 7), .ref (qf 8), .int (nI 0), .ref (qf 9), .int 0, .ref (qf 10), .ref (qf 11), .ref (qf 12), .ref (qf 13), .ref (qf 14), .ref (qf 15)])) 1 rfl cel_in) (ci := 9) (q0 := 0) rfl rfl, fun U hU hW => ⟨rfl, g_pay hK hPc hE hX hbl hbL hbA hS U hU hW⟩⟩ rfl rfl hl.1 rfl (lv_room (Nat.le_of_ble_eq_true rfl)) dX9_make_4 ⟨(by show 0 + 0 ≤ 12; omega), (by show 0 + 0 ≤ 60; omega)⟩) hS (fun q _ h => hFc q h) hFc (fun r_1 u t H1 locs ht hvm hpo hB hz1 hk1 hS => ?_)
  obtain rfl := hpo
  obtain ⟨z_2, f_3, f_4, hP1⟩ := hB
  rw [ht] at hP1
  have hPj := hPc.calls hk1 hFc hP1
  have hP : ms (dC, dI) vwCl A [(fun q e => TW cy K (some s0) St0 (((0 : Int32), κr)) τ q e ∨ oW ob (K 0 0) tp q e), cel gp (gO ob bs qf (d + 1) 0 0 0), rwW cy 24 5 (qf 0) lr lv 0, cel (qf 1) (.inl (cy 0, 24, .inl (x1))), cel (qf 2) (.inl (cy 0, 24, .inl (x2))), cel (qf 3) (.inl (cy 0, 24, .inl (x3))), cel (qf 14) (.inl (cy 0, 12, .inl (x4)))] H1 := hPj.sel [1, 0, 2, 3, 4, 5, 6] rfl (by decide)
  clear hPj hPc hP1 hk1 hFc
  generalize H1 = H at hP hS ⊢
  subst f_4
  have qA := f_3
  refine lv_iadd hx hb dX9_make_7 ?_
  refine W.eq (g2 := F0 m 8 ls [.int (nI (3 + z_2)), .ref gp]) (by rw [show (3 : Int32) = nI 3 from rfl, nI_add]) ?_
  obtain ⟨ws9, k9, hPw, hDw, hk9, -, hbk⟩ := hP.cutc 1 rfl
  refine va_put (D := (dC, dI)) (ci := 9) (v := .int (nI (3 + z_2))) (ty := .int) (C := RX9) (T := TX9) (N := 25) hx hb hts tl_X9 tyX9 tyX9_ok nmX9 hown hK hPw hDw hS k9 hk9 rfl 3 (by decide) (hts _ tw_938) (fun _ h9 => h9) rfl (by decide +kernel) rfl rfl (Nat.le_of_ble_eq_true rfl) dX9_make_8 (fun H locs hPw hDw hS => ?_)
  have hP : ms (dC, dI) vwCl A [(fun q e => TW cy K (some s0) St0 (((0 : Int32), κr)) τ q e ∨ oW ob (K 0 0) tp q e), cel gp (gO ob bs qf (d + 1) (3 + z_2) 0 0), rwW cy 24 5 (qf 0) lr lv 0, cel (qf 1) (.inl (cy 0, 24, .inl (x1))), cel (qf 2) (.inl (cy 0, 24, .inl (x2))), cel (qf 3) (.inl (cy 0, 24, .inl (x3))), cel (qf 14) (.inl (cy 0, 12, .inl (x4)))] H := hbk _ _ hPw hDw
  clear hbk hPw hDw hk9
  refine lv_iconst (v := 0) hx hb dX9_make_11 (by decide) ?_
  refine lv_istore_n (lv' := [(1, .int 0), (0, .ref gp)]) hx hb dX9_make_12 rfl hl (by decide) rfl (fun ls hl => ?_)
  obtain ⟨nd, end9⟩ : ∃ y : Nat, y = 3 + z_2 := ⟨_, rfl⟩
  rw [← end9] at hP
  refine W.widen (k := (fun i => 0 + 0 + 0 * i) 0) (n := (fun i => 0 + 0 + 0 * i) 0) (Nat.le_refl _) (Nat.le_refl _) ?_
  refine tp_for (σ := Unit) nd (fun i => 0 + 0 + 0 * i) (fun i => 0 + 0 + 0 * i) (fun (i : Nat) (_ : Unit) (H : Heap) (locs : List Loc) (ls : Array Slot) => ∃ (a1 : St), ∃ (w4 : Nat → Int32), (Bld a1 i 0 lv pl 0 fv) ∧ ms (dC, dI) vwCl A [(fun q e => TW cy K (some s0) a1 (((0 : Int32), κr)) τ q e ∨ oW ob (K 0 0) tp q e), cel gp (gO ob bs qf (d + 1) nd 0 0), rwW cy 24 5 (qf 0) lr lv 0, cel (qf 1) (.inl (cy 0, 24, .inl (x1))), cel (qf 2) (.inl (cy 0, 24, .inl (x2))), cel (qf 3) (.inl (cy 0, 24, .inl (x3))), cel (qf 14) (.inl (cy 0, 12, .inl (w4)))] H ∧ va_S A s.heap H locs ∧ lv_has ls 3 [(1, .int (nI i)), (0, .ref gp)]) ?_ ?_ nd 0 (Nat.zero_add _) () _ _ ls ⟨St0, x4, Bld.zero kpl, hP, hS, lv_sub hl [0, 1] rfl⟩
  · rintro _ H locs ls ⟨a1, w4, k0, hP, hS, hl⟩
    have hl : lv_has ls 3 [(1, .int (nI nd)), (0, .ref gp)] := hl
    show W _ _ _ _ _ _ _ _ _ _ _ _ (0 + 0 + 0 * nd) (0 + 0 + 0 * nd) _ _
    refine lv_iload_n hx hb dX9_make_13 rfl (lv_at hl 0 rfl) ?_
    refine lv_aload_n hx hb dX9_make_14 rfl (lv_at hl 1 rfl) ?_
    refine va_get (D := (dC, dI)) (ws := [(gp, .inr (9, [.ref ob, .ref bs, .int (nI (d + 1)), .int (nI nd), .int 0, .int 1, .int (nI 0), .ref (qf 0), .ref (qf 1), .ref (qf 2), .ref (qf 3), .ref (qf 4), .ref (qf 5), .ref (qf 6), .ref (qf 7), .ref (qf 8), .int (nI 0), .ref (qf 9), .int 0, .ref (qf 10), .ref (qf 11), .ref (qf 12), .ref (qf 13), .ref (qf 14), .ref (qf 15)]))]) (ci := 9) (v := .int (nI nd)) (C := RX9) (T := TX9) (N := 25) hx hb hts tl_X9 hown hK (hP.one 1 rfl cel_in) 0 rfl rfl 3 (by decide) (hts _ tw_938) (fun _ h9 => h9) rfl dX9_make_15 ?_
    refine lv_icmp_ge (tgt := 47) hx hb dX9_make_18 (by decide) (fun _ => ?_) (fun c_5 => absurd (Int32.le_refl _) c_5)
    refine lv_iconst (v := 0) hx hb dX9_make_47 (by decide) ?_
    refine lv_istore_n (lv' := [(1, .int 0), (0, .ref gp)]) hx hb dX9_make_48 rfl hl (by decide) rfl (fun ls hl => ?_)
    refine W.widen (k := (fun i => 0 + 0 + 0 * nd + 1 * i) 0) (n := (fun i => 0 + 0 + 0 * nd + 5 * i) 0) (Nat.le_refl _) (Nat.le_refl _) ?_
    refine tp_for (σ := Unit) nd (fun i => 0 + 0 + 0 * nd + 1 * i) (fun i => 0 + 0 + 0 * nd + 5 * i) (fun (i : Nat) (_ : Unit) (H : Heap) (locs : List Loc) (ls : Array Slot) => ∃ (a3 : St), ∃ (lv1 : Tb), ∃ (lr1 : Nat → Nat), ∃ (v1 : Nat → Int32), ∃ (v2 : Nat → Int32), ∃ (v3 : Nat → Int32), ∃ (d3 : Nat), (Bld a3 nd i lv1 pl 0 fv) ∧ (d3 ≤ d + 1 + 4 * i) ∧ ms (dC, dI) vwCl A [(fun q e => TW cy K (some s0) a3 (((0 : Int32), κr)) τ q e ∨ oW ob (K 0 0) tp q e), cel gp (gO ob bs qf d3 nd i 0), rwW cy 24 5 (qf 0) lr1 lv1 i, cel (qf 1) (.inl (cy 0, 24, .inl (v1))), cel (qf 2) (.inl (cy 0, 24, .inl (v2))), cel (qf 3) (.inl (cy 0, 24, .inl (v3))), cel (qf 14) (.inl (cy 0, 12, .inl (w4)))] H ∧ va_S A s.heap H locs ∧ lv_has ls 3 [(1, .int (nI i)), (0, .ref gp)]) ?_ ?_ nd 0 (Nat.zero_add _) () _ _ ls ⟨a1, lv, lr, x1, x2, x3, (d + 1), k0, (by omega), hP, hS, lv_sub hl [0, 1] rfl⟩
    · rintro _ H locs ls ⟨a3, lv1, lr1, v1, v2, v3, d3, k0, k1, hP, hS, hl⟩
      have hl : lv_has ls 3 [(1, .int (nI nd)), (0, .ref gp)] := hl
      show W _ _ _ _ _ _ _ _ _ _ _ _ (0 + 0 + 0 * nd + 1 * nd) (0 + 0 + 0 * nd + 5 * nd) _ _
      refine lv_iload_n hx hb dX9_make_49 rfl (lv_at hl 0 rfl) ?_
      refine lv_aload_n hx hb dX9_make_50 rfl (lv_at hl 1 rfl) ?_
      refine va_get (D := (dC, dI)) (ws := [(gp, .inr (9, [.ref ob, .ref bs, .int (nI d3), .int (nI nd), .int 0, .int 1, .int (nI nd), .ref (qf 0), .ref (qf 1), .ref (qf 2), .ref (qf 3), .ref (qf 4), .ref (qf 5), .ref (qf 6), .ref (qf 7), .ref (qf 8), .int (nI 0), .ref (qf 9), .int 0, .ref (qf 10), .ref (qf 11), .ref (qf 12), .ref (qf 13), .ref (qf 14), .ref (qf 15)]))]) (ci := 9) (v := .int (nI nd)) (C := RX9) (T := TX9) (N := 25) hx hb hts tl_X9 hown hK (hP.one 1 rfl cel_in) 0 rfl rfl 3 (by decide) (hts _ tw_938) (fun _ h9 => h9) rfl dX9_make_51 ?_
      refine lv_icmp_ge (tgt := 81) hx hb dX9_make_54 (by decide) (fun _ => ?_) (fun c_6 => absurd (Int32.le_refl _) c_6)
      refine lv_iconst (v := 1) hx hb dX9_make_81 (by decide) ?_
      refine lv_aload_n hx hb dX9_make_82 rfl (lv_at hl 1 rfl) ?_
      refine lv_bipush (v := 6) hx hb dX9_make_83 (by decide) ?_
      have hPc : ms (dC, dI) vwCl A ([cel gp (gO ob bs qf d3 nd nd 0)] ++ [(fun q e => TW cy K (some s0) a3 (((0 : Int32), κr)) τ q e ∨ oW ob (K 0 0) tp q e), rwW cy 24 5 (qf 0) lr1 lv1 nd, cel (qf 1) (.inl (cy 0, 24, .inl (v1))), cel (qf 2) (.inl (cy 0, 24, .inl (v2))), cel (qf 3) (.inl (cy 0, 24, .inl (v3))), cel (qf 14) (.inl (cy 0, 12, .inl (w4)))]) H := hP.sel [1, 0, 2, 3, 4, 5, 6] rfl (by decide)
      have hFc := g_free hPc hS hA
      refine va_calli (va_runV (As := [.int 6]) (rest := [.int 1]) ⟨hx, hb, hml, hown, hts⟩ (c_draw l dC dI cy bs Ls xs gp ob qf d3 nd nd 0 6 H.size (by first | assumption | omega) (by first | assumption | omega) (by first | assumption | omega)) (tp_cwV 1 hts tw_1031 tw_1016 tw_1017 tw_19 tw_1018 rfl rfl (by decide +kernel) ⟨Nat.le_of_ble_eq_true rfl, Nat.le_of_ble_eq_true rfl⟩) ⟨g_blind, va_recv hK (hP.one (e := .inr (9, [.ref ob, .ref bs, .int (nI d3), .int (nI nd), .int 0, .int 1, .int (nI nd), .ref (qf 0), .ref (qf 1), .ref (qf 2), .ref (qf 3), .ref (qf 4), .ref (qf 5), .ref (qf 6), .ref (qf 7), .ref (qf 8), .int (nI 0), .ref (qf 9), .int 0, .ref (qf 10), .ref (qf 11), .ref (qf 12), .ref (qf 13), .ref (qf 14), .ref (qf 15)])) 1 rfl cel_in) (ci := 9) (q0 := 0) rfl rfl, fun U hU hW => ⟨rfl, g_pay hK hPc hE hX hbl hbL hbA hS U hU hW⟩⟩ rfl rfl hl.1 rfl (lv_room (Nat.le_of_ble_eq_true rfl)) dX9_make_85 ⟨(by show 0 + 0 + 0 * nd + 1 * nd + 0 ≤ 12; omega), (by show 0 + 0 + 0 * nd + 5 * nd + 0 ≤ 60; omega)⟩) hS (fun q _ h => hFc q h) hFc (fun r_7 u t H1 locs ht hvm hpo hB hz1 hk1 hS => ?_)
      obtain rfl := hpo
      obtain ⟨z_8, f_9, f_10, hP1⟩ := hB
      rw [ht] at hP1
      have hPj := hPc.calls hk1 hFc hP1
      have hP : ms (dC, dI) vwCl A [(fun q e => TW cy K (some s0) a3 (((0 : Int32), κr)) τ q e ∨ oW ob (K 0 0) tp q e), cel gp (gO ob bs qf (d3 + 1) nd nd 0), rwW cy 24 5 (qf 0) lr1 lv1 nd, cel (qf 1) (.inl (cy 0, 24, .inl (v1))), cel (qf 2) (.inl (cy 0, 24, .inl (v2))), cel (qf 3) (.inl (cy 0, 24, .inl (v3))), cel (qf 14) (.inl (cy 0, 12, .inl (w4)))] H1 := hPj.sel [1, 0, 2, 3, 4, 5, 6] rfl (by decide)
      clear hPj hPc hP1 hk1 hFc
      generalize H1 = H at hP hS ⊢
      subst f_10
      have qK := f_9
      refine lv_iadd hx hb dX9_make_88 ?_
      refine W.eq (g2 := F0 m 89 ls [.int (nI (1 + z_8))]) (by rw [show (1 : Int32) = nI 1 from rfl, nI_add]) ?_
      refine lv_istore_n (lv' := [(1, .int (nI (1 + z_8))), (0, .ref gp)]) hx hb dX9_make_89 rfl hl (by decide) rfl (fun ls hl => ?_)
      obtain ⟨Kn, eK9⟩ : ∃ y : Nat, y = 1 + z_8 := ⟨_, rfl⟩
      rw [← eK9] at hl
      refine W.widen (k := (fun i => 0 + 0 + 0 * nd + 1 * nd + 0 + 1 * i) 0) (n := (fun i => 0 + 0 + 0 * nd + 5 * nd + 0 + 5 * i) 0) (Nat.le_refl _) (Nat.le_refl _) ?_
      refine tp_for (σ := Unit) Kn (fun i => 0 + 0 + 0 * nd + 1 * nd + 0 + 1 * i) (fun i => 0 + 0 + 0 * nd + 5 * nd + 0 + 5 * i) (fun (i : Nat) (_ : Unit) (H : Heap) (locs : List Loc) (ls : Array Slot) => ∃ (a4 : St), ∃ (lv4 : Tb), ∃ (lr4 : Nat → Nat), ∃ (u1 : Nat → Int32), ∃ (u2 : Nat → Int32), ∃ (u3 : Nat → Int32), ∃ (d4 : Nat), (Bld a4 nd (nd + i) lv4 pl 0 fv) ∧ (d4 ≤ d + 40 + 6 * i) ∧ ms (dC, dI) vwCl A [(fun q e => TW cy K (some s0) a4 (((0 : Int32), κr)) τ q e ∨ oW ob (K 0 0) tp q e), cel gp (gO ob bs qf d4 nd (nd + i) 0), rwW cy 24 5 (qf 0) lr4 lv4 (nd + i), cel (qf 1) (.inl (cy 0, 24, .inl (u1))), cel (qf 2) (.inl (cy 0, 24, .inl (u2))), cel (qf 3) (.inl (cy 0, 24, .inl (u3))), cel (qf 14) (.inl (cy 0, 12, .inl (w4)))] H ∧ va_S A s.heap H locs ∧ lv_has ls 3 [(1, .int (nI (Kn - i))), (0, .ref gp)]) ?_ ?_ Kn 0 (Nat.zero_add _) () _ _ ls ⟨a3, lv1, lr1, v1, v2, v3, (d3 + 1), k0, (by omega), hP, hS, lv_sub hl [0, 1] rfl⟩
      · rintro _ H locs ls ⟨a4, lv4, lr4, u1, u2, u3, d4, k0, k1, hP, hS, hl⟩
        have hl : lv_has ls 3 [(1, .int (nI (Kn - Kn))), (0, .ref gp)] := hl
        show W _ _ _ _ _ _ _ _ _ _ _ _ (0 + 0 + 0 * nd + 1 * nd + 0 + 1 * Kn) (0 + 0 + 0 * nd + 5 * nd + 0 + 5 * Kn) _ _
        refine lv_iload_n hx hb dX9_make_90 rfl (lv_at hl 0 rfl) ?_
        refine lv_if_le (tgt := 138) hx hb dX9_make_91 (by decide) (fun _ => ?_) (fun c_11 => absurd (by rw [Nat.sub_self]; decide) c_11)
        refine lv_aload_n hx hb dX9_make_138 rfl (lv_at hl 1 rfl) ?_
        refine va_get (D := (dC, dI)) (ws := [(gp, .inr (9, [.ref ob, .ref bs, .int (nI d4), .int (nI nd), .int 0, .int 1, .int (nI (nd + Kn)), .ref (qf 0), .ref (qf 1), .ref (qf 2), .ref (qf 3), .ref (qf 4), .ref (qf 5), .ref (qf 6), .ref (qf 7), .ref (qf 8), .int (nI 0), .ref (qf 9), .int 0, .ref (qf 10), .ref (qf 11), .ref (qf 12), .ref (qf 13), .ref (qf 14), .ref (qf 15)]))]) (ci := 9) (v := .ref ob) (C := RX9) (T := TX9) (N := 25) hx hb hts tl_X9 hown hK (hP.one 1 rfl cel_in) 0 rfl rfl 0 (by decide) (hts _ tw_933) (fun _ h9 => h9) rfl dX9_make_139 ?_
        have hFc := m_free (C := (fun q e => TW cy K (some s0) a4 (((0 : Int32), κr)) τ q e ∨ oW ob (K 0 0) tp q e)) hP.1 hS hA (fun _ _ h => any_in (i := 0) rfl h)
        refine va_calli (va_runV (As := []) (rest := []) ⟨hx, hb, hml, hown, hts⟩ (c_nodes l dC dI cy K ((some s0)) a4 (((0 : Int32), κr)) τ ob tp H.size hT) (tp_cwV 0 hts tw_1065 tw_505 tw_506 tw_20 tw_507 rfl rfl (by decide +kernel) ⟨Nat.le_of_ble_eq_true rfl, Nat.le_of_ble_eq_true rfl⟩) ⟨m_blind, va_recv hK (hP.one (e := .inr (8, [.ref (K 0 0), .ref tp])) 0 rfl (Or.inr oW_mem)) (ci := 8) (q0 := 0) rfl rfl, fun U hU hW => ⟨rfl, m_pay hK hP.1 hE (fun _ _ h => any_in (i := 0) rfl h) U hU hW⟩⟩ rfl rfl hl.1 rfl (lv_room (Nat.le_of_ble_eq_true rfl)) dX9_make_142 ⟨(by show 0 + 0 + 0 * nd + 1 * nd + 0 + 1 * Kn + 0 ≤ 12; omega), (by show 0 + 0 + 0 * nd + 5 * nd + 0 + 5 * Kn + 0 ≤ 60; omega)⟩) hS (fun q _ h => hFc q h) hFc (fun r_12 u t H1 locs ht hvm hpo hB hz1 hk1 hS => ?_)
        obtain rfl := hpo
        obtain ⟨f_13, hP1⟩ := hB
        subst f_13
        rw [ht] at hP1
        have hP : ms (dC, dI) vwCl A [(fun q e => TW cy K (some s0) a4 (((0 : Int32), κr)) τ q e ∨ oW ob (K 0 0) tp q e), cel gp (gO ob bs qf d4 nd (nd + Kn) 0), rwW cy 24 5 (qf 0) lr4 lv4 (nd + Kn), cel (qf 1) (.inl (cy 0, 24, .inl (u1))), cel (qf 2) (.inl (cy 0, 24, .inl (u2))), cel (qf 3) (.inl (cy 0, 24, .inl (u3))), cel (qf 14) (.inl (cy 0, 12, .inl (w4)))] H1 := hP.call 0 rfl hk1 hFc hP1
        clear hP1 hk1 hFc
        generalize H1 = H at hP hS ⊢
        refine lv_aload_n hx hb dX9_make_145 rfl (lv_at hl 1 rfl) ?_
        refine va_get (D := (dC, dI)) (ws := [(gp, .inr (9, [.ref ob, .ref bs, .int (nI d4), .int (nI nd), .int 0, .int 1, .int (nI (nd + Kn)), .ref (qf 0), .ref (qf 1), .ref (qf 2), .ref (qf 3), .ref (qf 4), .ref (qf 5), .ref (qf 6), .ref (qf 7), .ref (qf 8), .int (nI 0), .ref (qf 9), .int 0, .ref (qf 10), .ref (qf 11), .ref (qf 12), .ref (qf 13), .ref (qf 14), .ref (qf 15)]))]) (ci := 9) (v := .int (nI nd)) (C := RX9) (T := TX9) (N := 25) hx hb hts tl_X9 hown hK (hP.one 1 rfl cel_in) 0 rfl rfl 3 (by decide) (hts _ tw_938) (fun _ h9 => h9) rfl dX9_make_146 ?_
        refine lv_icmp_ne (tgt := 170) hx hb dX9_make_149 (by decide) (fun c_14 => absurd k0.b0.1.2.2.1 c_14) (fun _ => ?_)
        refine lv_aload_n hx hb dX9_make_152 rfl (lv_at hl 1 rfl) ?_
        refine va_get (D := (dC, dI)) (ws := [(gp, .inr (9, [.ref ob, .ref bs, .int (nI d4), .int (nI nd), .int 0, .int 1, .int (nI (nd + Kn)), .ref (qf 0), .ref (qf 1), .ref (qf 2), .ref (qf 3), .ref (qf 4), .ref (qf 5), .ref (qf 6), .ref (qf 7), .ref (qf 8), .int (nI 0), .ref (qf 9), .int 0, .ref (qf 10), .ref (qf 11), .ref (qf 12), .ref (qf 13), .ref (qf 14), .ref (qf 15)]))]) (ci := 9) (v := .ref ob) (C := RX9) (T := TX9) (N := 25) hx hb hts tl_X9 hown hK (hP.one 1 rfl cel_in) 0 rfl rfl 0 (by decide) (hts _ tw_933) (fun _ h9 => h9) rfl dX9_make_153 ?_
        have hFc := m_free (C := (fun q e => TW cy K (some s0) a4 (((0 : Int32), κr)) τ q e ∨ oW ob (K 0 0) tp q e)) hP.1 hS hA (fun _ _ h => any_in (i := 0) rfl h)
        refine va_calli (va_runV (As := []) (rest := []) ⟨hx, hb, hml, hown, hts⟩ (c_links l dC dI cy K ((some s0)) a4 (((0 : Int32), κr)) τ ob tp H.size hT) (tp_cwV 0 hts tw_1066 tw_509 tw_510 tw_20 tw_511 rfl rfl (by decide +kernel) ⟨Nat.le_of_ble_eq_true rfl, Nat.le_of_ble_eq_true rfl⟩) ⟨m_blind, va_recv hK (hP.one (e := .inr (8, [.ref (K 0 0), .ref tp])) 0 rfl (Or.inr oW_mem)) (ci := 8) (q0 := 0) rfl rfl, fun U hU hW => ⟨rfl, m_pay hK hP.1 hE (fun _ _ h => any_in (i := 0) rfl h) U hU hW⟩⟩ rfl rfl hl.1 rfl (lv_room (Nat.le_of_ble_eq_true rfl)) dX9_make_156 ⟨(by show 0 + 0 + 0 * nd + 1 * nd + 0 + 1 * Kn + 0 + 0 ≤ 12; omega), (by show 0 + 0 + 0 * nd + 5 * nd + 0 + 5 * Kn + 0 + 0 ≤ 60; omega)⟩) hS (fun q _ h => hFc q h) hFc (fun r_15 u t H1 locs ht hvm hpo hB hz1 hk1 hS => ?_)
        obtain rfl := hpo
        obtain ⟨f_16, hP1⟩ := hB
        subst f_16
        rw [ht] at hP1
        have hP : ms (dC, dI) vwCl A [(fun q e => TW cy K (some s0) a4 (((0 : Int32), κr)) τ q e ∨ oW ob (K 0 0) tp q e), cel gp (gO ob bs qf d4 nd (nd + Kn) 0), rwW cy 24 5 (qf 0) lr4 lv4 (nd + Kn), cel (qf 1) (.inl (cy 0, 24, .inl (u1))), cel (qf 2) (.inl (cy 0, 24, .inl (u2))), cel (qf 3) (.inl (cy 0, 24, .inl (u3))), cel (qf 14) (.inl (cy 0, 12, .inl (w4)))] H1 := hP.call 0 rfl hk1 hFc hP1
        clear hP1 hk1 hFc
        generalize H1 = H at hP hS ⊢
        refine lv_aload_n hx hb dX9_make_159 rfl (lv_at hl 1 rfl) ?_
        refine va_get (D := (dC, dI)) (ws := [(gp, .inr (9, [.ref ob, .ref bs, .int (nI d4), .int (nI nd), .int 0, .int 1, .int (nI (nd + Kn)), .ref (qf 0), .ref (qf 1), .ref (qf 2), .ref (qf 3), .ref (qf 4), .ref (qf 5), .ref (qf 6), .ref (qf 7), .ref (qf 8), .int (nI 0), .ref (qf 9), .int 0, .ref (qf 10), .ref (qf 11), .ref (qf 12), .ref (qf 13), .ref (qf 14), .ref (qf 15)]))]) (ci := 9) (v := .int (nI (nd + Kn))) (C := RX9) (T := TX9) (N := 25) hx hb hts tl_X9 hown hK (hP.one 1 rfl cel_in) 0 rfl rfl 6 (by decide) (hts _ tw_942) (fun _ h9 => h9) rfl dX9_make_160 ?_
        refine lv_icmp_ne (tgt := 170) hx hb dX9_make_163 (by decide) (fun c_17 => absurd k0.b0.1.2.2.2.2.1 c_17) (fun _ => ?_)
        refine lv_iconst (v := 1) hx hb dX9_make_166 (by decide) ?_
        refine lv_goto (tgt := 171) hx hb dX9_make_167 (by decide) ?_
        refine W.widen (k := 12) (n := 60) (by show 0 + 0 + 0 * nd + 1 * nd + 0 + 1 * Kn + 0 + 0 + 0 ≤ 12; omega) (by show 0 + 0 + 0 * nd + 5 * nd + 0 + 5 * Kn + 0 + 0 + 0 ≤ 60; omega) ?_
        have g_18 : (1 : Int32) = 1 := rfl
        have g_19 : Bld a4 nd (nd + Kn) lv4 pl 0 fv := k0
        have g_20 : 3 ≤ nd ∧ nd ≤ 6 := ⟨by omega, by omega⟩
        have g_21 : nd ≤ nd + Kn ∧ nd + Kn ≤ 12 := ⟨by omega, by omega⟩
        have g_22 : d4 ≤ d + 100 := by omega
        exact W.zret (v := 1) hx hb hr rfl (fun t ht hW => ⟨⟨1, 1, rfl, rfl, ⟨a4, nd, (nd + Kn), d4, lr4, lv4, u1, u2, u3, w4, g_18, g_19, g_20, g_21, g_22, by show ms _ _ _ _ t.heap; rw [ht]; exact hP⟩⟩, hS.F ht⟩) hS.2.2 dX9_make_171
      · rintro i _ H locs ls hi ⟨a4, lv4, lr4, u1, u2, u3, d4, k0, k1, hP, hS, hl⟩ ih
        have hl : lv_has ls 3 [(1, .int (nI (Kn - i))), (0, .ref gp)] := hl
        show W _ _ _ _ _ _ _ _ _ _ _ _ (0 + 0 + 0 * nd + 1 * nd + 0 + 1 * i) (0 + 0 + 0 * nd + 5 * nd + 0 + 5 * i) _ _
        refine lv_iload_n hx hb dX9_make_90 rfl (lv_at hl 0 rfl) ?_
        refine lv_if_le (tgt := 138) hx hb dX9_make_91 (by decide) (fun c_23 => absurd c_23 (nI_ge (a := 0) (by omega) (by omega))) (fun _ => ?_)
        refine lv_aload_n hx hb dX9_make_94 rfl (lv_at hl 1 rfl) ?_
        refine lv_aload_n hx hb dX9_make_95 rfl (lv_at hl 1 rfl) ?_
        refine va_get (D := (dC, dI)) (ws := [(gp, .inr (9, [.ref ob, .ref bs, .int (nI d4), .int (nI nd), .int 0, .int 1, .int (nI (nd + i)), .ref (qf 0), .ref (qf 1), .ref (qf 2), .ref (qf 3), .ref (qf 4), .ref (qf 5), .ref (qf 6), .ref (qf 7), .ref (qf 8), .int (nI 0), .ref (qf 9), .int 0, .ref (qf 10), .ref (qf 11), .ref (qf 12), .ref (qf 13), .ref (qf 14), .ref (qf 15)]))]) (ci := 9) (v := .int (nI nd)) (C := RX9) (T := TX9) (N := 25) hx hb hts tl_X9 hown hK (hP.one 1 rfl cel_in) 0 rfl rfl 3 (by decide) (hts _ tw_938) (fun _ h9 => h9) rfl dX9_make_96 ?_
        have hPc : ms (dC, dI) vwCl A ([cel gp (gO ob bs qf d4 nd (nd + i) 0)] ++ [(fun q e => TW cy K (some s0) a4 (((0 : Int32), κr)) τ q e ∨ oW ob (K 0 0) tp q e), rwW cy 24 5 (qf 0) lr4 lv4 (nd + i), cel (qf 1) (.inl (cy 0, 24, .inl (u1))), cel (qf 2) (.inl (cy 0, 24, .inl (u2))), cel (qf 3) (.inl (cy 0, 24, .inl (u3))), cel (qf 14) (.inl (cy 0, 12, .inl (w4)))]) H := hP.sel [1, 0, 2, 3, 4, 5, 6] rfl (by decide)
        have hFc := g_free hPc hS hA
        refine va_calli (va_runV (As := [.int (nI nd)]) (rest := []) ⟨hx, hb, hml, hown, hts⟩ (c_draw l dC dI cy bs Ls xs gp ob qf d4 nd (nd + i) 0 nd H.size (by first | assumption | omega) (by first | assumption | omega) (by first | assumption | omega)) (tp_cwV 1 hts tw_1031 tw_1016 tw_1017 tw_19 tw_1018 rfl rfl (by decide +kernel) ⟨Nat.le_of_ble_eq_true rfl, Nat.le_of_ble_eq_true rfl⟩) ⟨g_blind, va_recv hK (hP.one (e := .inr (9, [.ref ob, .ref bs, .int (nI d4), .int (nI nd), .int 0, .int 1, .int (nI (nd + i)), .ref (qf 0), .ref (qf 1), .ref (qf 2), .ref (qf 3), .ref (qf 4), .ref (qf 5), .ref (qf 6), .ref (qf 7), .ref (qf 8), .int (nI 0), .ref (qf 9), .int 0, .ref (qf 10), .ref (qf 11), .ref (qf 12), .ref (qf 13), .ref (qf 14), .ref (qf 15)])) 1 rfl cel_in) (ci := 9) (q0 := 0) rfl rfl, fun U hU hW => ⟨rfl, g_pay hK hPc hE hX hbl hbL hbA hS U hU hW⟩⟩ rfl rfl hl.1 rfl (lv_room (Nat.le_of_ble_eq_true rfl)) dX9_make_99 ⟨(by show 0 + 0 + 0 * nd + 1 * nd + 0 + 1 * i + 0 ≤ 12; omega), (by show 0 + 0 + 0 * nd + 5 * nd + 0 + 5 * i + 0 ≤ 60; omega)⟩) hS (fun q _ h => hFc q h) hFc (fun r_24 u t H1 locs ht hvm hpo hB hz1 hk1 hS => ?_)
        obtain rfl := hpo
        obtain ⟨z_25, f_26, f_27, hP1⟩ := hB
        rw [ht] at hP1
        have hPj := hPc.calls hk1 hFc hP1
        have hP : ms (dC, dI) vwCl A [(fun q e => TW cy K (some s0) a4 (((0 : Int32), κr)) τ q e ∨ oW ob (K 0 0) tp q e), cel gp (gO ob bs qf (d4 + 1) nd (nd + i) 0), rwW cy 24 5 (qf 0) lr4 lv4 (nd + i), cel (qf 1) (.inl (cy 0, 24, .inl (u1))), cel (qf 2) (.inl (cy 0, 24, .inl (u2))), cel (qf 3) (.inl (cy 0, 24, .inl (u3))), cel (qf 14) (.inl (cy 0, 12, .inl (w4)))] H1 := hPj.sel [1, 0, 2, 3, 4, 5, 6] rfl (by decide)
        clear hPj hPc hP1 hk1 hFc
        generalize H1 = H at hP hS ⊢
        subst f_27
        have qF := f_26
        refine lv_istore_n (lv' := [(2, .int (nI z_25)), (1, .int (nI (Kn - i))), (0, .ref gp)]) hx hb dX9_make_102 rfl hl (by decide) rfl (fun ls hl => ?_)
        refine lv_aload_n hx hb dX9_make_103 rfl (lv_at hl 2 rfl) ?_
        refine lv_iload_n hx hb dX9_make_104 rfl (lv_at hl 0 rfl) ?_
        refine lv_iload_n hx hb dX9_make_105 rfl (lv_at hl 0 rfl) ?_
        refine lv_iconst (v := 1) hx hb dX9_make_106 (by decide) ?_
        refine lv_iadd hx hb dX9_make_107 ?_
        refine W.eq (g2 := F0 m 108 ls [.int (nI (z_25 + 1)), .int (nI z_25), .ref gp]) (by rw [nI_1]) ?_
        refine lv_aload_n hx hb dX9_make_108 rfl (lv_at hl 2 rfl) ?_
        refine lv_aload_n hx hb dX9_make_109 rfl (lv_at hl 2 rfl) ?_
        refine va_get (D := (dC, dI)) (ws := [(gp, .inr (9, [.ref ob, .ref bs, .int (nI (d4 + 1)), .int (nI nd), .int 0, .int 1, .int (nI (nd + i)), .ref (qf 0), .ref (qf 1), .ref (qf 2), .ref (qf 3), .ref (qf 4), .ref (qf 5), .ref (qf 6), .ref (qf 7), .ref (qf 8), .int (nI 0), .ref (qf 9), .int 0, .ref (qf 10), .ref (qf 11), .ref (qf 12), .ref (qf 13), .ref (qf 14), .ref (qf 15)]))]) (ci := 9) (v := .int (nI nd)) (C := RX9) (T := TX9) (N := 25) hx hb hts tl_X9 hown hK (hP.one 1 rfl cel_in) 0 rfl rfl 3 (by decide) (hts _ tw_938) (fun _ h9 => h9) rfl dX9_make_110 ?_
        refine lv_iconst (v := 1) hx hb dX9_make_113 (by decide) ?_
        refine lv_isub hx hb dX9_make_114 ?_
        refine W.eq (g2 := F0 m 115 ls [.int (nI (nd - 1)), .ref gp, .int (nI (z_25 + 1)), .int (nI z_25), .ref gp]) (by rw [show (1 : Int32) = nI 1 from rfl, pk_sub (by omega : 1 ≤ nd)]) ?_
        have hPc : ms (dC, dI) vwCl A ([cel gp (gO ob bs qf (d4 + 1) nd (nd + i) 0)] ++ [(fun q e => TW cy K (some s0) a4 (((0 : Int32), κr)) τ q e ∨ oW ob (K 0 0) tp q e), rwW cy 24 5 (qf 0) lr4 lv4 (nd + i), cel (qf 1) (.inl (cy 0, 24, .inl (u1))), cel (qf 2) (.inl (cy 0, 24, .inl (u2))), cel (qf 3) (.inl (cy 0, 24, .inl (u3))), cel (qf 14) (.inl (cy 0, 12, .inl (w4)))]) H := hP.sel [1, 0, 2, 3, 4, 5, 6] rfl (by decide)
        have hFc := g_free hPc hS hA
        refine va_calli (va_runV (As := [.int (nI (nd - 1))]) (rest := [.int (nI (z_25 + 1)), .int (nI z_25), .ref gp]) ⟨hx, hb, hml, hown, hts⟩ (c_draw l dC dI cy bs Ls xs gp ob qf (d4 + 1) nd (nd + i) 0 (nd - 1) H.size (by first | assumption | omega) (by first | assumption | omega) (by first | assumption | omega)) (tp_cwV 1 hts tw_1031 tw_1016 tw_1017 tw_19 tw_1018 rfl rfl (by decide +kernel) ⟨Nat.le_of_ble_eq_true rfl, Nat.le_of_ble_eq_true rfl⟩) ⟨g_blind, va_recv hK (hP.one (e := .inr (9, [.ref ob, .ref bs, .int (nI (d4 + 1)), .int (nI nd), .int 0, .int 1, .int (nI (nd + i)), .ref (qf 0), .ref (qf 1), .ref (qf 2), .ref (qf 3), .ref (qf 4), .ref (qf 5), .ref (qf 6), .ref (qf 7), .ref (qf 8), .int (nI 0), .ref (qf 9), .int 0, .ref (qf 10), .ref (qf 11), .ref (qf 12), .ref (qf 13), .ref (qf 14), .ref (qf 15)])) 1 rfl cel_in) (ci := 9) (q0 := 0) rfl rfl, fun U hU hW => ⟨rfl, g_pay hK hPc hE hX hbl hbL hbA hS U hU hW⟩⟩ rfl rfl hl.1 rfl (lv_room (Nat.le_of_ble_eq_true rfl)) dX9_make_115 ⟨(by show 0 + 0 + 0 * nd + 1 * nd + 0 + 1 * i + 0 + 0 ≤ 12; omega), (by show 0 + 0 + 0 * nd + 5 * nd + 0 + 5 * i + 0 + 0 ≤ 60; omega)⟩) hS (fun q _ h => hFc q h) hFc (fun r_28 u t H1 locs ht hvm hpo hB hz1 hk1 hS => ?_)
        obtain rfl := hpo
        obtain ⟨z_29, f_30, f_31, hP1⟩ := hB
        rw [ht] at hP1
        have hPj := hPc.calls hk1 hFc hP1
        have hP : ms (dC, dI) vwCl A [(fun q e => TW cy K (some s0) a4 (((0 : Int32), κr)) τ q e ∨ oW ob (K 0 0) tp q e), cel gp (gO ob bs qf (d4 + 1 + 1) nd (nd + i) 0), rwW cy 24 5 (qf 0) lr4 lv4 (nd + i), cel (qf 1) (.inl (cy 0, 24, .inl (u1))), cel (qf 2) (.inl (cy 0, 24, .inl (u2))), cel (qf 3) (.inl (cy 0, 24, .inl (u3))), cel (qf 14) (.inl (cy 0, 12, .inl (w4)))] H1 := hPj.sel [1, 0, 2, 3, 4, 5, 6] rfl (by decide)
        clear hPj hPc hP1 hk1 hFc
        generalize H1 = H at hP hS ⊢
        subst f_31
        have qG := f_30
        refine lv_iadd hx hb dX9_make_118 ?_
        refine W.eq (g2 := F0 m 119 ls [.int (nI (z_25 + 1 + z_29)), .int (nI z_25), .ref gp]) (by rw [nI_add]) ?_
        refine lv_aload_n hx hb dX9_make_119 rfl (lv_at hl 2 rfl) ?_
        refine va_get (D := (dC, dI)) (ws := [(gp, .inr (9, [.ref ob, .ref bs, .int (nI (d4 + 1 + 1)), .int (nI nd), .int 0, .int 1, .int (nI (nd + i)), .ref (qf 0), .ref (qf 1), .ref (qf 2), .ref (qf 3), .ref (qf 4), .ref (qf 5), .ref (qf 6), .ref (qf 7), .ref (qf 8), .int (nI 0), .ref (qf 9), .int 0, .ref (qf 10), .ref (qf 11), .ref (qf 12), .ref (qf 13), .ref (qf 14), .ref (qf 15)]))]) (ci := 9) (v := .int (nI nd)) (C := RX9) (T := TX9) (N := 25) hx hb hts tl_X9 hown hK (hP.one 1 rfl cel_in) 0 rfl rfl 3 (by decide) (hts _ tw_938) (fun _ h9 => h9) rfl dX9_make_120 ?_
        refine lv_irem hx hb dX9_make_123 (nI_ne0 (by omega) (by omega)) ?_
        refine W.eq (g2 := F0 m 124 ls [.int (nI ((z_25 + 1 + z_29) % nd)), .int (nI z_25), .ref gp]) (by rw [pk_rem (by omega) (by omega) (by omega)]) ?_
        have hPc : ms (dC, dI) vwCl A ([(fun q e => TW cy K (some s0) a4 (((0 : Int32), κr)) τ q e ∨ oW ob (K 0 0) tp q e), cel gp (gO ob bs qf (d4 + 1 + 1) nd (nd + i) 0), rwW cy 24 5 (qf 0) lr4 lv4 (nd + i), cel (qf 1) (.inl (cy 0, 24, .inl (u1))), cel (qf 2) (.inl (cy 0, 24, .inl (u2))), cel (qf 3) (.inl (cy 0, 24, .inl (u3)))] ++ [cel (qf 14) (.inl (cy 0, 12, .inl (w4)))]) H := hP.sel [0, 1, 2, 3, 4, 5, 6] rfl (by decide)
        have hFc := g_free hPc hS hA
        refine va_calli (va_runV (As := [.int (nI z_25), .int (nI ((z_25 + 1 + z_29) % nd))]) (rest := []) ⟨hx, hb, hml, hown, hts⟩ (c_law_addLink l dC dI cy bs Ls xs gp ob qf (d4 + 1 + 1) nd (nd + i) K s0 tp a4 κr τ lr4 lv4 pl fv u1 u2 u3 z_25 ((z_25 + 1 + z_29) % nd) H.size hT k0 (by omega) qF (Nat.mod_lt _ (by omega)) (md_ne2 qF qG) (by omega)) (tp_cwV 2 hts tw_1052 tw_1053 tw_1054 tw_19 tw_1055 rfl rfl (by decide +kernel) ⟨Nat.le_of_ble_eq_true rfl, Nat.le_of_ble_eq_true rfl⟩) ⟨g_blind, va_recv hK (hP.one (e := .inr (9, [.ref ob, .ref bs, .int (nI (d4 + 1 + 1)), .int (nI nd), .int 0, .int 1, .int (nI (nd + i)), .ref (qf 0), .ref (qf 1), .ref (qf 2), .ref (qf 3), .ref (qf 4), .ref (qf 5), .ref (qf 6), .ref (qf 7), .ref (qf 8), .int (nI 0), .ref (qf 9), .int 0, .ref (qf 10), .ref (qf 11), .ref (qf 12), .ref (qf 13), .ref (qf 14), .ref (qf 15)])) 1 rfl cel_in) (ci := 9) (q0 := 0) rfl rfl, fun U hU hW => ⟨rfl, g_pay hK hPc hE hX hbl hbL hbA hS U hU hW⟩⟩ rfl rfl hl.1 rfl (lv_room (Nat.le_of_ble_eq_true rfl)) dX9_make_124 ⟨(by show 0 + 0 + 0 * nd + 1 * nd + 0 + 1 * i + 0 + 0 + 1 ≤ 12; omega), (by show 0 + 0 + 0 * nd + 5 * nd + 0 + 5 * i + 0 + 0 + 5 ≤ 60; omega)⟩) hS (fun q _ h => hFc q h) hFc (fun r_32 u t H1 locs ht hvm hpo hB hz1 hk1 hS => ?_)
        obtain rfl := hpo
        obtain ⟨z_33, z_34, z_35, z_36, z_37, z_38, f_39, f_40, hP1⟩ := hB
        subst f_39
        rw [ht] at hP1
        have hPj := hPc.calls hk1 hFc hP1
        have hP : ms (dC, dI) vwCl A [(fun q e => TW cy K (some s0) z_33 (((0 : Int32), κr)) τ q e ∨ oW ob (K 0 0) tp q e), cel gp (gO ob bs qf (d4 + 1 + 1 + 4) nd (nd + i + 1) 0), rwW cy 24 5 (qf 0) z_34 z_35 (nd + i + 1), cel (qf 1) (.inl (cy 0, 24, .inl (z_36))), cel (qf 2) (.inl (cy 0, 24, .inl (z_37))), cel (qf 3) (.inl (cy 0, 24, .inl (z_38))), cel (qf 14) (.inl (cy 0, 12, .inl (w4)))] H1 := hPj.sel [0, 1, 2, 3, 4, 5, 6] rfl (by decide)
        clear hPj hPc hP1 hk1 hFc
        generalize H1 = H at hP hS ⊢
        refine lv_if_ne (tgt := 132) hx hb dX9_make_127 (by decide) (fun _ => ?_) (fun c_41 => absurd c_41 (by decide))
        refine lv_iinc (v := nI (Kn - (i + 1))) (lv' := [(1, .int (nI (Kn - (i + 1)))), (2, .int (nI z_25)), (0, .ref gp)]) hx hb dX9_make_132 hl (k := 1) rfl (by rw [show Kn - i = (Kn - (i + 1)) + 1 by omega]; exact pk_m1 _) (by decide) rfl (fun ls hl => ?_)
        refine lv_goto (tgt := 90) hx hb dX9_make_135 (by decide) ?_
        refine W.widen (k := (fun i => 0 + 0 + 0 * nd + 1 * nd + 0 + 1 * i) (i + 1)) (n := (fun i => 0 + 0 + 0 * nd + 5 * nd + 0 + 5 * i) (i + 1)) (by show 0 + 0 + 0 * nd + 1 * nd + 0 + 1 * i + 0 + 0 + 1 ≤ 0 + 0 + 0 * nd + 1 * nd + 0 + 1 * (i + 1); omega) (by show 0 + 0 + 0 * nd + 5 * nd + 0 + 5 * i + 0 + 0 + 5 ≤ 0 + 0 + 0 * nd + 5 * nd + 0 + 5 * (i + 1); omega) ?_
        exact ih () _ _ ls ⟨z_33, z_35, z_34, z_36, z_37, z_38, (d4 + 1 + 1 + 4), f_40, (by omega), hP, hS, lv_sub hl [0, 2] rfl⟩
    · rintro i _ H locs ls hi ⟨a3, lv1, lr1, v1, v2, v3, d3, k0, k1, hP, hS, hl⟩ ih
      have hl : lv_has ls 3 [(1, .int (nI i)), (0, .ref gp)] := hl
      show W _ _ _ _ _ _ _ _ _ _ _ _ (0 + 0 + 0 * nd + 1 * i) (0 + 0 + 0 * nd + 5 * i) _ _
      refine lv_iload_n hx hb dX9_make_49 rfl (lv_at hl 0 rfl) ?_
      refine lv_aload_n hx hb dX9_make_50 rfl (lv_at hl 1 rfl) ?_
      refine va_get (D := (dC, dI)) (ws := [(gp, .inr (9, [.ref ob, .ref bs, .int (nI d3), .int (nI nd), .int 0, .int 1, .int (nI i), .ref (qf 0), .ref (qf 1), .ref (qf 2), .ref (qf 3), .ref (qf 4), .ref (qf 5), .ref (qf 6), .ref (qf 7), .ref (qf 8), .int (nI 0), .ref (qf 9), .int 0, .ref (qf 10), .ref (qf 11), .ref (qf 12), .ref (qf 13), .ref (qf 14), .ref (qf 15)]))]) (ci := 9) (v := .int (nI nd)) (C := RX9) (T := TX9) (N := 25) hx hb hts tl_X9 hown hK (hP.one 1 rfl cel_in) 0 rfl rfl 3 (by decide) (hts _ tw_938) (fun _ h9 => h9) rfl dX9_make_51 ?_
      refine lv_icmp_ge (tgt := 81) hx hb dX9_make_54 (by decide) (fun c_42 => absurd c_42 (nI_ge hi (by omega))) (fun _ => ?_)
      refine lv_aload_n hx hb dX9_make_57 rfl (lv_at hl 1 rfl) ?_
      refine lv_iload_n hx hb dX9_make_58 rfl (lv_at hl 0 rfl) ?_
      refine lv_iload_n hx hb dX9_make_59 rfl (lv_at hl 0 rfl) ?_
      refine lv_iconst (v := 1) hx hb dX9_make_60 (by decide) ?_
      refine lv_iadd hx hb dX9_make_61 ?_
      refine W.eq (g2 := F0 m 62 ls [.int (nI (i + 1)), .int (nI i), .ref gp]) (by rw [nI_1]) ?_
      refine lv_aload_n hx hb dX9_make_62 rfl (lv_at hl 1 rfl) ?_
      refine va_get (D := (dC, dI)) (ws := [(gp, .inr (9, [.ref ob, .ref bs, .int (nI d3), .int (nI nd), .int 0, .int 1, .int (nI i), .ref (qf 0), .ref (qf 1), .ref (qf 2), .ref (qf 3), .ref (qf 4), .ref (qf 5), .ref (qf 6), .ref (qf 7), .ref (qf 8), .int (nI 0), .ref (qf 9), .int 0, .ref (qf 10), .ref (qf 11), .ref (qf 12), .ref (qf 13), .ref (qf 14), .ref (qf 15)]))]) (ci := 9) (v := .int (nI nd)) (C := RX9) (T := TX9) (N := 25) hx hb hts tl_X9 hown hK (hP.one 1 rfl cel_in) 0 rfl rfl 3 (by decide) (hts _ tw_938) (fun _ h9 => h9) rfl dX9_make_63 ?_
      refine lv_irem hx hb dX9_make_66 (nI_ne0 (by omega) (by omega)) ?_
      refine W.eq (g2 := F0 m 67 ls [.int (nI ((i + 1) % nd)), .int (nI i), .ref gp]) (by rw [pk_rem (by omega) (by omega) (by omega)]) ?_
      have hPc : ms (dC, dI) vwCl A ([(fun q e => TW cy K (some s0) a3 (((0 : Int32), κr)) τ q e ∨ oW ob (K 0 0) tp q e), cel gp (gO ob bs qf d3 nd i 0), rwW cy 24 5 (qf 0) lr1 lv1 i, cel (qf 1) (.inl (cy 0, 24, .inl (v1))), cel (qf 2) (.inl (cy 0, 24, .inl (v2))), cel (qf 3) (.inl (cy 0, 24, .inl (v3)))] ++ [cel (qf 14) (.inl (cy 0, 12, .inl (w4)))]) H := hP.sel [0, 1, 2, 3, 4, 5, 6] rfl (by decide)
      have hFc := g_free hPc hS hA
      refine va_calli (va_runV (As := [.int (nI i), .int (nI ((i + 1) % nd))]) (rest := []) ⟨hx, hb, hml, hown, hts⟩ (c_law_addLink l dC dI cy bs Ls xs gp ob qf d3 nd i K s0 tp a3 κr τ lr1 lv1 pl fv v1 v2 v3 i ((i + 1) % nd) H.size hT k0 (by omega) hi (Nat.mod_lt _ (by omega)) (md_ne1 hi (by omega)) (by omega)) (tp_cwV 2 hts tw_1052 tw_1053 tw_1054 tw_19 tw_1055 rfl rfl (by decide +kernel) ⟨Nat.le_of_ble_eq_true rfl, Nat.le_of_ble_eq_true rfl⟩) ⟨g_blind, va_recv hK (hP.one (e := .inr (9, [.ref ob, .ref bs, .int (nI d3), .int (nI nd), .int 0, .int 1, .int (nI i), .ref (qf 0), .ref (qf 1), .ref (qf 2), .ref (qf 3), .ref (qf 4), .ref (qf 5), .ref (qf 6), .ref (qf 7), .ref (qf 8), .int (nI 0), .ref (qf 9), .int 0, .ref (qf 10), .ref (qf 11), .ref (qf 12), .ref (qf 13), .ref (qf 14), .ref (qf 15)])) 1 rfl cel_in) (ci := 9) (q0 := 0) rfl rfl, fun U hU hW => ⟨rfl, g_pay hK hPc hE hX hbl hbL hbA hS U hU hW⟩⟩ rfl rfl hl.1 rfl (lv_room (Nat.le_of_ble_eq_true rfl)) dX9_make_67 ⟨(by show 0 + 0 + 0 * nd + 1 * i + 1 ≤ 12; omega), (by show 0 + 0 + 0 * nd + 5 * i + 5 ≤ 60; omega)⟩) hS (fun q _ h => hFc q h) hFc (fun r_43 u t H1 locs ht hvm hpo hB hz1 hk1 hS => ?_)
      obtain rfl := hpo
      obtain ⟨z_44, z_45, z_46, z_47, z_48, z_49, f_50, f_51, hP1⟩ := hB
      subst f_50
      rw [ht] at hP1
      have hPj := hPc.calls hk1 hFc hP1
      have hP : ms (dC, dI) vwCl A [(fun q e => TW cy K (some s0) z_44 (((0 : Int32), κr)) τ q e ∨ oW ob (K 0 0) tp q e), cel gp (gO ob bs qf (d3 + 4) nd (i + 1) 0), rwW cy 24 5 (qf 0) z_45 z_46 (i + 1), cel (qf 1) (.inl (cy 0, 24, .inl (z_47))), cel (qf 2) (.inl (cy 0, 24, .inl (z_48))), cel (qf 3) (.inl (cy 0, 24, .inl (z_49))), cel (qf 14) (.inl (cy 0, 12, .inl (w4)))] H1 := hPj.sel [0, 1, 2, 3, 4, 5, 6] rfl (by decide)
      clear hPj hPc hP1 hk1 hFc
      generalize H1 = H at hP hS ⊢
      refine lv_if_ne (tgt := 75) hx hb dX9_make_70 (by decide) (fun _ => ?_) (fun c_52 => absurd c_52 (by decide))
      refine lv_iinc (v := nI (i + 1)) (lv' := [(1, .int (nI (i + 1))), (0, .ref gp)]) hx hb dX9_make_75 hl (k := 0) rfl (nI_1 i) (by decide) rfl (fun ls hl => ?_)
      refine lv_goto (tgt := 49) hx hb dX9_make_78 (by decide) ?_
      refine W.widen (k := (fun i => 0 + 0 + 0 * nd + 1 * i) (i + 1)) (n := (fun i => 0 + 0 + 0 * nd + 5 * i) (i + 1)) (by show 0 + 0 + 0 * nd + 1 * i + 1 ≤ 0 + 0 + 0 * nd + 1 * (i + 1); omega) (by show 0 + 0 + 0 * nd + 5 * i + 5 ≤ 0 + 0 + 0 * nd + 5 * (i + 1); omega) ?_
      exact ih () _ _ ls ⟨z_44, z_46, z_45, z_47, z_48, z_49, (d3 + 4), f_51, (by omega), hP, hS, lv_sub hl [0, 1] rfl⟩
  · rintro i _ H locs ls hi ⟨a1, w4, k0, hP, hS, hl⟩ ih
    have hl : lv_has ls 3 [(1, .int (nI i)), (0, .ref gp)] := hl
    show W _ _ _ _ _ _ _ _ _ _ _ _ (0 + 0 + 0 * i) (0 + 0 + 0 * i) _ _
    refine lv_iload_n hx hb dX9_make_13 rfl (lv_at hl 0 rfl) ?_
    refine lv_aload_n hx hb dX9_make_14 rfl (lv_at hl 1 rfl) ?_
    refine va_get (D := (dC, dI)) (ws := [(gp, .inr (9, [.ref ob, .ref bs, .int (nI (d + 1)), .int (nI nd), .int 0, .int 1, .int (nI 0), .ref (qf 0), .ref (qf 1), .ref (qf 2), .ref (qf 3), .ref (qf 4), .ref (qf 5), .ref (qf 6), .ref (qf 7), .ref (qf 8), .int (nI 0), .ref (qf 9), .int 0, .ref (qf 10), .ref (qf 11), .ref (qf 12), .ref (qf 13), .ref (qf 14), .ref (qf 15)]))]) (ci := 9) (v := .int (nI nd)) (C := RX9) (T := TX9) (N := 25) hx hb hts tl_X9 hown hK (hP.one 1 rfl cel_in) 0 rfl rfl 3 (by decide) (hts _ tw_938) (fun _ h9 => h9) rfl dX9_make_15 ?_
    refine lv_icmp_ge (tgt := 47) hx hb dX9_make_18 (by decide) (fun c_53 => absurd c_53 (nI_ge hi (by omega))) (fun _ => ?_)
    refine lv_aload_n hx hb dX9_make_21 rfl (lv_at hl 1 rfl) ?_
    refine va_get (D := (dC, dI)) (ws := [(gp, .inr (9, [.ref ob, .ref bs, .int (nI (d + 1)), .int (nI nd), .int 0, .int 1, .int (nI 0), .ref (qf 0), .ref (qf 1), .ref (qf 2), .ref (qf 3), .ref (qf 4), .ref (qf 5), .ref (qf 6), .ref (qf 7), .ref (qf 8), .int (nI 0), .ref (qf 9), .int 0, .ref (qf 10), .ref (qf 11), .ref (qf 12), .ref (qf 13), .ref (qf 14), .ref (qf 15)]))]) (ci := 9) (v := .ref ob) (C := RX9) (T := TX9) (N := 25) hx hb hts tl_X9 hown hK (hP.one 1 rfl cel_in) 0 rfl rfl 0 (by decide) (hts _ tw_933) (fun _ h9 => h9) rfl dX9_make_22 ?_
    have hFc := m_free (C := (fun q e => TW cy K (some s0) a1 (((0 : Int32), κr)) τ q e ∨ oW ob (K 0 0) tp q e)) hP.1 hS hA (fun _ _ h => any_in (i := 0) rfl h)
    refine va_calli (va_runV (As := []) (rest := []) ⟨hx, hb, hml, hown, hts⟩ (c_addNode l dC dI cy K ((some s0)) a1 (((0 : Int32), κr)) τ ob tp 0 H.size hT k0.b0.2.2.2.2 (by rw [k0.b0.1.2.2.1, nI_toInt (by omega)]; omega)) (tp_cwV 0 hts tw_1032 tw_1033 tw_1034 tw_20 tw_1035 rfl rfl (by decide +kernel) ⟨Nat.le_of_ble_eq_true rfl, Nat.le_of_ble_eq_true rfl⟩) ⟨m_blind, va_recv hK (hP.one (e := .inr (8, [.ref (K 0 0), .ref tp])) 0 rfl (Or.inr oW_mem)) (ci := 8) (q0 := 0) rfl rfl, fun U hU hW => ⟨rfl, m_pay hK hP.1 hE (fun _ _ h => any_in (i := 0) rfl h) U hU hW⟩⟩ rfl rfl hl.1 rfl (lv_room (Nat.le_of_ble_eq_true rfl)) dX9_make_25 ⟨(by show 0 + 0 + 0 * i + 0 ≤ 12; omega), (by show 0 + 0 + 0 * i + 0 ≤ 60; omega)⟩) hS (fun q _ h => hFc q h) hFc (fun r_54 u t H1 locs ht hvm hpo hB hz1 hk1 hS => ?_)
    obtain rfl := hpo
    obtain ⟨f_55, hP1⟩ := hB
    subst f_55
    rw [ht] at hP1
    have hP : ms (dC, dI) vwCl A [(fun q e => TW cy K (some s0) (U_node a1) (((0 : Int32), κr)) τ q e ∨ oW ob (K 0 0) tp q e), cel gp (gO ob bs qf (d + 1) nd 0 0), rwW cy 24 5 (qf 0) lr lv 0, cel (qf 1) (.inl (cy 0, 24, .inl (x1))), cel (qf 2) (.inl (cy 0, 24, .inl (x2))), cel (qf 3) (.inl (cy 0, 24, .inl (x3))), cel (qf 14) (.inl (cy 0, 12, .inl (w4)))] H1 := hP.call 0 rfl hk1 hFc hP1
    clear hP1 hk1 hFc
    generalize H1 = H at hP hS ⊢
    refine lv_iload_n hx hb dX9_make_28 rfl (lv_at hl 0 rfl) ?_
    refine lv_icmp_eq (tgt := 34) hx hb dX9_make_29 (by decide) (fun _ => ?_) (fun c_56 => absurd k0.b0.1.2.2.1 c_56)
    refine lv_aload_n hx hb dX9_make_34 rfl (lv_at hl 1 rfl) ?_
    refine va_get (D := (dC, dI)) (ws := [(gp, .inr (9, [.ref ob, .ref bs, .int (nI (d + 1)), .int (nI nd), .int 0, .int 1, .int (nI 0), .ref (qf 0), .ref (qf 1), .ref (qf 2), .ref (qf 3), .ref (qf 4), .ref (qf 5), .ref (qf 6), .ref (qf 7), .ref (qf 8), .int (nI 0), .ref (qf 9), .int 0, .ref (qf 10), .ref (qf 11), .ref (qf 12), .ref (qf 13), .ref (qf 14), .ref (qf 15)]))]) (ci := 9) (v := .ref (qf 14)) (C := RX9) (T := TX9) (N := 25) hx hb hts tl_X9 hown hK (hP.one 1 rfl cel_in) 0 rfl rfl 23 (by decide) (hts _ tw_961) (fun _ h9 => h9) rfl dX9_make_35 ?_
    refine lv_iload_n hx hb dX9_make_38 rfl (lv_at hl 0 rfl) ?_
    refine lv_iconst (v := -1) hx hb dX9_make_39 (by decide) ?_
    have j_57 : (nI i : Int32).toNatClampNeg = i := m_cl (n := 12) rfl (by omega) (by decide)
    obtain ⟨ws9, k9, hPw, hDw, hk9, -, hbk⟩ := hP.cutc (e := .inl (cy 0, 12, .inl (w4))) 6 rfl
    refine va_iast hx hb hK hPw hDw hS k9 0 hk9 rfl (m_in (n := 12) rfl (by omega) (by decide)) dX9_make_40 (fun H locs hPw hDw hS => ?_)
    rw [j_57] at hPw hDw
    have hP : ms (dC, dI) vwCl A [(fun q e => TW cy K (some s0) (U_node a1) (((0 : Int32), κr)) τ q e ∨ oW ob (K 0 0) tp q e), cel gp (gO ob bs qf (d + 1) nd 0 0), rwW cy 24 5 (qf 0) lr lv 0, cel (qf 1) (.inl (cy 0, 24, .inl (x1))), cel (qf 2) (.inl (cy 0, 24, .inl (x2))), cel (qf 3) (.inl (cy 0, 24, .inl (x3))), cel (qf 14) (.inl (cy 0, 12, .inl (upd w4 i ((-1)))))] H := hbk _ _ hPw hDw
    clear hbk hPw hDw hk9
    refine lv_iinc (v := nI (i + 1)) (lv' := [(1, .int (nI (i + 1))), (0, .ref gp)]) hx hb dX9_make_41 hl (k := 0) rfl (nI_1 i) (by decide) rfl (fun ls hl => ?_)
    refine lv_goto (tgt := 13) hx hb dX9_make_44 (by decide) ?_
    refine W.widen (k := (fun i => 0 + 0 + 0 * i) (i + 1)) (n := (fun i => 0 + 0 + 0 * i) (i + 1)) (by show 0 + 0 + 0 * i + 0 ≤ 0 + 0 + 0 * (i + 1); omega) (by show 0 + 0 + 0 * i + 0 ≤ 0 + 0 + 0 * (i + 1); omega) ?_
    exact ih () _ _ ls ⟨(U_node a1), (upd w4 i ((-1))), Bld.node _ _ _ _ _ k0 (by omega), hP, hS, lv_sub hl [0, 1] rfl⟩

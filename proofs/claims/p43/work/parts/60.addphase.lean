theorem tw_960 : Cond.fieldLink RX9 66 "TurnpikeLaw$Roads" "phase" "[[[I" ∈ tp_all := tp_mem 960 (by decide +kernel) rfl
theorem tw_929 : Cond.classLink RX9 20 "[I" ∈ tp_all := tp_mem 929 (by decide +kernel) rfl
theorem tw_1081 : Cond.methodLink RX9 91 ⟨"java/lang/System", "arraycopy", "(Ljava/lang/Object;ILjava/lang/Object;II)V"⟩ ∈ tp_all := tp_mem 1081 (by decide +kernel) rfl
theorem tw_1085 : Cond.code yX8_addPhase cX8_addPhase 6 (some .int) ∈ tp_all := tp_mem 1085 (by decide +kernel) rfl
theorem tw_1082 : Cond.methodLink RX9 132 yX8_addPhase ∈ tp_all := tp_mem 1082 (by decide +kernel) rfl
theorem tw_1083 : Cond.instanceMethod yX8_addPhase ∈ tp_all := tp_mem 1083 (by decide +kernel) rfl
theorem tw_1084 : Cond.selects RX8 yX8_addPhase yX8_addPhase ∈ tp_all := tp_mem 1084 (by decide +kernel) rfl
theorem dX9_addPhase_0 : decode cX9_addPhase 0 = .ok (.iconst 0, 1) := by decide +kernel
theorem dX9_addPhase_1 : decode cX9_addPhase 1 = .ok (.istore_n 2, 1) := by decide +kernel
theorem dX9_addPhase_2 : decode cX9_addPhase 2 = .ok (.iconst 0, 1) := by decide +kernel
theorem dX9_addPhase_3 : decode cX9_addPhase 3 = .ok (.istore_n 3, 1) := by decide +kernel
theorem dX9_addPhase_4 : decode cX9_addPhase 4 = .ok (.iload_n 3, 1) := by decide +kernel
theorem dX9_addPhase_5 : decode cX9_addPhase 5 = .ok (.aload_n 0, 1) := by decide +kernel
theorem dX9_addPhase_6 : decode cX9_addPhase 6 = .ok (.getfield 101, 3) := by decide +kernel
theorem dX9_addPhase_9 : decode cX9_addPhase 9 = .ok (.if_icmp .ge 35, 3) := by decide +kernel
theorem dX9_addPhase_44 : decode cX9_addPhase 44 = .ok (.iconst 1, 1) := by decide +kernel
theorem dX9_addPhase_45 : decode cX9_addPhase 45 = .ok (.aload_n 0, 1) := by decide +kernel
theorem dX9_addPhase_46 : decode cX9_addPhase 46 = .ok (.iconst 3, 1) := by decide +kernel
theorem dX9_addPhase_47 : decode cX9_addPhase 47 = .ok (.invokevirtual 97, 3) := by decide +kernel
theorem dX9_addPhase_50 : decode cX9_addPhase 50 = .ok (.iadd, 1) := by decide +kernel
theorem dX9_addPhase_51 : decode cX9_addPhase 51 = .ok (.istore_n 3, 1) := by decide +kernel
theorem dX9_addPhase_52 : decode cX9_addPhase 52 = .ok (.iconst 3, 1) := by decide +kernel
theorem dX9_addPhase_53 : decode cX9_addPhase 53 = .ok (.newarray .int, 2) := by decide +kernel
theorem dX9_addPhase_55 : decode cX9_addPhase 55 = .ok (.dup, 1) := by decide +kernel
theorem dX9_addPhase_56 : decode cX9_addPhase 56 = .ok (.iconst 0, 1) := by decide +kernel
theorem dX9_addPhase_57 : decode cX9_addPhase 57 = .ok (.iload_n 2, 1) := by decide +kernel
theorem dX9_addPhase_58 : decode cX9_addPhase 58 = .ok (.iastore, 1) := by decide +kernel
theorem dX9_addPhase_59 : decode cX9_addPhase 59 = .ok (.dup, 1) := by decide +kernel
theorem dX9_addPhase_60 : decode cX9_addPhase 60 = .ok (.iconst 1, 1) := by decide +kernel
theorem dX9_addPhase_61 : decode cX9_addPhase 61 = .ok (.iload_n 3, 1) := by decide +kernel
theorem dX9_addPhase_62 : decode cX9_addPhase 62 = .ok (.iastore, 1) := by decide +kernel
theorem dX9_addPhase_63 : decode cX9_addPhase 63 = .ok (.dup, 1) := by decide +kernel
theorem dX9_addPhase_64 : decode cX9_addPhase 64 = .ok (.iconst 2, 1) := by decide +kernel
theorem dX9_addPhase_65 : decode cX9_addPhase 65 = .ok (.iload_n 3, 1) := by decide +kernel
theorem dX9_addPhase_66 : decode cX9_addPhase 66 = .ok (.aload_n 0, 1) := by decide +kernel
theorem dX9_addPhase_67 : decode cX9_addPhase 67 = .ok (.iconst 4, 1) := by decide +kernel
theorem dX9_addPhase_68 : decode cX9_addPhase 68 = .ok (.invokevirtual 97, 3) := by decide +kernel
theorem dX9_addPhase_71 : decode cX9_addPhase 71 = .ok (.iadd, 1) := by decide +kernel
theorem dX9_addPhase_72 : decode cX9_addPhase 72 = .ok (.iastore, 1) := by decide +kernel
theorem dX9_addPhase_73 : decode cX9_addPhase 73 = .ok (.astore 4, 2) := by decide +kernel
theorem dX9_addPhase_75 : decode cX9_addPhase 75 = .ok (.aload_n 0, 1) := by decide +kernel
theorem dX9_addPhase_76 : decode cX9_addPhase 76 = .ok (.getfield 66, 3) := by decide +kernel
theorem dX9_addPhase_79 : decode cX9_addPhase 79 = .ok (.iload_n 1, 1) := by decide +kernel
theorem dX9_addPhase_80 : decode cX9_addPhase 80 = .ok (.aaload, 1) := by decide +kernel
theorem dX9_addPhase_81 : decode cX9_addPhase 81 = .ok (.arraylength, 1) := by decide +kernel
theorem dX9_addPhase_82 : decode cX9_addPhase 82 = .ok (.iconst 1, 1) := by decide +kernel
theorem dX9_addPhase_83 : decode cX9_addPhase 83 = .ok (.iadd, 1) := by decide +kernel
theorem dX9_addPhase_84 : decode cX9_addPhase 84 = .ok (.anewarray 20, 3) := by decide +kernel
theorem dX9_addPhase_87 : decode cX9_addPhase 87 = .ok (.astore 5, 2) := by decide +kernel
theorem dX9_addPhase_89 : decode cX9_addPhase 89 = .ok (.aload_n 0, 1) := by decide +kernel
theorem dX9_addPhase_90 : decode cX9_addPhase 90 = .ok (.getfield 66, 3) := by decide +kernel
theorem dX9_addPhase_93 : decode cX9_addPhase 93 = .ok (.iload_n 1, 1) := by decide +kernel
theorem dX9_addPhase_94 : decode cX9_addPhase 94 = .ok (.aaload, 1) := by decide +kernel
theorem dX9_addPhase_95 : decode cX9_addPhase 95 = .ok (.iconst 0, 1) := by decide +kernel
theorem dX9_addPhase_96 : decode cX9_addPhase 96 = .ok (.aload 5, 2) := by decide +kernel
theorem dX9_addPhase_98 : decode cX9_addPhase 98 = .ok (.iconst 0, 1) := by decide +kernel
theorem dX9_addPhase_99 : decode cX9_addPhase 99 = .ok (.aload_n 0, 1) := by decide +kernel
theorem dX9_addPhase_100 : decode cX9_addPhase 100 = .ok (.getfield 66, 3) := by decide +kernel
theorem dX9_addPhase_103 : decode cX9_addPhase 103 = .ok (.iload_n 1, 1) := by decide +kernel
theorem dX9_addPhase_104 : decode cX9_addPhase 104 = .ok (.aaload, 1) := by decide +kernel
theorem dX9_addPhase_105 : decode cX9_addPhase 105 = .ok (.arraylength, 1) := by decide +kernel
theorem dX9_addPhase_106 : decode cX9_addPhase 106 = .ok (.invokestatic 91, 3) := by decide +kernel
theorem dX9_addPhase_109 : decode cX9_addPhase 109 = .ok (.aload 5, 2) := by decide +kernel
theorem dX9_addPhase_111 : decode cX9_addPhase 111 = .ok (.aload_n 0, 1) := by decide +kernel
theorem dX9_addPhase_112 : decode cX9_addPhase 112 = .ok (.getfield 66, 3) := by decide +kernel
theorem dX9_addPhase_115 : decode cX9_addPhase 115 = .ok (.iload_n 1, 1) := by decide +kernel
theorem dX9_addPhase_116 : decode cX9_addPhase 116 = .ok (.aaload, 1) := by decide +kernel
theorem dX9_addPhase_117 : decode cX9_addPhase 117 = .ok (.arraylength, 1) := by decide +kernel
theorem dX9_addPhase_118 : decode cX9_addPhase 118 = .ok (.aload 4, 2) := by decide +kernel
theorem dX9_addPhase_120 : decode cX9_addPhase 120 = .ok (.aastore, 1) := by decide +kernel
theorem dX9_addPhase_121 : decode cX9_addPhase 121 = .ok (.aload_n 0, 1) := by decide +kernel
theorem dX9_addPhase_122 : decode cX9_addPhase 122 = .ok (.getfield 66, 3) := by decide +kernel
theorem dX9_addPhase_125 : decode cX9_addPhase 125 = .ok (.iload_n 1, 1) := by decide +kernel
theorem dX9_addPhase_126 : decode cX9_addPhase 126 = .ok (.aload 5, 2) := by decide +kernel
theorem dX9_addPhase_128 : decode cX9_addPhase 128 = .ok (.aastore, 1) := by decide +kernel
theorem dX9_addPhase_129 : decode cX9_addPhase 129 = .ok (.aload_n 0, 1) := by decide +kernel
theorem dX9_addPhase_130 : decode cX9_addPhase 130 = .ok (.getfield 10, 3) := by decide +kernel
theorem dX9_addPhase_133 : decode cX9_addPhase 133 = .ok (.iload_n 1, 1) := by decide +kernel
theorem dX9_addPhase_134 : decode cX9_addPhase 134 = .ok (.iload_n 2, 1) := by decide +kernel
theorem dX9_addPhase_135 : decode cX9_addPhase 135 = .ok (.aload 4, 2) := by decide +kernel
theorem dX9_addPhase_137 : decode cX9_addPhase 137 = .ok (.iconst 1, 1) := by decide +kernel
theorem dX9_addPhase_138 : decode cX9_addPhase 138 = .ok (.iaload, 1) := by decide +kernel
theorem dX9_addPhase_139 : decode cX9_addPhase 139 = .ok (.aload 4, 2) := by decide +kernel
theorem dX9_addPhase_141 : decode cX9_addPhase 141 = .ok (.iconst 2, 1) := by decide +kernel
theorem dX9_addPhase_142 : decode cX9_addPhase 142 = .ok (.iaload, 1) := by decide +kernel
theorem dX9_addPhase_143 : decode cX9_addPhase 143 = .ok (.invokevirtual 132, 3) := by decide +kernel
theorem dX9_addPhase_146 : decode cX9_addPhase 146 = .ok (.aload_n 0, 1) := by decide +kernel
theorem dX9_addPhase_147 : decode cX9_addPhase 147 = .ok (.getfield 66, 3) := by decide +kernel
theorem dX9_addPhase_150 : decode cX9_addPhase 150 = .ok (.iload_n 1, 1) := by decide +kernel
theorem dX9_addPhase_151 : decode cX9_addPhase 151 = .ok (.aaload, 1) := by decide +kernel
theorem dX9_addPhase_152 : decode cX9_addPhase 152 = .ok (.arraylength, 1) := by decide +kernel
theorem dX9_addPhase_153 : decode cX9_addPhase 153 = .ok (.iconst 1, 1) := by decide +kernel
theorem dX9_addPhase_154 : decode cX9_addPhase 154 = .ok (.isub, 1) := by decide +kernel
theorem dX9_addPhase_155 : decode cX9_addPhase 155 = .ok (.if_icmp .ne 7, 3) := by decide +kernel
theorem dX9_addPhase_158 : decode cX9_addPhase 158 = .ok (.iconst 1, 1) := by decide +kernel
theorem dX9_addPhase_159 : decode cX9_addPhase 159 = .ok (.goto 4, 3) := by decide +kernel
theorem dX9_addPhase_163 : decode cX9_addPhase 163 = .ok (.ireturn, 1) := by decide +kernel
theorem dX9_addPhase_12 : decode cX9_addPhase 12 = .ok (.aload_n 0, 1) := by decide +kernel
theorem dX9_addPhase_13 : decode cX9_addPhase 13 = .ok (.getfield 22, 3) := by decide +kernel
theorem dX9_addPhase_16 : decode cX9_addPhase 16 = .ok (.iload_n 3, 1) := by decide +kernel
theorem dX9_addPhase_17 : decode cX9_addPhase 17 = .ok (.aaload, 1) := by decide +kernel
theorem dX9_addPhase_18 : decode cX9_addPhase 18 = .ok (.iconst 1, 1) := by decide +kernel
theorem dX9_addPhase_19 : decode cX9_addPhase 19 = .ok (.iaload, 1) := by decide +kernel
theorem dX9_addPhase_20 : decode cX9_addPhase 20 = .ok (.iload_n 1, 1) := by decide +kernel
theorem dX9_addPhase_21 : decode cX9_addPhase 21 = .ok (.if_icmp .ne 17, 3) := by decide +kernel
theorem dX9_addPhase_38 : decode cX9_addPhase 38 = .ok (.iinc 3 1, 3) := by decide +kernel
theorem dX9_addPhase_41 : decode cX9_addPhase 41 = .ok (.goto (-37), 3) := by decide +kernel
theorem dX9_addPhase_24 : decode cX9_addPhase 24 = .ok (.aload_n 0, 1) := by decide +kernel
theorem dX9_addPhase_25 : decode cX9_addPhase 25 = .ok (.iconst 2, 1) := by decide +kernel
theorem dX9_addPhase_26 : decode cX9_addPhase 26 = .ok (.invokevirtual 97, 3) := by decide +kernel
theorem dX9_addPhase_29 : decode cX9_addPhase 29 = .ok (.ifCond .ne 9, 3) := by decide +kernel
theorem dX9_addPhase_32 : decode cX9_addPhase 32 = .ok (.iload_n 2, 1) := by decide +kernel
theorem dX9_addPhase_33 : decode cX9_addPhase 33 = .ok (.iconst 1, 1) := by decide +kernel
theorem dX9_addPhase_34 : decode cX9_addPhase 34 = .ok (.iload_n 3, 1) := by decide +kernel
theorem dX9_addPhase_35 : decode cX9_addPhase 35 = .ok (.ishl, 1) := by decide +kernel
theorem dX9_addPhase_36 : decode cX9_addPhase 36 = .ok (.ior, 1) := by decide +kernel
theorem dX9_addPhase_37 : decode cX9_addPhase 37 = .ok (.istore_n 2, 1) := by decide +kernel
set_option maxRecDepth 100000 in
set_option maxHeartbeats 4000000 in
/-- TurnpikeLaw.Roads.addPhase -/
theorem c_law_addPhase (l : Launch) (dC : Nat → ClassId) (dI : Nat → Nat → Nat) (cy : Nat → ClassId) (bs Ls : Nat) (xs : Nat → Int32) (gp : Nat) (ob : Nat) (qf : Nat → Nat) (d : Nat) (nd : Nat) (nl : Nat) (K : Lay) (s0 : Nat) (tp : Nat) (a : St) (κr : Nat → Nat → Int32) (τ : Tau) (lr : Nat → Nat) (lv : Tb) (pl : Nat → Nat) (fv : Tb) (pr : Nat → Nat) (pe : Nat → Nat → Nat) (px : Nat → Nat → Nat → Int32) (nA : Nat) (sz : Nat) (hT : TL K (some s0) τ) (kB : Bld a nd nl lv pl 0 fv) (kn : nA < nd) (kp : pl nA < 4) (kd : d < 900000) : Met l yX9_addPhase (tp_w yX9_addPhase cX9_addPhase 6 (some .boolean)) ({ frames := 2, cells := 2, slots := 7, locals := 48 }) (va_Pc [.ref gp, .int (nI nA)] (gPre dC dI cy bs Ls xs [(fun q e => TW cy K (some s0) a (((0 : Int32), κr)) τ q e ∨ oW ob (K 0 0) tp q e), cel gp (gO ob bs qf d nd nl 0), rwW cy 24 5 (qf 0) lr lv nl, cel (qf 13) (arQ (cy 10) 12 (fun n => some (pr n))), prW cy pr pl pe, peW cy pl pe px] sz)) (va_Qi (fun (r u : Int32) => r = u) (fun (u : Int32) (t : State) => ∃ (a2 : St), ∃ (d2 : Nat), ∃ (pl2 : Nat → Nat), ∃ (pr2 : Nat → Nat), ∃ (pe2 : Nat → Nat → Nat), ∃ (px2 : Nat → Nat → Nat → Int32), (u = 1) ∧ (Bld a2 nd nl lv pl2 0 fv) ∧ (pl2 = up2 pl nA (pl nA + 1)) ∧ (d2 ≤ d + 40) ∧ ms (dC, dI) vwCl (mA (anyP [(fun q e => TW cy K (some s0) a (((0 : Int32), κr)) τ q e ∨ oW ob (K 0 0) tp q e), cel gp (gO ob bs qf d nd nl 0), rwW cy 24 5 (qf 0) lr lv nl, cel (qf 13) (arQ (cy 10) 12 (fun n => some (pr n))), prW cy pr pl pe, peW cy pl pe px]) sz) [(fun q e => TW cy K (some s0) a2 (((0 : Int32), κr)) τ q e ∨ oW ob (K 0 0) tp q e), cel gp (gO ob bs qf d2 nd nl 0), rwW cy 24 5 (qf 0) lr lv nl, cel (qf 13) (arQ (cy 10) 12 (fun n => some (pr2 n))), prW cy pr2 pl2 pe2, peW cy pl2 pe2 px2] t.heap) (mA (anyP [(fun q e => TW cy K (some s0) a (((0 : Int32), κr)) τ q e ∨ oW ob (K 0 0) tp q e), cel gp (gO ob bs qf d nd nl 0), rwW cy 24 5 (qf 0) lr lv nl, cel (qf 13) (arQ (cy 10) 12 (fun n => some (pr n))), prW cy pr pl pe, peW cy pl pe px]) sz)) (2) (7) (mA (anyP [(fun q e => TW cy K (some s0) a (((0 : Int32), κr)) τ q e ∨ oW ob (K 0 0) tp q e), cel gp (gO ob bs qf d nd nl 0), rwW cy 24 5 (qf 0) lr lv nl, cel (qf 13) (arQ (cy 10) 12 (fun n => some (pr n))), prW cy pr pl pe, peW cy pl pe px]) sz) := by
  refine Met.ofW (cc := cX9_addPhase) (maxL := 6) (ret := (some .boolean)) (by decide) rfl ?_
  intro p e s m args below meth c s₁ B hml hv
  obtain ⟨rfl, hsz, hP, hK, hE, hX, hbl, hbL, hbn⟩ := hv
  have hx := B.exec
  have hb := B.bytes
  have hr := B.returns
  have hts0 := atoms_spec (ws := tp_w yX9_addPhase cX9_addPhase 6 (some .boolean)) B.pre
  have hts : ∀ w ∈ tp_all, w.before _ s = true := fun w h => hts0 w (List.mem_cons_of_mem _ h)
  have hown : s.vm.findClass RX9 = some m.cls := findClass_of_methodNamed B.named
  have hlocks := B.notSynchronized
  subst hsz
  have hP := hP.self s.heap.size
  have hbA : ¬ mA (anyP [(fun q e => TW cy K (some s0) a (((0 : Int32), κr)) τ q e ∨ oW ob (K 0 0) tp q e), cel gp (gO ob bs qf d nd nl 0), rwW cy 24 5 (qf 0) lr lv nl, cel (qf 13) (arQ (cy 10) 12 (fun n => some (pr n))), prW cy pr pl pe, peW cy pl pe px]) s.heap.size bs := by
    rintro (⟨e9, he⟩ | h9)
    · exact hbn e9 he
    · omega
  generalize hAe : mA (anyP [(fun q e => TW cy K (some s0) a (((0 : Int32), κr)) τ q e ∨ oW ob (K 0 0) tp q e), cel gp (gO ob bs qf d nd nl 0), rwW cy 24 5 (qf 0) lr lv nl, cel (qf 13) (arQ (cy 10) 12 (fun n => some (pr n))), prW cy pr pl pe, peW cy pl pe px]) s.heap.size = A at hP hbA ⊢
  have hA : ∀ q : Nat, s.heap.size ≤ q → A q := fun q h => by rw [← hAe]; exact Or.inr h
  have hS : va_S A s.heap s.heap [] := va_S.rf
  have hl9 := lv_entry ([.ref gp, .int (nI nA)]) (n := 6) (Nat.le_of_ble_eq_true rfl)
  rw [lg_entry_eq]
  generalize (lg_sl ([.ref gp, .int (nI nA)]) ++ List.replicate (6 - (lg_sl ([.ref gp, .int (nI nA)])).length) Slot.unset).toArray = ls at hl9 ⊢
  have hl : lv_has ls 6 [(0, .ref gp), (1, .int (nI nA))] := hl9
  have h0 := kB.b0
  have h12 := h0.1.2.2.2.1
  have h24 := h0.1.2.2.2.2.2.1
  have hn12 : nA < 12 := by omega
  refine lv_iconst (v := 0) hx hb dX9_addPhase_0 (by decide) ?_
  refine lv_istore_n (lv' := [(2, .int 0), (0, .ref gp), (1, .int (nI nA))]) hx hb dX9_addPhase_1 rfl hl (by decide) rfl (fun ls hl => ?_)
  refine lv_iconst (v := 0) hx hb dX9_addPhase_2 (by decide) ?_
  refine lv_istore_n (lv' := [(3, .int 0), (2, .int 0), (0, .ref gp), (1, .int (nI nA))]) hx hb dX9_addPhase_3 rfl hl (by decide) rfl (fun ls hl => ?_)
  refine W.widen (k := (fun i => 0 + 0 * i) 0) (n := (fun i => 0 + 0 * i) 0) (Nat.le_refl _) (Nat.le_refl _) ?_
  refine tp_for (σ := Unit) nl (fun i => 0 + 0 * i) (fun i => 0 + 0 * i) (fun (i : Nat) (_ : Unit) (H : Heap) (locs : List Loc) (ls : Array Slot) => ∃ (yy : Int32), ∃ (d1 : Nat), (PS lv nA yy i) ∧ (d1 ≤ d + i) ∧ ms (dC, dI) vwCl A [(fun q e => TW cy K (some s0) a (((0 : Int32), κr)) τ q e ∨ oW ob (K 0 0) tp q e), cel gp (gO ob bs qf d1 nd nl 0), rwW cy 24 5 (qf 0) lr lv nl, cel (qf 13) (arQ (cy 10) 12 (fun n => some (pr n))), prW cy pr pl pe, peW cy pl pe px] H ∧ va_S A s.heap H locs ∧ lv_has ls 6 [(3, .int (nI i)), (2, .int yy), (0, .ref gp), (1, .int (nI nA))]) ?_ ?_ nl 0 (Nat.zero_add _) () _ _ ls ⟨0, d, PS.zero, (by omega), hP, hS, lv_sub hl [0, 1, 2, 3] rfl⟩
  · rintro _ H locs ls ⟨yy, d1, k0, k1, hP, hS, hl⟩
    have hl : lv_has ls 6 [(3, .int (nI nl)), (2, .int yy), (0, .ref gp), (1, .int (nI nA))] := hl
    show W _ _ _ _ _ _ _ _ _ _ _ _ (0 + 0 * nl) (0 + 0 * nl) _ _
    refine lv_iload_n hx hb dX9_addPhase_4 rfl (lv_at hl 0 rfl) ?_
    refine lv_aload_n hx hb dX9_addPhase_5 rfl (lv_at hl 2 rfl) ?_
    refine va_get (D := (dC, dI)) (ws := [(gp, .inr (9, [.ref ob, .ref bs, .int (nI d1), .int (nI nd), .int 0, .int 1, .int (nI nl), .ref (qf 0), .ref (qf 1), .ref (qf 2), .ref (qf 3), .ref (qf 4), .ref (qf 5), .ref (qf 6), .ref (qf 7), .ref (qf 8), .int (nI 0), .ref (qf 9), .int 0, .ref (qf 10), .ref (qf 11), .ref (qf 12), .ref (qf 13), .ref (qf 14), .ref (qf 15)]))]) (ci := 9) (v := .int (nI nl)) (C := RX9) (T := TX9) (N := 25) hx hb hts tl_X9 hown hK (hP.one 1 rfl cel_in) 0 rfl rfl 6 (by decide) (hts _ tw_942) (fun _ h9 => h9) rfl dX9_addPhase_6 ?_
    refine lv_icmp_ge (tgt := 44) hx hb dX9_addPhase_9 (by decide) (fun _ => ?_) (fun c_1 => absurd (Int32.le_refl _) c_1)
    refine lv_iconst (v := 1) hx hb dX9_addPhase_44 (by decide) ?_
    refine lv_aload_n hx hb dX9_addPhase_45 rfl (lv_at hl 2 rfl) ?_
    refine lv_iconst (v := 3) hx hb dX9_addPhase_46 (by decide) ?_
    have hPc : ms (dC, dI) vwCl A ([cel gp (gO ob bs qf d1 nd nl 0)] ++ [(fun q e => TW cy K (some s0) a (((0 : Int32), κr)) τ q e ∨ oW ob (K 0 0) tp q e), rwW cy 24 5 (qf 0) lr lv nl, cel (qf 13) (arQ (cy 10) 12 (fun n => some (pr n))), prW cy pr pl pe, peW cy pl pe px]) H := hP.sel [1, 0, 2, 3, 4, 5] rfl (by decide)
    have hFc := g_free hPc hS hA
    refine va_calli (va_runV (As := [.int 3]) (rest := [.int 1]) ⟨hx, hb, hml, hown, hts⟩ (c_draw l dC dI cy bs Ls xs gp ob qf d1 nd nl 0 3 H.size (by first | assumption | omega) (by first | assumption | omega) (by first | assumption | omega)) (tp_cwV 1 hts tw_1031 tw_1016 tw_1017 tw_19 tw_1018 rfl rfl (by decide +kernel) ⟨Nat.le_of_ble_eq_true rfl, Nat.le_of_ble_eq_true rfl⟩) ⟨g_blind, va_recv hK (hP.one (e := .inr (9, [.ref ob, .ref bs, .int (nI d1), .int (nI nd), .int 0, .int 1, .int (nI nl), .ref (qf 0), .ref (qf 1), .ref (qf 2), .ref (qf 3), .ref (qf 4), .ref (qf 5), .ref (qf 6), .ref (qf 7), .ref (qf 8), .int (nI 0), .ref (qf 9), .int 0, .ref (qf 10), .ref (qf 11), .ref (qf 12), .ref (qf 13), .ref (qf 14), .ref (qf 15)])) 1 rfl cel_in) (ci := 9) (q0 := 0) rfl rfl, fun U hU hW => ⟨rfl, g_pay hK hPc hE hX hbl hbL hbA hS U hU hW⟩⟩ rfl rfl hl.1 rfl (lv_room (Nat.le_of_ble_eq_true rfl)) dX9_addPhase_47 ⟨(by show 0 + 0 * nl + 0 ≤ 2; omega), (by show 0 + 0 * nl + 0 ≤ 7; omega)⟩) hS (fun q _ h => hFc q h) hFc (fun r_2 u t H1 locs ht hvm hpo hB hz1 hk1 hS => ?_)
    obtain rfl := hpo
    obtain ⟨z_3, f_4, f_5, hP1⟩ := hB
    rw [ht] at hP1
    have hPj := hPc.calls hk1 hFc hP1
    have hP : ms (dC, dI) vwCl A [(fun q e => TW cy K (some s0) a (((0 : Int32), κr)) τ q e ∨ oW ob (K 0 0) tp q e), cel gp (gO ob bs qf (d1 + 1) nd nl 0), rwW cy 24 5 (qf 0) lr lv nl, cel (qf 13) (arQ (cy 10) 12 (fun n => some (pr n))), prW cy pr pl pe, peW cy pl pe px] H1 := hPj.sel [1, 0, 2, 3, 4, 5] rfl (by decide)
    clear hPj hPc hP1 hk1 hFc
    generalize H1 = H at hP hS ⊢
    subst f_5
    have qL := f_4
    refine lv_iadd hx hb dX9_addPhase_50 ?_
    refine W.eq (g2 := F0 m 51 ls [.int (nI (1 + z_3))]) (by rw [show (1 : Int32) = nI 1 from rfl, nI_add]) ?_
    refine lv_istore_n (lv' := [(3, .int (nI (1 + z_3))), (2, .int yy), (0, .ref gp), (1, .int (nI nA))]) hx hb dX9_addPhase_51 rfl hl (by decide) rfl (fun ls hl => ?_)
    refine lv_iconst (v := 3) hx hb dX9_addPhase_52 (by decide) ?_
    obtain ⟨ws9, hPw, hDw, -, hbk⟩ := hP.push
    refine va_newa hx hb (atype := .int) (hts _ tw_623) (ty := .int) rfl hK hPw hDw hS hA (a0 := (3, .inl (fun _ => 0))) (N' := 3) (fun _ => rfl) (by decide) (by decide) (Nat.le_of_ble_eq_true rfl) (by show 0 + 0 * nl + 0 + 1 ≤ 2; omega) (by show 0 + 0 * nl + 0 + 3 ≤ 7; omega) dX9_addPhase_53 (fun a_6 k9 H hK9 hPw hDw hS => ?_)
    obtain rfl : k9 = cy 0 := tp_one hK9 11 0 rfl rfl
    have hP : ms (dC, dI) vwCl A [(fun q e => TW cy K (some s0) a (((0 : Int32), κr)) τ q e ∨ oW ob (K 0 0) tp q e), cel gp (gO ob bs qf (d1 + 1) nd nl 0), rwW cy 24 5 (qf 0) lr lv nl, cel (qf 13) (arQ (cy 10) 12 (fun n => some (pr n))), prW cy pr pl pe, peW cy pl pe px, cel a_6 (.inl (cy 0, 3, .inl (fun _ => 0)))] H := hbk _ _ _ hPw hDw
    clear hbk hPw hDw hK9
    refine lv_dup hx hb dX9_addPhase_55 rfl ?_
    refine lv_iconst (v := 0) hx hb dX9_addPhase_56 (by decide) ?_
    refine lv_iload_n hx hb dX9_addPhase_57 rfl (lv_at hl 1 rfl) ?_
    have j_7 : (0 : Int32).toNatClampNeg = 0 := m_cl (n := 3) rfl (by decide) (by decide)
    obtain ⟨ws9, k9, hPw, hDw, hk9, -, hbk⟩ := hP.cutc (e := .inl (cy 0, 3, .inl (fun _ => 0))) 6 rfl
    refine va_iast hx hb hK hPw hDw hS k9 0 hk9 rfl (m_in (n := 3) rfl (by decide) (by decide)) dX9_addPhase_58 (fun H locs hPw hDw hS => ?_)
    rw [j_7] at hPw hDw
    have hP : ms (dC, dI) vwCl A [(fun q e => TW cy K (some s0) a (((0 : Int32), κr)) τ q e ∨ oW ob (K 0 0) tp q e), cel gp (gO ob bs qf (d1 + 1) nd nl 0), rwW cy 24 5 (qf 0) lr lv nl, cel (qf 13) (arQ (cy 10) 12 (fun n => some (pr n))), prW cy pr pl pe, peW cy pl pe px, cel a_6 (.inl (cy 0, 3, .inl (upd (fun _ => 0) 0 yy)))] H := hbk _ _ hPw hDw
    clear hbk hPw hDw hk9
    refine lv_dup hx hb dX9_addPhase_59 rfl ?_
    refine lv_iconst (v := 1) hx hb dX9_addPhase_60 (by decide) ?_
    refine lv_iload_n hx hb dX9_addPhase_61 rfl (lv_at hl 0 rfl) ?_
    have j_8 : (1 : Int32).toNatClampNeg = 1 := m_cl (n := 3) rfl (by decide) (by decide)
    obtain ⟨ws9, k9, hPw, hDw, hk9, -, hbk⟩ := hP.cutc (e := .inl (cy 0, 3, .inl (upd (fun _ => 0) 0 yy))) 6 rfl
    refine va_iast hx hb hK hPw hDw hS k9 0 hk9 rfl (m_in (n := 3) rfl (by decide) (by decide)) dX9_addPhase_62 (fun H locs hPw hDw hS => ?_)
    rw [j_8] at hPw hDw
    have hP : ms (dC, dI) vwCl A [(fun q e => TW cy K (some s0) a (((0 : Int32), κr)) τ q e ∨ oW ob (K 0 0) tp q e), cel gp (gO ob bs qf (d1 + 1) nd nl 0), rwW cy 24 5 (qf 0) lr lv nl, cel (qf 13) (arQ (cy 10) 12 (fun n => some (pr n))), prW cy pr pl pe, peW cy pl pe px, cel a_6 (.inl (cy 0, 3, .inl (upd (upd (fun _ => 0) 0 yy) 1 (nI (1 + z_3)))))] H := hbk _ _ hPw hDw
    clear hbk hPw hDw hk9
    refine lv_dup hx hb dX9_addPhase_63 rfl ?_
    refine lv_iconst (v := 2) hx hb dX9_addPhase_64 (by decide) ?_
    refine lv_iload_n hx hb dX9_addPhase_65 rfl (lv_at hl 0 rfl) ?_
    refine lv_aload_n hx hb dX9_addPhase_66 rfl (lv_at hl 2 rfl) ?_
    refine lv_iconst (v := 4) hx hb dX9_addPhase_67 (by decide) ?_
    have hPc : ms (dC, dI) vwCl A ([cel gp (gO ob bs qf (d1 + 1) nd nl 0)] ++ [(fun q e => TW cy K (some s0) a (((0 : Int32), κr)) τ q e ∨ oW ob (K 0 0) tp q e), rwW cy 24 5 (qf 0) lr lv nl, cel (qf 13) (arQ (cy 10) 12 (fun n => some (pr n))), prW cy pr pl pe, peW cy pl pe px, cel a_6 (.inl (cy 0, 3, .inl (upd (upd (fun _ => 0) 0 yy) 1 (nI (1 + z_3)))))]) H := hP.sel [1, 0, 2, 3, 4, 5, 6] rfl (by decide)
    have hFc := g_free hPc hS hA
    refine va_calli (va_runV (As := [.int 4]) (rest := [.int (nI (1 + z_3)), .int 2, .ref a_6, .ref a_6]) ⟨hx, hb, hml, hown, hts⟩ (c_draw l dC dI cy bs Ls xs gp ob qf (d1 + 1) nd nl 0 4 H.size (by first | assumption | omega) (by first | assumption | omega) (by first | assumption | omega)) (tp_cwV 1 hts tw_1031 tw_1016 tw_1017 tw_19 tw_1018 rfl rfl (by decide +kernel) ⟨Nat.le_of_ble_eq_true rfl, Nat.le_of_ble_eq_true rfl⟩) ⟨g_blind, va_recv hK (hP.one (e := .inr (9, [.ref ob, .ref bs, .int (nI (d1 + 1)), .int (nI nd), .int 0, .int 1, .int (nI nl), .ref (qf 0), .ref (qf 1), .ref (qf 2), .ref (qf 3), .ref (qf 4), .ref (qf 5), .ref (qf 6), .ref (qf 7), .ref (qf 8), .int (nI 0), .ref (qf 9), .int 0, .ref (qf 10), .ref (qf 11), .ref (qf 12), .ref (qf 13), .ref (qf 14), .ref (qf 15)])) 1 rfl cel_in) (ci := 9) (q0 := 0) rfl rfl, fun U hU hW => ⟨rfl, g_pay hK hPc hE hX hbl hbL hbA hS U hU hW⟩⟩ rfl rfl hl.1 rfl (lv_room (Nat.le_of_ble_eq_true rfl)) dX9_addPhase_68 ⟨(by show 0 + 0 * nl + 0 + 1 + 0 ≤ 2; omega), (by show 0 + 0 * nl + 0 + 3 + 0 ≤ 7; omega)⟩) hS (fun q _ h => hFc q h) hFc (fun r_9 u t H1 locs ht hvm hpo hB hz1 hk1 hS => ?_)
    obtain rfl := hpo
    obtain ⟨z_10, f_11, f_12, hP1⟩ := hB
    rw [ht] at hP1
    have hPj := hPc.calls hk1 hFc hP1
    have hP : ms (dC, dI) vwCl A [(fun q e => TW cy K (some s0) a (((0 : Int32), κr)) τ q e ∨ oW ob (K 0 0) tp q e), cel gp (gO ob bs qf (d1 + 1 + 1) nd nl 0), rwW cy 24 5 (qf 0) lr lv nl, cel (qf 13) (arQ (cy 10) 12 (fun n => some (pr n))), prW cy pr pl pe, peW cy pl pe px, cel a_6 (.inl (cy 0, 3, .inl (upd (upd (fun _ => 0) 0 yy) 1 (nI (1 + z_3)))))] H1 := hPj.sel [1, 0, 2, 3, 4, 5, 6] rfl (by decide)
    clear hPj hPc hP1 hk1 hFc
    generalize H1 = H at hP hS ⊢
    subst f_12
    have qG := f_11
    refine lv_iadd hx hb dX9_addPhase_71 ?_
    refine W.eq (g2 := F0 m 72 ls [.int (nI (1 + z_3 + z_10)), .int 2, .ref a_6, .ref a_6]) (by rw [nI_add]) ?_
    have j_13 : (2 : Int32).toNatClampNeg = 2 := m_cl (n := 3) rfl (by decide) (by decide)
    obtain ⟨ws9, k9, hPw, hDw, hk9, -, hbk⟩ := hP.cutc (e := .inl (cy 0, 3, .inl (upd (upd (fun _ => 0) 0 yy) 1 (nI (1 + z_3))))) 6 rfl
    refine va_iast hx hb hK hPw hDw hS k9 0 hk9 rfl (m_in (n := 3) rfl (by decide) (by decide)) dX9_addPhase_72 (fun H locs hPw hDw hS => ?_)
    rw [j_13] at hPw hDw
    have hP : ms (dC, dI) vwCl A [(fun q e => TW cy K (some s0) a (((0 : Int32), κr)) τ q e ∨ oW ob (K 0 0) tp q e), cel gp (gO ob bs qf (d1 + 1 + 1) nd nl 0), rwW cy 24 5 (qf 0) lr lv nl, cel (qf 13) (arQ (cy 10) 12 (fun n => some (pr n))), prW cy pr pl pe, peW cy pl pe px, cel a_6 (.inl (cy 0, 3, .inl (upd (upd (upd (fun _ => 0) 0 yy) 1 (nI (1 + z_3))) 2 (nI (1 + z_3 + z_10)))))] H := hbk _ _ hPw hDw
    clear hbk hPw hDw hk9
    refine lv_astore (lv' := [(4, .ref a_6), (3, .int (nI (1 + z_3))), (2, .int yy), (0, .ref gp), (1, .int (nI nA))]) hx hb dX9_addPhase_73 hl (by decide) rfl (fun ls hl => ?_)
    refine lv_aload_n hx hb dX9_addPhase_75 rfl (lv_at hl 3 rfl) ?_
    refine va_get (D := (dC, dI)) (ws := [(gp, .inr (9, [.ref ob, .ref bs, .int (nI (d1 + 1 + 1)), .int (nI nd), .int 0, .int 1, .int (nI nl), .ref (qf 0), .ref (qf 1), .ref (qf 2), .ref (qf 3), .ref (qf 4), .ref (qf 5), .ref (qf 6), .ref (qf 7), .ref (qf 8), .int (nI 0), .ref (qf 9), .int 0, .ref (qf 10), .ref (qf 11), .ref (qf 12), .ref (qf 13), .ref (qf 14), .ref (qf 15)]))]) (ci := 9) (v := .ref (qf 13)) (C := RX9) (T := TX9) (N := 25) hx hb hts tl_X9 hown hK (hP.one 1 rfl cel_in) 0 rfl rfl 22 (by decide) (hts _ tw_960) (fun _ h9 => h9) rfl dX9_addPhase_76 ?_
    refine lv_iload_n hx hb dX9_addPhase_79 rfl (lv_at hl 4 rfl) ?_
    refine m_aldA hx hb hK (ws := [(qf 13, arQ (cy 10) 12 (fun n => some (pr n)))]) (hP.one 3 rfl cel_in) 0 10 rfl rfl (m_in (n := 12) rfl (by omega) (by decide)) dX9_addPhase_80 ?_
    refine W.eq (g2 := F0 m 81 ls [.ref (pr nA)]) (by rw [nI_clamp (by omega)]; rfl) ?_
    refine va_alen hx hb hK (ws := [(pr nA, arQ (cy 8) (pl nA) (fun j => if j < pl nA then some (pe nA j) else none))]) (hP.one 4 rfl ⟨nA, hn12, rfl, rfl⟩) 0 8 rfl rfl (v := nI (pl nA)) rfl dX9_addPhase_81 ?_
    refine lv_iconst (v := 1) hx hb dX9_addPhase_82 (by decide) ?_
    refine lv_iadd hx hb dX9_addPhase_83 ?_
    refine W.eq (g2 := F0 m 84 ls [.int (nI (pl nA + 1))]) (by rw [nI_1]) ?_
    obtain ⟨ws9, hPw, hDw, -, hbk⟩ := hP.push
    refine m_newqA hx hb (ty := .int) (N' := pl nA + 1) hown (by rw [k_s1I]; exact hts _ tw_929) (hE.2.2.2 _ (List.mem_of_getElem? (i := 0) rfl)) hK hPw hDw hS hA (nI_nneg (by omega)) (nI_clamp (by omega)) (by omega) (by show 0 + 0 * nl + 0 + 1 + 0 + 1 ≤ 2; omega) (by show 0 + 0 * nl + 0 + 3 + 0 + (pl nA + 1) ≤ 7; omega) dX9_addPhase_84 (fun q5 k9 H hK9 hPw hDw hS => ?_)
    obtain rfl : k9 = cy 8 := tp_one hK9 11 8 rfl rfl
    have hP : ms (dC, dI) vwCl A [(fun q e => TW cy K (some s0) a (((0 : Int32), κr)) τ q e ∨ oW ob (K 0 0) tp q e), cel gp (gO ob bs qf (d1 + 1 + 1) nd nl 0), rwW cy 24 5 (qf 0) lr lv nl, cel (qf 13) (arQ (cy 10) 12 (fun n => some (pr n))), prW cy pr pl pe, peW cy pl pe px, cel a_6 (.inl (cy 0, 3, .inl (upd (upd (upd (fun _ => 0) 0 yy) 1 (nI (1 + z_3))) 2 (nI (1 + z_3 + z_10))))), cel q5 (arQ (cy 8) (pl nA + 1) (fun _ => none))] H := hbk _ _ _ hPw hDw
    clear hbk hPw hDw hK9
    refine lv_astore (lv' := [(5, .ref q5), (4, .ref a_6), (3, .int (nI (1 + z_3))), (2, .int yy), (0, .ref gp), (1, .int (nI nA))]) hx hb dX9_addPhase_87 hl (by decide) rfl (fun ls hl => ?_)
    refine lv_aload_n hx hb dX9_addPhase_89 rfl (lv_at hl 4 rfl) ?_
    refine va_get (D := (dC, dI)) (ws := [(gp, .inr (9, [.ref ob, .ref bs, .int (nI (d1 + 1 + 1)), .int (nI nd), .int 0, .int 1, .int (nI nl), .ref (qf 0), .ref (qf 1), .ref (qf 2), .ref (qf 3), .ref (qf 4), .ref (qf 5), .ref (qf 6), .ref (qf 7), .ref (qf 8), .int (nI 0), .ref (qf 9), .int 0, .ref (qf 10), .ref (qf 11), .ref (qf 12), .ref (qf 13), .ref (qf 14), .ref (qf 15)]))]) (ci := 9) (v := .ref (qf 13)) (C := RX9) (T := TX9) (N := 25) hx hb hts tl_X9 hown hK (hP.one 1 rfl cel_in) 0 rfl rfl 22 (by decide) (hts _ tw_960) (fun _ h9 => h9) rfl dX9_addPhase_90 ?_
    refine lv_iload_n hx hb dX9_addPhase_93 rfl (lv_at hl 5 rfl) ?_
    refine m_aldA hx hb hK (ws := [(qf 13, arQ (cy 10) 12 (fun n => some (pr n)))]) (hP.one 3 rfl cel_in) 0 10 rfl rfl (m_in (n := 12) rfl (by omega) (by decide)) dX9_addPhase_94 ?_
    refine W.eq (g2 := F0 m 95 ls [.ref (pr nA)]) (by rw [nI_clamp (by omega)]; rfl) ?_
    refine lv_iconst (v := 0) hx hb dX9_addPhase_95 (by decide) ?_
    refine lv_aload hx hb dX9_addPhase_96 (lv_at hl 0 rfl) ?_
    refine lv_iconst (v := 0) hx hb dX9_addPhase_98 (by decide) ?_
    refine lv_aload_n hx hb dX9_addPhase_99 rfl (lv_at hl 4 rfl) ?_
    refine va_get (D := (dC, dI)) (ws := [(gp, .inr (9, [.ref ob, .ref bs, .int (nI (d1 + 1 + 1)), .int (nI nd), .int 0, .int 1, .int (nI nl), .ref (qf 0), .ref (qf 1), .ref (qf 2), .ref (qf 3), .ref (qf 4), .ref (qf 5), .ref (qf 6), .ref (qf 7), .ref (qf 8), .int (nI 0), .ref (qf 9), .int 0, .ref (qf 10), .ref (qf 11), .ref (qf 12), .ref (qf 13), .ref (qf 14), .ref (qf 15)]))]) (ci := 9) (v := .ref (qf 13)) (C := RX9) (T := TX9) (N := 25) hx hb hts tl_X9 hown hK (hP.one 1 rfl cel_in) 0 rfl rfl 22 (by decide) (hts _ tw_960) (fun _ h9 => h9) rfl dX9_addPhase_100 ?_
    refine lv_iload_n hx hb dX9_addPhase_103 rfl (lv_at hl 5 rfl) ?_
    refine m_aldA hx hb hK (ws := [(qf 13, arQ (cy 10) 12 (fun n => some (pr n)))]) (hP.one 3 rfl cel_in) 0 10 rfl rfl (m_in (n := 12) rfl (by omega) (by decide)) dX9_addPhase_104 ?_
    refine W.eq (g2 := F0 m 105 ls [.ref (pr nA), .int 0, .ref q5, .int 0, .ref (pr nA)]) (by rw [nI_clamp (by omega)]; rfl) ?_
    refine va_alen hx hb hK (ws := [(pr nA, arQ (cy 8) (pl nA) (fun j => if j < pl nA then some (pe nA j) else none))]) (hP.one 4 rfl ⟨nA, hn12, rfl, rfl⟩) 0 8 rfl rfl (v := nI (pl nA)) rfl dX9_addPhase_105 ?_
    obtain ⟨ws9, k9, hPw, hDw, hk9, hin9, hbk⟩ := hP.cutc (e := arQ (cy 8) (pl nA + 1) (fun _ => none)) 7 rfl
    obtain ⟨k8, hk8⟩ := hin9 _ _ (any_in (P := prW cy pr pl pe) (i := 4) rfl ⟨nA, hn12, rfl, rfl⟩)
    refine m_copyA hx hb (hml.trans hl.1.symm) hown (hts _ tw_1081) (hts _ tw_342) (hts _ tw_341) (hts _ tw_36) hK hPw hDw hS k8 k9 8 0 hk8 hk9 rfl rfl (hE.2.2.2 _ (List.mem_of_getElem? (i := 0) rfl)) rfl (fun h => h) (by decide) (by decide) (nI_nneg (by omega)) (by rw [nI_clamp (by omega)]; show 0 + pl nA ≤ _; omega) (by rw [nI_clamp (by omega)]; show 0 + pl nA ≤ _; omega) (fun i hi y hy => by
        rw [nI_clamp (by omega)] at hi
        have e9 : (0 : Int32).toNatClampNeg + i = i := Nat.zero_add i
        rw [e9] at hy
        have hy2 : some (pe nA i) = some y := by rw [← hy]; exact (if_pos hi).symm
        cases hy2
        exact ⟨_, (hP.one 5 rfl ⟨nA, i, hn12, hi, rfl, rfl⟩) 0 _ rfl⟩) (Nat.le_of_ble_eq_true rfl) (Nat.le_of_ble_eq_true rfl) dX9_addPhase_106 (fun H locs hPw hDw hS => ?_)
    rw [nI_clamp (by omega)] at hPw hDw
    have hP : ms (dC, dI) vwCl A [(fun q e => TW cy K (some s0) a (((0 : Int32), κr)) τ q e ∨ oW ob (K 0 0) tp q e), cel gp (gO ob bs qf (d1 + 1 + 1) nd nl 0), rwW cy 24 5 (qf 0) lr lv nl, cel (qf 13) (arQ (cy 10) 12 (fun n => some (pr n))), prW cy pr pl pe, peW cy pl pe px, cel a_6 (.inl (cy 0, 3, .inl (upd (upd (upd (fun _ => 0) 0 yy) 1 (nI (1 + z_3))) 2 (nI (1 + z_3 + z_10))))), cel q5 (arQ (cy 8) (pl nA + 1) (va_cpy (fun j => if j < pl nA then some (pe nA j) else none) (fun _ => (none : Option Nat)) 0 0 (pl nA)))] H := hbk _ _ hPw hDw
    clear hbk hPw hDw hk9 hin9 hk8
    refine lv_aload hx hb dX9_addPhase_109 (lv_at hl 0 rfl) ?_
    refine lv_aload_n hx hb dX9_addPhase_111 rfl (lv_at hl 4 rfl) ?_
    refine va_get (D := (dC, dI)) (ws := [(gp, .inr (9, [.ref ob, .ref bs, .int (nI (d1 + 1 + 1)), .int (nI nd), .int 0, .int 1, .int (nI nl), .ref (qf 0), .ref (qf 1), .ref (qf 2), .ref (qf 3), .ref (qf 4), .ref (qf 5), .ref (qf 6), .ref (qf 7), .ref (qf 8), .int (nI 0), .ref (qf 9), .int 0, .ref (qf 10), .ref (qf 11), .ref (qf 12), .ref (qf 13), .ref (qf 14), .ref (qf 15)]))]) (ci := 9) (v := .ref (qf 13)) (C := RX9) (T := TX9) (N := 25) hx hb hts tl_X9 hown hK (hP.one 1 rfl cel_in) 0 rfl rfl 22 (by decide) (hts _ tw_960) (fun _ h9 => h9) rfl dX9_addPhase_112 ?_
    refine lv_iload_n hx hb dX9_addPhase_115 rfl (lv_at hl 5 rfl) ?_
    refine m_aldA hx hb hK (ws := [(qf 13, arQ (cy 10) 12 (fun n => some (pr n)))]) (hP.one 3 rfl cel_in) 0 10 rfl rfl (m_in (n := 12) rfl (by omega) (by decide)) dX9_addPhase_116 ?_
    refine W.eq (g2 := F0 m 117 ls [.ref (pr nA), .ref q5]) (by rw [nI_clamp (by omega)]; rfl) ?_
    refine va_alen hx hb hK (ws := [(pr nA, arQ (cy 8) (pl nA) (fun j => if j < pl nA then some (pe nA j) else none))]) (hP.one 4 rfl ⟨nA, hn12, rfl, rfl⟩) 0 8 rfl rfl (v := nI (pl nA)) rfl dX9_addPhase_117 ?_
    refine lv_aload hx hb dX9_addPhase_118 (lv_at hl 1 rfl) ?_
    obtain ⟨ws9, k9, hPw, hDw, hk9, hin9, hbk⟩ := hP.cutc (e := arQ (cy 8) (pl nA + 1) (va_cpy (fun j => if j < pl nA then some (pe nA j) else none) (fun _ => (none : Option Nat)) 0 0 (pl nA))) 7 rfl
    obtain ⟨k8, hk8⟩ := hin9 _ _ (any_in (i := 6) rfl (cel_in (a := a_6) (e := .inl (cy 0, 3, .inl (upd (upd (upd (fun _ => 0) 0 yy) 1 (nI (1 + z_3))) 2 (nI (1 + z_3 + z_10)))))))
    refine m_astA hx hb hK hPw hDw hS k9 8 k8 0 hk9 rfl hk8 rfl (hE.2.2.2 _ (List.mem_of_getElem? (i := 0) rfl)) rfl (fun h => h) (m_in (n := pl nA + 1) rfl (by omega) (by omega)) dX9_addPhase_120 (fun H locs hPw hDw hS => ?_)
    rw [nI_clamp (by omega)] at hPw hDw
    have hP : ms (dC, dI) vwCl A [(fun q e => TW cy K (some s0) a (((0 : Int32), κr)) τ q e ∨ oW ob (K 0 0) tp q e), cel gp (gO ob bs qf (d1 + 1 + 1) nd nl 0), rwW cy 24 5 (qf 0) lr lv nl, cel (qf 13) (arQ (cy 10) 12 (fun n => some (pr n))), prW cy pr pl pe, peW cy pl pe px, cel a_6 (.inl (cy 0, 3, .inl (upd (upd (upd (fun _ => 0) 0 yy) 1 (nI (1 + z_3))) 2 (nI (1 + z_3 + z_10))))), cel q5 (arQ (cy 8) (pl nA + 1) (va_up (va_cpy (fun j => if j < pl nA then some (pe nA j) else none) (fun _ => (none : Option Nat)) 0 0 (pl nA)) (pl nA) (some a_6)))] H := hbk _ _ hPw hDw
    clear hbk hPw hDw hk9 hin9 hk8
    refine lv_aload_n hx hb dX9_addPhase_121 rfl (lv_at hl 4 rfl) ?_
    refine va_get (D := (dC, dI)) (ws := [(gp, .inr (9, [.ref ob, .ref bs, .int (nI (d1 + 1 + 1)), .int (nI nd), .int 0, .int 1, .int (nI nl), .ref (qf 0), .ref (qf 1), .ref (qf 2), .ref (qf 3), .ref (qf 4), .ref (qf 5), .ref (qf 6), .ref (qf 7), .ref (qf 8), .int (nI 0), .ref (qf 9), .int 0, .ref (qf 10), .ref (qf 11), .ref (qf 12), .ref (qf 13), .ref (qf 14), .ref (qf 15)]))]) (ci := 9) (v := .ref (qf 13)) (C := RX9) (T := TX9) (N := 25) hx hb hts tl_X9 hown hK (hP.one 1 rfl cel_in) 0 rfl rfl 22 (by decide) (hts _ tw_960) (fun _ h9 => h9) rfl dX9_addPhase_122 ?_
    refine lv_iload_n hx hb dX9_addPhase_125 rfl (lv_at hl 5 rfl) ?_
    refine lv_aload hx hb dX9_addPhase_126 (lv_at hl 0 rfl) ?_
    obtain ⟨ws9, k9, hPw, hDw, hk9, hin9, hbk⟩ := hP.cutc (e := arQ (cy 10) 12 (fun n => some (pr n))) 3 rfl
    obtain ⟨k8, hk8⟩ := hin9 _ _ (any_in (i := 7) rfl (cel_in (a := q5) (e := arQ (cy 8) (pl nA + 1) (va_up (va_cpy (fun j => if j < pl nA then some (pe nA j) else none) (fun _ => (none : Option Nat)) 0 0 (pl nA)) (pl nA) (some a_6)))))
    refine m_astA hx hb hK hPw hDw hS k9 10 k8 8 hk9 rfl hk8 rfl (hE.2.2.2 _ (List.mem_of_getElem? (i := 2) rfl)) rfl (fun h => h) (m_in (n := 12) rfl (by omega) (by decide)) dX9_addPhase_128 (fun H locs hPw hDw hS => ?_)
    rw [nI_clamp (by omega), po_up] at hPw hDw
    have hP : ms (dC, dI) vwCl A [(fun q e => TW cy K (some s0) a (((0 : Int32), κr)) τ q e ∨ oW ob (K 0 0) tp q e), cel gp (gO ob bs qf (d1 + 1 + 1) nd nl 0), rwW cy 24 5 (qf 0) lr lv nl, cel (qf 13) (arQ (cy 10) 12 (fun n => some (up2 pr nA q5 n))), prW cy pr pl pe, peW cy pl pe px, cel a_6 (.inl (cy 0, 3, .inl (upd (upd (upd (fun _ => 0) 0 yy) 1 (nI (1 + z_3))) 2 (nI (1 + z_3 + z_10))))), cel q5 (arQ (cy 8) (pl nA + 1) (va_up (va_cpy (fun j => if j < pl nA then some (pe nA j) else none) (fun _ => (none : Option Nat)) 0 0 (pl nA)) (pl nA) (some a_6)))] H := hbk _ _ hPw hDw
    clear hbk hPw hDw hk9 hin9 hk8
    refine lv_aload_n hx hb dX9_addPhase_129 rfl (lv_at hl 4 rfl) ?_
    refine va_get (D := (dC, dI)) (ws := [(gp, .inr (9, [.ref ob, .ref bs, .int (nI (d1 + 1 + 1)), .int (nI nd), .int 0, .int 1, .int (nI nl), .ref (qf 0), .ref (qf 1), .ref (qf 2), .ref (qf 3), .ref (qf 4), .ref (qf 5), .ref (qf 6), .ref (qf 7), .ref (qf 8), .int (nI 0), .ref (qf 9), .int 0, .ref (qf 10), .ref (qf 11), .ref (qf 12), .ref (qf 13), .ref (qf 14), .ref (qf 15)]))]) (ci := 9) (v := .ref ob) (C := RX9) (T := TX9) (N := 25) hx hb hts tl_X9 hown hK (hP.one 1 rfl cel_in) 0 rfl rfl 0 (by decide) (hts _ tw_933) (fun _ h9 => h9) rfl dX9_addPhase_130 ?_
    refine lv_iload_n hx hb dX9_addPhase_133 rfl (lv_at hl 5 rfl) ?_
    refine lv_iload_n hx hb dX9_addPhase_134 rfl (lv_at hl 3 rfl) ?_
    refine lv_aload hx hb dX9_addPhase_135 (lv_at hl 1 rfl) ?_
    refine lv_iconst (v := 1) hx hb dX9_addPhase_137 (by decide) ?_
    have j_14 : (1 : Int32).toNatClampNeg = 1 := m_cl (n := 3) rfl (by decide) (by decide)
    refine va_iald hx hb hK (ws := [(a_6, .inl (cy 0, 3, .inl (upd (upd (upd (fun _ => 0) 0 yy) 1 (nI (1 + z_3))) 2 (nI (1 + z_3 + z_10)))))]) (hP.one 6 rfl cel_in) 0 0 rfl rfl (m_in (n := 3) rfl (by decide) (by decide)) dX9_addPhase_138 ?_
    refine W.eq (g2 := F0 m 139 ls [.int ((upd (upd (upd (fun _ => 0) 0 yy) 1 (nI (1 + z_3))) 2 (nI (1 + z_3 + z_10))) 1), .int yy, .int (nI nA), .ref ob]) (by rw [j_14]) ?_
    refine W.eq (g2 := F0 m 139 ls [.int (nI (1 + z_3)), .int yy, .int (nI nA), .ref ob]) rfl ?_
    refine lv_aload hx hb dX9_addPhase_139 (lv_at hl 1 rfl) ?_
    refine lv_iconst (v := 2) hx hb dX9_addPhase_141 (by decide) ?_
    have j_15 : (2 : Int32).toNatClampNeg = 2 := m_cl (n := 3) rfl (by decide) (by decide)
    refine va_iald hx hb hK (ws := [(a_6, .inl (cy 0, 3, .inl (upd (upd (upd (fun _ => 0) 0 yy) 1 (nI (1 + z_3))) 2 (nI (1 + z_3 + z_10)))))]) (hP.one 6 rfl cel_in) 0 0 rfl rfl (m_in (n := 3) rfl (by decide) (by decide)) dX9_addPhase_142 ?_
    refine W.eq (g2 := F0 m 143 ls [.int ((upd (upd (upd (fun _ => 0) 0 yy) 1 (nI (1 + z_3))) 2 (nI (1 + z_3 + z_10))) 2), .int (nI (1 + z_3)), .int yy, .int (nI nA), .ref ob]) (by rw [j_15]) ?_
    refine W.eq (g2 := F0 m 143 ls [.int (nI (1 + z_3 + z_10)), .int (nI (1 + z_3)), .int yy, .int (nI nA), .ref ob]) rfl ?_
    have hFc := m_free (C := (fun q e => TW cy K (some s0) a (((0 : Int32), κr)) τ q e ∨ oW ob (K 0 0) tp q e)) hP.1 hS hA (fun _ _ h => any_in (i := 0) rfl h)
    refine va_calli (va_runV (As := [.int (nI nA), .int yy, .int (nI (1 + z_3)), .int (nI (1 + z_3 + z_10))]) (rest := []) ⟨hx, hb, hml, hown, hts⟩ (c_addPhase l dC dI cy K ((some s0)) a (((0 : Int32), κr)) τ ob tp 0 (nI nA) yy (nI (1 + z_3)) (nI (1 + z_3 + z_10)) H.size hT h0.2.2.2.2 (b0_nno h0.1 kn) (PS.pos k0 h24) (PS.lead h0 k0) (nI_nlt (b := 1) (by omega) (by omega)) (nI_nlt (a := 40) (by omega) (by decide)) (nI_nlt (by omega) (by omega)) (nI_nlt (a := 40) (by omega) (by decide)) (by rw [nI_clamp (by omega), (h0.2.1 nA hn12).1, nI_toInt (by omega)]; omega)) (tp_cwV 4 hts tw_1082 tw_1083 tw_1084 tw_20 tw_1085 rfl rfl (by decide +kernel) ⟨Nat.le_of_ble_eq_true rfl, Nat.le_of_ble_eq_true rfl⟩) ⟨m_blind, va_recv hK (hP.one (e := .inr (8, [.ref (K 0 0), .ref tp])) 0 rfl (Or.inr oW_mem)) (ci := 8) (q0 := 0) rfl rfl, fun U hU hW => ⟨rfl, m_pay hK hP.1 hE (fun _ _ h => any_in (i := 0) rfl h) U hU hW⟩⟩ rfl rfl hl.1 rfl (lv_room (Nat.le_of_ble_eq_true rfl)) dX9_addPhase_143 ⟨(by show 0 + 0 * nl + 0 + 1 + 0 + 1 + 0 ≤ 2; omega), (by show 0 + 0 * nl + 0 + 3 + 0 + (pl nA + 1) + 0 ≤ 7; omega)⟩) hS (fun q _ h => hFc q h) hFc (fun r_16 u t H1 locs ht hvm hpo hB hz1 hk1 hS => ?_)
    obtain rfl := hpo
    obtain ⟨f_17, hP1⟩ := hB
    subst f_17
    rw [ht] at hP1
    have hP : ms (dC, dI) vwCl A [(fun q e => TW cy K (some s0) (S_app a (nI nA).toNatClampNeg yy (nI (1 + z_3)) (nI (1 + z_3 + z_10))) (((0 : Int32), κr)) τ q e ∨ oW ob (K 0 0) tp q e), cel gp (gO ob bs qf (d1 + 1 + 1) nd nl 0), rwW cy 24 5 (qf 0) lr lv nl, cel (qf 13) (arQ (cy 10) 12 (fun n => some (up2 pr nA q5 n))), prW cy pr pl pe, peW cy pl pe px, cel a_6 (.inl (cy 0, 3, .inl (upd (upd (upd (fun _ => 0) 0 yy) 1 (nI (1 + z_3))) 2 (nI (1 + z_3 + z_10))))), cel q5 (arQ (cy 8) (pl nA + 1) (va_up (va_cpy (fun j => if j < pl nA then some (pe nA j) else none) (fun _ => (none : Option Nat)) 0 0 (pl nA)) (pl nA) (some a_6)))] H1 := hP.call 0 rfl hk1 hFc hP1
    clear hP1 hk1 hFc
    generalize H1 = H at hP hS ⊢
    refine lv_aload_n hx hb dX9_addPhase_146 rfl (lv_at hl 4 rfl) ?_
    refine va_get (D := (dC, dI)) (ws := [(gp, .inr (9, [.ref ob, .ref bs, .int (nI (d1 + 1 + 1)), .int (nI nd), .int 0, .int 1, .int (nI nl), .ref (qf 0), .ref (qf 1), .ref (qf 2), .ref (qf 3), .ref (qf 4), .ref (qf 5), .ref (qf 6), .ref (qf 7), .ref (qf 8), .int (nI 0), .ref (qf 9), .int 0, .ref (qf 10), .ref (qf 11), .ref (qf 12), .ref (qf 13), .ref (qf 14), .ref (qf 15)]))]) (ci := 9) (v := .ref (qf 13)) (C := RX9) (T := TX9) (N := 25) hx hb hts tl_X9 hown hK (hP.one 1 rfl cel_in) 0 rfl rfl 22 (by decide) (hts _ tw_960) (fun _ h9 => h9) rfl dX9_addPhase_147 ?_
    refine lv_iload_n hx hb dX9_addPhase_150 rfl (lv_at hl 5 rfl) ?_
    refine m_aldA hx hb hK (ws := [(qf 13, arQ (cy 10) 12 (fun n => some (up2 pr nA q5 n)))]) (hP.one 3 rfl cel_in) 0 10 rfl rfl (m_in (n := 12) rfl (by omega) (by decide)) dX9_addPhase_151 ?_
    refine W.eq (g2 := F0 m 152 ls [.ref q5, .int (a 8 (nI nA).toNatClampNeg 0)]) (by rw [nI_clamp (by omega), up2_eq]; rfl) ?_
    refine va_alen hx hb hK (ws := [(q5, arQ (cy 8) (pl nA + 1) (va_up (va_cpy (fun j => if j < pl nA then some (pe nA j) else none) (fun _ => (none : Option Nat)) 0 0 (pl nA)) (pl nA) (some a_6)))]) (hP.one 7 rfl cel_in) 0 8 rfl rfl (v := nI (pl nA + 1)) rfl dX9_addPhase_152 ?_
    refine lv_iconst (v := 1) hx hb dX9_addPhase_153 (by decide) ?_
    refine lv_isub hx hb dX9_addPhase_154 ?_
    refine W.eq (g2 := F0 m 155 ls [.int (nI (pl nA)), .int (a 8 (nI nA).toNatClampNeg 0)]) (by rw [show (1 : Int32) = nI 1 from rfl, pk_sub (Nat.le_add_left 1 (pl nA)), Nat.add_sub_cancel]) ?_
    refine lv_icmp_ne (tgt := 162) hx hb dX9_addPhase_155 (by decide) (fun c_18 => absurd (by rw [nI_clamp (by omega)]; exact (h0.2.1 nA hn12).1) c_18) (fun _ => ?_)
    refine lv_iconst (v := 1) hx hb dX9_addPhase_158 (by decide) ?_
    refine lv_goto (tgt := 163) hx hb dX9_addPhase_159 (by decide) ?_
    have hP := hP.sel [4, 7, 5, 6, 0, 1, 2, 3] rfl (by decide)
    have hP := pr_add hP
    have hP := hP.sel [1, 2, 0, 3, 4, 5, 6] rfl (by decide)
    have hP := pe_add (n := nA) hP
    refine W.widen (k := 2) (n := 7) (by show 0 + 0 * nl + 0 + 1 + 0 + 1 + 0 + 0 ≤ 2; omega) (by show 0 + 0 * nl + 0 + 3 + 0 + (pl nA + 1) + 0 + 0 ≤ 7; omega) ?_
    have g_19 : (1 : Int32) = 1 := rfl
    have g_20 : Bld (S_app a (nI nA).toNatClampNeg yy (nI (1 + z_3)) (nI (1 + z_3 + z_10))) nd nl lv (up2 pl nA (pl nA + 1)) 0 fv := (by rw [nI_clamp (by omega)]; exact Bld.phase a nd nl lv pl fv nA _ _ _ kB kn (PS.pos k0 h24) (PS.lead h0 k0) (by omega) (by omega) (by omega) kp)
    have g_21 : up2 pl nA (pl nA + 1) = up2 pl nA (pl nA + 1) := rfl
    have g_22 : d1 + 1 + 1 ≤ d + 40 := (by omega)
    have hP : ms (dC, dI) vwCl A [(fun q e => TW cy K (some s0) (S_app a (nI nA).toNatClampNeg yy (nI (1 + z_3)) (nI (1 + z_3 + z_10))) (((0 : Int32), κr)) τ q e ∨ oW ob (K 0 0) tp q e), cel gp (gO ob bs qf (d1 + 1 + 1) nd nl 0), rwW cy 24 5 (qf 0) lr lv nl, cel (qf 13) (arQ (cy 10) 12 (fun n => some ((up2 pr nA q5) n))), prW cy (up2 pr nA q5) (up2 pl nA (pl nA + 1)) (up2 pe nA (up2 (pe nA) (pl nA) a_6)), peW cy (up2 pl nA (pl nA + 1)) (up2 pe nA (up2 (pe nA) (pl nA) a_6)) (up2 px nA (up2 (px nA) (pl nA) (upd (upd (upd (fun _ => 0) 0 yy) 1 (nI (1 + z_3))) 2 (nI (1 + z_3 + z_10)))))] H := hP.sel [2, 3, 4, 5, 1, 0] rfl (by decide)
    exact W.zret (v := 1) hx hb hr rfl (fun t ht hW => ⟨⟨1, 1, rfl, rfl, ⟨(S_app a (nI nA).toNatClampNeg yy (nI (1 + z_3)) (nI (1 + z_3 + z_10))), (d1 + 1 + 1), (up2 pl nA (pl nA + 1)), (up2 pr nA q5), (up2 pe nA (up2 (pe nA) (pl nA) a_6)), (up2 px nA (up2 (px nA) (pl nA) (upd (upd (upd (fun _ => 0) 0 yy) 1 (nI (1 + z_3))) 2 (nI (1 + z_3 + z_10))))), g_19, g_20, g_21, g_22, by show ms _ _ _ _ t.heap; rw [ht]; exact hP⟩⟩, hS.F ht⟩) hS.2.2 dX9_addPhase_163
  · rintro i _ H locs ls hi ⟨yy, d1, k0, k1, hP, hS, hl⟩ ih
    have hl : lv_has ls 6 [(3, .int (nI i)), (2, .int yy), (0, .ref gp), (1, .int (nI nA))] := hl
    show W _ _ _ _ _ _ _ _ _ _ _ _ (0 + 0 * i) (0 + 0 * i) _ _
    refine lv_iload_n hx hb dX9_addPhase_4 rfl (lv_at hl 0 rfl) ?_
    refine lv_aload_n hx hb dX9_addPhase_5 rfl (lv_at hl 2 rfl) ?_
    refine va_get (D := (dC, dI)) (ws := [(gp, .inr (9, [.ref ob, .ref bs, .int (nI d1), .int (nI nd), .int 0, .int 1, .int (nI nl), .ref (qf 0), .ref (qf 1), .ref (qf 2), .ref (qf 3), .ref (qf 4), .ref (qf 5), .ref (qf 6), .ref (qf 7), .ref (qf 8), .int (nI 0), .ref (qf 9), .int 0, .ref (qf 10), .ref (qf 11), .ref (qf 12), .ref (qf 13), .ref (qf 14), .ref (qf 15)]))]) (ci := 9) (v := .int (nI nl)) (C := RX9) (T := TX9) (N := 25) hx hb hts tl_X9 hown hK (hP.one 1 rfl cel_in) 0 rfl rfl 6 (by decide) (hts _ tw_942) (fun _ h9 => h9) rfl dX9_addPhase_6 ?_
    refine lv_icmp_ge (tgt := 44) hx hb dX9_addPhase_9 (by decide) (fun c_23 => absurd c_23 (nI_ge hi (by omega))) (fun _ => ?_)
    refine lv_aload_n hx hb dX9_addPhase_12 rfl (lv_at hl 2 rfl) ?_
    refine va_get (D := (dC, dI)) (ws := [(gp, .inr (9, [.ref ob, .ref bs, .int (nI d1), .int (nI nd), .int 0, .int 1, .int (nI nl), .ref (qf 0), .ref (qf 1), .ref (qf 2), .ref (qf 3), .ref (qf 4), .ref (qf 5), .ref (qf 6), .ref (qf 7), .ref (qf 8), .int (nI 0), .ref (qf 9), .int 0, .ref (qf 10), .ref (qf 11), .ref (qf 12), .ref (qf 13), .ref (qf 14), .ref (qf 15)]))]) (ci := 9) (v := .ref (qf 0)) (C := RX9) (T := TX9) (N := 25) hx hb hts tl_X9 hown hK (hP.one 1 rfl cel_in) 0 rfl rfl 7 (by decide) (hts _ tw_943) (fun _ h9 => h9) rfl dX9_addPhase_13 ?_
    refine lv_iload_n hx hb dX9_addPhase_16 rfl (lv_at hl 0 rfl) ?_
    have j_24 : (nI i : Int32).toNatClampNeg = i := m_cl (n := 24) rfl (by omega) (by decide)
    refine m_aldA hx hb hK (ws := [(qf 0, arQ (cy 8) 24 (fun j => if j < nl then some (lr j) else none))]) (hP.one 2 rfl (Or.inl ⟨rfl, rfl⟩)) 0 8 rfl rfl (m_in (n := 24) rfl (by omega) (by decide)) dX9_addPhase_17 ?_
    refine W.eq (g2 := F0 m 18 ls [.ref (lr i)]) (by rw [j_24, if_pos hi]; rfl) ?_
    refine lv_iconst (v := 1) hx hb dX9_addPhase_18 (by decide) ?_
    have j_25 : (1 : Int32).toNatClampNeg = 1 := m_cl (n := 5) rfl (by decide) (by decide)
    refine va_iald hx hb hK (ws := [(lr i, .inl (cy 0, 5, .inl (lv i)))]) (hP.one 2 rfl (Or.inr ⟨i, hi, rfl, rfl⟩)) 0 0 rfl rfl (m_in (n := 5) rfl (by decide) (by decide)) dX9_addPhase_19 ?_
    refine W.eq (g2 := F0 m 20 ls [.int (lv i 1)]) (by rw [j_25]) ?_
    refine lv_iload_n hx hb dX9_addPhase_20 rfl (lv_at hl 3 rfl) ?_
    refine lv_icmp_ne (tgt := 38) hx hb dX9_addPhase_21 (by decide) (fun c_26 => ?_) (fun c_26 => ?_)
    · refine lv_iinc (v := nI (i + 1)) (lv' := [(3, .int (nI (i + 1))), (2, .int yy), (0, .ref gp), (1, .int (nI nA))]) hx hb dX9_addPhase_38 hl (k := 0) rfl (nI_1 i) (by decide) rfl (fun ls hl => ?_)
      refine lv_goto (tgt := 4) hx hb dX9_addPhase_41 (by decide) ?_
      refine W.widen (k := (fun i => 0 + 0 * i) (i + 1)) (n := (fun i => 0 + 0 * i) (i + 1)) (by show 0 + 0 * i ≤ 0 + 0 * (i + 1); omega) (by show 0 + 0 * i ≤ 0 + 0 * (i + 1); omega) ?_
      exact ih () _ _ ls ⟨yy, d1, (PS.mono k0), (by omega), hP, hS, lv_sub hl [0, 1, 2, 3] rfl⟩
    · refine lv_aload_n hx hb dX9_addPhase_24 rfl (lv_at hl 2 rfl) ?_
      refine lv_iconst (v := 2) hx hb dX9_addPhase_25 (by decide) ?_
      have hPc : ms (dC, dI) vwCl A ([cel gp (gO ob bs qf d1 nd nl 0)] ++ [(fun q e => TW cy K (some s0) a (((0 : Int32), κr)) τ q e ∨ oW ob (K 0 0) tp q e), rwW cy 24 5 (qf 0) lr lv nl, cel (qf 13) (arQ (cy 10) 12 (fun n => some (pr n))), prW cy pr pl pe, peW cy pl pe px]) H := hP.sel [1, 0, 2, 3, 4, 5] rfl (by decide)
      have hFc := g_free hPc hS hA
      refine va_calli (va_runV (As := [.int 2]) (rest := []) ⟨hx, hb, hml, hown, hts⟩ (c_draw l dC dI cy bs Ls xs gp ob qf d1 nd nl 0 2 H.size (by first | assumption | omega) (by first | assumption | omega) (by first | assumption | omega)) (tp_cwV 1 hts tw_1031 tw_1016 tw_1017 tw_19 tw_1018 rfl rfl (by decide +kernel) ⟨Nat.le_of_ble_eq_true rfl, Nat.le_of_ble_eq_true rfl⟩) ⟨g_blind, va_recv hK (hP.one (e := .inr (9, [.ref ob, .ref bs, .int (nI d1), .int (nI nd), .int 0, .int 1, .int (nI nl), .ref (qf 0), .ref (qf 1), .ref (qf 2), .ref (qf 3), .ref (qf 4), .ref (qf 5), .ref (qf 6), .ref (qf 7), .ref (qf 8), .int (nI 0), .ref (qf 9), .int 0, .ref (qf 10), .ref (qf 11), .ref (qf 12), .ref (qf 13), .ref (qf 14), .ref (qf 15)])) 1 rfl cel_in) (ci := 9) (q0 := 0) rfl rfl, fun U hU hW => ⟨rfl, g_pay hK hPc hE hX hbl hbL hbA hS U hU hW⟩⟩ rfl rfl hl.1 rfl (lv_room (Nat.le_of_ble_eq_true rfl)) dX9_addPhase_26 ⟨(by show 0 + 0 * i + 0 ≤ 2; omega), (by show 0 + 0 * i + 0 ≤ 7; omega)⟩) hS (fun q _ h => hFc q h) hFc (fun r_27 u t H1 locs ht hvm hpo hB hz1 hk1 hS => ?_)
      obtain rfl := hpo
      obtain ⟨z_28, f_29, f_30, hP1⟩ := hB
      rw [ht] at hP1
      have hPj := hPc.calls hk1 hFc hP1
      have hP : ms (dC, dI) vwCl A [(fun q e => TW cy K (some s0) a (((0 : Int32), κr)) τ q e ∨ oW ob (K 0 0) tp q e), cel gp (gO ob bs qf (d1 + 1) nd nl 0), rwW cy 24 5 (qf 0) lr lv nl, cel (qf 13) (arQ (cy 10) 12 (fun n => some (pr n))), prW cy pr pl pe, peW cy pl pe px] H1 := hPj.sel [1, 0, 2, 3, 4, 5] rfl (by decide)
      clear hPj hPc hP1 hk1 hFc
      generalize H1 = H at hP hS ⊢
      subst f_30
      have qB := f_29
      refine lv_if_ne (tgt := 38) hx hb dX9_addPhase_29 (by decide) (fun c_31 => ?_) (fun c_31 => ?_)
      · refine lv_iinc (v := nI (i + 1)) (lv' := [(3, .int (nI (i + 1))), (2, .int yy), (0, .ref gp), (1, .int (nI nA))]) hx hb dX9_addPhase_38 hl (k := 0) rfl (nI_1 i) (by decide) rfl (fun ls hl => ?_)
        refine lv_goto (tgt := 4) hx hb dX9_addPhase_41 (by decide) ?_
        refine W.widen (k := (fun i => 0 + 0 * i) (i + 1)) (n := (fun i => 0 + 0 * i) (i + 1)) (by show 0 + 0 * i + 0 ≤ 0 + 0 * (i + 1); omega) (by show 0 + 0 * i + 0 ≤ 0 + 0 * (i + 1); omega) ?_
        exact ih () _ _ ls ⟨yy, (d1 + 1), (PS.mono k0), (by omega), hP, hS, lv_sub hl [0, 1, 2, 3] rfl⟩
      · refine lv_iload_n hx hb dX9_addPhase_32 rfl (lv_at hl 1 rfl) ?_
        refine lv_iconst (v := 1) hx hb dX9_addPhase_33 (by decide) ?_
        refine lv_iload_n hx hb dX9_addPhase_34 rfl (lv_at hl 0 rfl) ?_
        refine lv_ishl hx hb dX9_addPhase_35 ?_
        refine lv_ior hx hb dX9_addPhase_36 ?_
        refine lv_istore_n (lv' := [(2, .int (yy ||| (1 <<< ((nI i) &&& 31)))), (3, .int (nI i)), (0, .ref gp), (1, .int (nI nA))]) hx hb dX9_addPhase_37 rfl hl (by decide) rfl (fun ls hl => ?_)
        refine lv_iinc (v := nI (i + 1)) (lv' := [(3, .int (nI (i + 1))), (2, .int (yy ||| (1 <<< ((nI i) &&& 31)))), (0, .ref gp), (1, .int (nI nA))]) hx hb dX9_addPhase_38 hl (k := 1) rfl (nI_1 i) (by decide) rfl (fun ls hl => ?_)
        refine lv_goto (tgt := 4) hx hb dX9_addPhase_41 (by decide) ?_
        refine W.widen (k := (fun i => 0 + 0 * i) (i + 1)) (n := (fun i => 0 + 0 * i) (i + 1)) (by show 0 + 0 * i + 0 ≤ 0 + 0 * (i + 1); omega) (by show 0 + 0 * i + 0 ≤ 0 + 0 * (i + 1); omega) ?_
        exact ih () _ _ ls ⟨(yy ||| (1 <<< ((nI i) &&& 31))), (d1 + 1), (k0.add (by omega) c_26), (by omega), hP, hS, lv_sub hl [0, 1, 2, 3] rfl⟩

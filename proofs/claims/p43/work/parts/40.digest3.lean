theorem itL_s {g : Nat → Int64 → Int64} {n : Nat} {d : Int64} : itL g (n + 1) d = g n (itL g n d) := rfl
theorem itL_0 {g : Nat → Int64 → Int64} {d : Int64} : itL g 0 d = d := rfl
theorem tw_511 : Cond.code yX8_links cX8_links 1 (some .int) ∈ tp_all := tp_mem 511 (by decide +kernel) rfl
theorem tw_508 : Cond.methodLink RX8 267 yX8_links ∈ tp_all := tp_mem 508 (by decide +kernel) rfl
theorem tw_509 : Cond.instanceMethod yX8_links ∈ tp_all := tp_mem 509 (by decide +kernel) rfl
theorem tw_510 : Cond.selects RX8 yX8_links yX8_links ∈ tp_all := tp_mem 510 (by decide +kernel) rfl
theorem tw_547 : Cond.code yX8_isShut cX8_isShut 2 (some .boolean) ∈ tp_all := tp_mem 547 (by decide +kernel) rfl
theorem tw_544 : Cond.methodLink RX8 301 yX8_isShut ∈ tp_all := tp_mem 544 (by decide +kernel) rfl
theorem tw_545 : Cond.instanceMethod yX8_isShut ∈ tp_all := tp_mem 545 (by decide +kernel) rfl
theorem tw_546 : Cond.selects RX8 yX8_isShut yX8_isShut ∈ tp_all := tp_mem 546 (by decide +kernel) rfl
theorem tw_551 : Cond.code yX8_rateOf cX8_rateOf 2 (some .int) ∈ tp_all := tp_mem 551 (by decide +kernel) rfl
theorem tw_548 : Cond.methodLink RX8 305 yX8_rateOf ∈ tp_all := tp_mem 548 (by decide +kernel) rfl
theorem tw_549 : Cond.instanceMethod yX8_rateOf ∈ tp_all := tp_mem 549 (by decide +kernel) rfl
theorem tw_550 : Cond.selects RX8 yX8_rateOf yX8_rateOf ∈ tp_all := tp_mem 550 (by decide +kernel) rfl
theorem tw_378 : Cond.code yX8_costOf cX8_costOf 2 (some .int) ∈ tp_all := tp_mem 378 (by decide +kernel) rfl
theorem tw_552 : Cond.methodLink RX8 308 yX8_costOf ∈ tp_all := tp_mem 552 (by decide +kernel) rfl
theorem tw_376 : Cond.instanceMethod yX8_costOf ∈ tp_all := tp_mem 376 (by decide +kernel) rfl
theorem tw_377 : Cond.selects RX8 yX8_costOf yX8_costOf ∈ tp_all := tp_mem 377 (by decide +kernel) rfl
theorem tw_434 : Cond.code yX8_onLink cX8_onLink 2 (some .int) ∈ tp_all := tp_mem 434 (by decide +kernel) rfl
theorem tw_553 : Cond.methodLink RX8 311 yX8_onLink ∈ tp_all := tp_mem 553 (by decide +kernel) rfl
theorem tw_432 : Cond.instanceMethod yX8_onLink ∈ tp_all := tp_mem 432 (by decide +kernel) rfl
theorem tw_433 : Cond.selects RX8 yX8_onLink yX8_onLink ∈ tp_all := tp_mem 433 (by decide +kernel) rfl
theorem tw_438 : Cond.code yX8_vehicleAt cX8_vehicleAt 4 (some .int) ∈ tp_all := tp_mem 438 (by decide +kernel) rfl
theorem tw_554 : Cond.methodLink RX8 314 yX8_vehicleAt ∈ tp_all := tp_mem 554 (by decide +kernel) rfl
theorem tw_436 : Cond.instanceMethod yX8_vehicleAt ∈ tp_all := tp_mem 436 (by decide +kernel) rfl
theorem tw_437 : Cond.selects RX8 yX8_vehicleAt yX8_vehicleAt ∈ tp_all := tp_mem 437 (by decide +kernel) rfl
theorem tw_444 : Cond.code yX8_queue cX8_queue 2 (some .int) ∈ tp_all := tp_mem 444 (by decide +kernel) rfl
theorem tw_555 : Cond.methodLink RX8 317 yX8_queue ∈ tp_all := tp_mem 555 (by decide +kernel) rfl
theorem tw_442 : Cond.instanceMethod yX8_queue ∈ tp_all := tp_mem 442 (by decide +kernel) rfl
theorem tw_443 : Cond.selects RX8 yX8_queue yX8_queue ∈ tp_all := tp_mem 443 (by decide +kernel) rfl
theorem tw_449 : Cond.code yX8_count cX8_count 4 (some .int) ∈ tp_all := tp_mem 449 (by decide +kernel) rfl
theorem tw_556 : Cond.methodLink RX8 320 yX8_count ∈ tp_all := tp_mem 556 (by decide +kernel) rfl
theorem tw_447 : Cond.instanceMethod yX8_count ∈ tp_all := tp_mem 447 (by decide +kernel) rfl
theorem tw_448 : Cond.selects RX8 yX8_count yX8_count ∈ tp_all := tp_mem 448 (by decide +kernel) rfl
theorem tw_560 : Cond.code yX8_turned cX8_turned 4 (some .int) ∈ tp_all := tp_mem 560 (by decide +kernel) rfl
theorem tw_557 : Cond.methodLink RX8 323 yX8_turned ∈ tp_all := tp_mem 557 (by decide +kernel) rfl
theorem tw_558 : Cond.instanceMethod yX8_turned ∈ tp_all := tp_mem 558 (by decide +kernel) rfl
theorem tw_559 : Cond.selects RX8 yX8_turned yX8_turned ∈ tp_all := tp_mem 559 (by decide +kernel) rfl
theorem dX8_digestLinks_0 : decode cX8_digestLinks 0 = .ok (.lload_n 1, 1) := by decide +kernel
theorem dX8_digestLinks_1 : decode cX8_digestLinks 1 = .ok (.lstore_n 3, 1) := by decide +kernel
theorem dX8_digestLinks_2 : decode cX8_digestLinks 2 = .ok (.iconst 0, 1) := by decide +kernel
theorem dX8_digestLinks_3 : decode cX8_digestLinks 3 = .ok (.istore 5, 2) := by decide +kernel
theorem dX8_digestLinks_5 : decode cX8_digestLinks 5 = .ok (.iload 5, 2) := by decide +kernel
theorem dX8_digestLinks_7 : decode cX8_digestLinks 7 = .ok (.aload_n 0, 1) := by decide +kernel
theorem dX8_digestLinks_8 : decode cX8_digestLinks 8 = .ok (.invokevirtual 267, 3) := by decide +kernel
theorem dX8_digestLinks_11 : decode cX8_digestLinks 11 = .ok (.if_icmp .ge 188, 3) := by decide +kernel
theorem dX8_digestLinks_199 : decode cX8_digestLinks 199 = .ok (.lload_n 3, 1) := by decide +kernel
theorem dX8_digestLinks_200 : decode cX8_digestLinks 200 = .ok (.lreturn, 1) := by decide +kernel
theorem dX8_digestLinks_14 : decode cX8_digestLinks 14 = .ok (.lload_n 3, 1) := by decide +kernel
theorem dX8_digestLinks_15 : decode cX8_digestLinks 15 = .ok (.ldc2_w 260, 3) := by decide +kernel
theorem dX8_digestLinks_18 : decode cX8_digestLinks 18 = .ok (.lmul, 1) := by decide +kernel
theorem dX8_digestLinks_19 : decode cX8_digestLinks 19 = .ok (.aload_n 0, 1) := by decide +kernel
theorem dX8_digestLinks_20 : decode cX8_digestLinks 20 = .ok (.iload 5, 2) := by decide +kernel
theorem dX8_digestLinks_22 : decode cX8_digestLinks 22 = .ok (.invokevirtual 301, 3) := by decide +kernel
theorem dX8_digestLinks_25 : decode cX8_digestLinks 25 = .ok (.ifCond .eq 7, 3) := by decide +kernel
theorem dX8_digestLinks_32 : decode cX8_digestLinks 32 = .ok (.iconst 0, 1) := by decide +kernel
theorem dX8_digestLinks_28 : decode cX8_digestLinks 28 = .ok (.iconst 1, 1) := by decide +kernel
theorem dX8_digestLinks_29 : decode cX8_digestLinks 29 = .ok (.goto 4, 3) := by decide +kernel
theorem dX8_digestLinks_33 : decode cX8_digestLinks 33 = .ok (.i2l, 1) := by decide +kernel
theorem dX8_digestLinks_34 : decode cX8_digestLinks 34 = .ok (.ladd, 1) := by decide +kernel
theorem dX8_digestLinks_35 : decode cX8_digestLinks 35 = .ok (.lstore_n 3, 1) := by decide +kernel
theorem dX8_digestLinks_36 : decode cX8_digestLinks 36 = .ok (.lload_n 3, 1) := by decide +kernel
theorem dX8_digestLinks_37 : decode cX8_digestLinks 37 = .ok (.ldc2_w 260, 3) := by decide +kernel
theorem dX8_digestLinks_40 : decode cX8_digestLinks 40 = .ok (.lmul, 1) := by decide +kernel
theorem dX8_digestLinks_41 : decode cX8_digestLinks 41 = .ok (.aload_n 0, 1) := by decide +kernel
theorem dX8_digestLinks_42 : decode cX8_digestLinks 42 = .ok (.iload 5, 2) := by decide +kernel
theorem dX8_digestLinks_44 : decode cX8_digestLinks 44 = .ok (.invokevirtual 305, 3) := by decide +kernel
theorem dX8_digestLinks_47 : decode cX8_digestLinks 47 = .ok (.i2l, 1) := by decide +kernel
theorem dX8_digestLinks_48 : decode cX8_digestLinks 48 = .ok (.ladd, 1) := by decide +kernel
theorem dX8_digestLinks_49 : decode cX8_digestLinks 49 = .ok (.lstore_n 3, 1) := by decide +kernel
theorem dX8_digestLinks_50 : decode cX8_digestLinks 50 = .ok (.lload_n 3, 1) := by decide +kernel
theorem dX8_digestLinks_51 : decode cX8_digestLinks 51 = .ok (.ldc2_w 260, 3) := by decide +kernel
theorem dX8_digestLinks_54 : decode cX8_digestLinks 54 = .ok (.lmul, 1) := by decide +kernel
theorem dX8_digestLinks_55 : decode cX8_digestLinks 55 = .ok (.aload_n 0, 1) := by decide +kernel
theorem dX8_digestLinks_56 : decode cX8_digestLinks 56 = .ok (.iload 5, 2) := by decide +kernel
theorem dX8_digestLinks_58 : decode cX8_digestLinks 58 = .ok (.invokevirtual 308, 3) := by decide +kernel
theorem dX8_digestLinks_61 : decode cX8_digestLinks 61 = .ok (.i2l, 1) := by decide +kernel
theorem dX8_digestLinks_62 : decode cX8_digestLinks 62 = .ok (.ladd, 1) := by decide +kernel
theorem dX8_digestLinks_63 : decode cX8_digestLinks 63 = .ok (.lstore_n 3, 1) := by decide +kernel
theorem dX8_digestLinks_64 : decode cX8_digestLinks 64 = .ok (.lload_n 3, 1) := by decide +kernel
theorem dX8_digestLinks_65 : decode cX8_digestLinks 65 = .ok (.ldc2_w 260, 3) := by decide +kernel
theorem dX8_digestLinks_68 : decode cX8_digestLinks 68 = .ok (.lmul, 1) := by decide +kernel
theorem dX8_digestLinks_69 : decode cX8_digestLinks 69 = .ok (.aload_n 0, 1) := by decide +kernel
theorem dX8_digestLinks_70 : decode cX8_digestLinks 70 = .ok (.iload 5, 2) := by decide +kernel
theorem dX8_digestLinks_72 : decode cX8_digestLinks 72 = .ok (.invokevirtual 311, 3) := by decide +kernel
theorem dX8_digestLinks_75 : decode cX8_digestLinks 75 = .ok (.i2l, 1) := by decide +kernel
theorem dX8_digestLinks_76 : decode cX8_digestLinks 76 = .ok (.ladd, 1) := by decide +kernel
theorem dX8_digestLinks_77 : decode cX8_digestLinks 77 = .ok (.lstore_n 3, 1) := by decide +kernel
theorem dX8_digestLinks_78 : decode cX8_digestLinks 78 = .ok (.iconst 0, 1) := by decide +kernel
theorem dX8_digestLinks_79 : decode cX8_digestLinks 79 = .ok (.istore 6, 2) := by decide +kernel
theorem dX8_digestLinks_81 : decode cX8_digestLinks 81 = .ok (.iload 6, 2) := by decide +kernel
theorem dX8_digestLinks_83 : decode cX8_digestLinks 83 = .ok (.aload_n 0, 1) := by decide +kernel
theorem dX8_digestLinks_84 : decode cX8_digestLinks 84 = .ok (.iload 5, 2) := by decide +kernel
theorem dX8_digestLinks_86 : decode cX8_digestLinks 86 = .ok (.invokevirtual 311, 3) := by decide +kernel
theorem dX8_digestLinks_89 : decode cX8_digestLinks 89 = .ok (.if_icmp .ge 25, 3) := by decide +kernel
theorem dX8_digestLinks_92 : decode cX8_digestLinks 92 = .ok (.lload_n 3, 1) := by decide +kernel
theorem dX8_digestLinks_93 : decode cX8_digestLinks 93 = .ok (.ldc2_w 260, 3) := by decide +kernel
theorem dX8_digestLinks_96 : decode cX8_digestLinks 96 = .ok (.lmul, 1) := by decide +kernel
theorem dX8_digestLinks_97 : decode cX8_digestLinks 97 = .ok (.aload_n 0, 1) := by decide +kernel
theorem dX8_digestLinks_98 : decode cX8_digestLinks 98 = .ok (.iload 5, 2) := by decide +kernel
theorem dX8_digestLinks_100 : decode cX8_digestLinks 100 = .ok (.iload 6, 2) := by decide +kernel
theorem dX8_digestLinks_102 : decode cX8_digestLinks 102 = .ok (.invokevirtual 314, 3) := by decide +kernel
theorem dX8_digestLinks_105 : decode cX8_digestLinks 105 = .ok (.i2l, 1) := by decide +kernel
theorem dX8_digestLinks_106 : decode cX8_digestLinks 106 = .ok (.ladd, 1) := by decide +kernel
theorem dX8_digestLinks_107 : decode cX8_digestLinks 107 = .ok (.lstore_n 3, 1) := by decide +kernel
theorem dX8_digestLinks_108 : decode cX8_digestLinks 108 = .ok (.iinc 6 1, 3) := by decide +kernel
theorem dX8_digestLinks_111 : decode cX8_digestLinks 111 = .ok (.goto (-30), 3) := by decide +kernel
theorem dX8_digestLinks_114 : decode cX8_digestLinks 114 = .ok (.lload_n 3, 1) := by decide +kernel
theorem dX8_digestLinks_115 : decode cX8_digestLinks 115 = .ok (.ldc2_w 260, 3) := by decide +kernel
theorem dX8_digestLinks_118 : decode cX8_digestLinks 118 = .ok (.lmul, 1) := by decide +kernel
theorem dX8_digestLinks_119 : decode cX8_digestLinks 119 = .ok (.aload_n 0, 1) := by decide +kernel
theorem dX8_digestLinks_120 : decode cX8_digestLinks 120 = .ok (.iload 5, 2) := by decide +kernel
theorem dX8_digestLinks_122 : decode cX8_digestLinks 122 = .ok (.invokevirtual 317, 3) := by decide +kernel
theorem dX8_digestLinks_125 : decode cX8_digestLinks 125 = .ok (.i2l, 1) := by decide +kernel
theorem dX8_digestLinks_126 : decode cX8_digestLinks 126 = .ok (.ladd, 1) := by decide +kernel
theorem dX8_digestLinks_127 : decode cX8_digestLinks 127 = .ok (.lstore_n 3, 1) := by decide +kernel
theorem dX8_digestLinks_128 : decode cX8_digestLinks 128 = .ok (.iconst 0, 1) := by decide +kernel
theorem dX8_digestLinks_129 : decode cX8_digestLinks 129 = .ok (.istore 6, 2) := by decide +kernel
theorem dX8_digestLinks_131 : decode cX8_digestLinks 131 = .ok (.iload 6, 2) := by decide +kernel
theorem dX8_digestLinks_133 : decode cX8_digestLinks 133 = .ok (.iconst 3, 1) := by decide +kernel
theorem dX8_digestLinks_134 : decode cX8_digestLinks 134 = .ok (.if_icmp .gt 25, 3) := by decide +kernel
theorem dX8_digestLinks_137 : decode cX8_digestLinks 137 = .ok (.lload_n 3, 1) := by decide +kernel
theorem dX8_digestLinks_138 : decode cX8_digestLinks 138 = .ok (.ldc2_w 260, 3) := by decide +kernel
theorem dX8_digestLinks_141 : decode cX8_digestLinks 141 = .ok (.lmul, 1) := by decide +kernel
theorem dX8_digestLinks_142 : decode cX8_digestLinks 142 = .ok (.aload_n 0, 1) := by decide +kernel
theorem dX8_digestLinks_143 : decode cX8_digestLinks 143 = .ok (.iload 5, 2) := by decide +kernel
theorem dX8_digestLinks_145 : decode cX8_digestLinks 145 = .ok (.iload 6, 2) := by decide +kernel
theorem dX8_digestLinks_147 : decode cX8_digestLinks 147 = .ok (.invokevirtual 320, 3) := by decide +kernel
theorem dX8_digestLinks_150 : decode cX8_digestLinks 150 = .ok (.i2l, 1) := by decide +kernel
theorem dX8_digestLinks_151 : decode cX8_digestLinks 151 = .ok (.ladd, 1) := by decide +kernel
theorem dX8_digestLinks_152 : decode cX8_digestLinks 152 = .ok (.lstore_n 3, 1) := by decide +kernel
theorem dX8_digestLinks_153 : decode cX8_digestLinks 153 = .ok (.iinc 6 1, 3) := by decide +kernel
theorem dX8_digestLinks_156 : decode cX8_digestLinks 156 = .ok (.goto (-25), 3) := by decide +kernel
theorem dX8_digestLinks_159 : decode cX8_digestLinks 159 = .ok (.iconst 0, 1) := by decide +kernel
theorem dX8_digestLinks_160 : decode cX8_digestLinks 160 = .ok (.istore 6, 2) := by decide +kernel
theorem dX8_digestLinks_162 : decode cX8_digestLinks 162 = .ok (.iload 6, 2) := by decide +kernel
theorem dX8_digestLinks_164 : decode cX8_digestLinks 164 = .ok (.aload_n 0, 1) := by decide +kernel
theorem dX8_digestLinks_165 : decode cX8_digestLinks 165 = .ok (.invokevirtual 267, 3) := by decide +kernel
theorem dX8_digestLinks_168 : decode cX8_digestLinks 168 = .ok (.if_icmp .ge 25, 3) := by decide +kernel
theorem dX8_digestLinks_193 : decode cX8_digestLinks 193 = .ok (.iinc 5 1, 3) := by decide +kernel
theorem dX8_digestLinks_196 : decode cX8_digestLinks 196 = .ok (.goto (-191), 3) := by decide +kernel
theorem dX8_digestLinks_171 : decode cX8_digestLinks 171 = .ok (.lload_n 3, 1) := by decide +kernel
theorem dX8_digestLinks_172 : decode cX8_digestLinks 172 = .ok (.ldc2_w 260, 3) := by decide +kernel
theorem dX8_digestLinks_175 : decode cX8_digestLinks 175 = .ok (.lmul, 1) := by decide +kernel
theorem dX8_digestLinks_176 : decode cX8_digestLinks 176 = .ok (.aload_n 0, 1) := by decide +kernel
theorem dX8_digestLinks_177 : decode cX8_digestLinks 177 = .ok (.iload 5, 2) := by decide +kernel
theorem dX8_digestLinks_179 : decode cX8_digestLinks 179 = .ok (.iload 6, 2) := by decide +kernel
theorem dX8_digestLinks_181 : decode cX8_digestLinks 181 = .ok (.invokevirtual 323, 3) := by decide +kernel
theorem dX8_digestLinks_184 : decode cX8_digestLinks 184 = .ok (.i2l, 1) := by decide +kernel
theorem dX8_digestLinks_185 : decode cX8_digestLinks 185 = .ok (.ladd, 1) := by decide +kernel
theorem dX8_digestLinks_186 : decode cX8_digestLinks 186 = .ok (.lstore_n 3, 1) := by decide +kernel
theorem dX8_digestLinks_187 : decode cX8_digestLinks 187 = .ok (.iinc 6 1, 3) := by decide +kernel
theorem dX8_digestLinks_190 : decode cX8_digestLinks 190 = .ok (.goto (-28), 3) := by decide +kernel
set_option maxRecDepth 100000 in
set_option maxHeartbeats 4000000 in
/-- digestLinks -/
theorem c_digestLinks (l : Launch) (dC : Nat → ClassId) (dI : Nat → Nat → Nat) (cy : Nat → ClassId) (L : Lay) (tr : Option Nat) (a : St) (κ : Kap) (τ : Tau) (ob : Nat) (tp : Nat) (M : Nat) (d0 : Int64) (sz : Nat) (hT : TL L tr τ) (hw : Wf M a) (hsh : ∀ i, i < 24 → a 2 i 7 = 0 ∨ a 2 i 7 = 1) (hκ : CV a κ) : Met l yX8_digestLinks (tp_w yX8_digestLinks cX8_digestLinks 7 (some .long)) ({ frames := 3, cells := 0, slots := 0, locals := 66 }) (va_Pc [.ref ob, .long d0] (mPre dC dI cy (fun q e => TW cy L tr a κ τ q e ∨ oW ob (L 0 0) tp q e) sz)) (va_Ql (fun (r u : Int64) => r = u) (fun (u : Int64) (t : State) => ∃ (κ2 : Kap), (u = D_links a d0) ∧ (CV a κ2) ∧ mw (dC, dI) vwCl (mA (fun q e => TW cy L tr a κ τ q e ∨ oW ob (L 0 0) tp q e) sz) (fun q e => TW cy L tr a κ2 τ q e ∨ oW ob (L 0 0) tp q e) t.heap) (mA (fun q e => TW cy L tr a κ τ q e ∨ oW ob (L 0 0) tp q e) sz)) (0) (0) (mA (fun q e => TW cy L tr a κ τ q e ∨ oW ob (L 0 0) tp q e) sz) := by
  refine Met.ofW (cc := cX8_digestLinks) (maxL := 7) (ret := (some .long)) (by decide) rfl ?_
  intro p e s m args below meth c s₁ B hml hv
  obtain ⟨rfl, hsz, hP, hK, hE⟩ := hv
  have hx := B.exec
  have hb := B.bytes
  have hr := B.returns
  have hts0 := atoms_spec (ws := tp_w yX8_digestLinks cX8_digestLinks 7 (some .long)) B.pre
  have hts : ∀ w ∈ tp_all, w.before _ s = true := fun w h => hts0 w (List.mem_cons_of_mem _ h)
  have hown : s.vm.findClass RX8 = some m.cls := findClass_of_methodNamed B.named
  have hlocks := B.notSynchronized
  subst hsz
  have hP := hP.self s.heap.size
  generalize hAe : mA (fun q e => TW cy L tr a κ τ q e ∨ oW ob (L 0 0) tp q e) s.heap.size = A at hP ⊢
  have hA : ∀ q : Nat, s.heap.size ≤ q → A q := fun q h => by rw [← hAe]; exact Or.inr h
  have hS : va_S A s.heap s.heap [] := va_S.rf
  have hl9 := lv_entry ([.ref ob, .long d0]) (n := 7) (Nat.le_of_ble_eq_true rfl)
  rw [lg_entry_eq]
  generalize (lg_sl ([.ref ob, .long d0]) ++ List.replicate (7 - (lg_sl ([.ref ob, .long d0])).length) Slot.unset).toArray = ls at hl9 ⊢
  have hl : lv_has ls 7 [(0, .ref ob), (1, .long d0)] := hl9
  refine lv_lload_n hx hb dX8_digestLinks_0 rfl (lv_at hl 1 rfl) ?_
  refine lv_lstore_n (lv' := [(3, .long d0), (0, .ref ob), (1, .long d0)]) hx hb dX8_digestLinks_1 rfl hl (by decide) rfl (fun ls hl => ?_)
  refine lv_iconst (v := 0) hx hb dX8_digestLinks_2 (by decide) ?_
  refine lv_istore (lv' := [(5, .int 0), (3, .long d0), (0, .ref ob), (1, .long d0)]) hx hb dX8_digestLinks_3 hl (by decide) rfl (fun ls hl => ?_)
  have e0 : d0 = itL (D_l a) 0 (d0) := itL_0.symm
  rw [e0] at hl
  have hN_1 : nL a ≤ 24 := in_le hw.1.1
  refine W.widen (k := (fun _ => 0) 0) (n := (fun _ => 0) 0) (Nat.le_refl _) (Nat.le_refl _) ?_
  refine tp_for (σ := Kap) (nL a) (fun _ => 0) (fun _ => 0) (fun (i : Nat) (y : Kap) (H : Heap) (locs : List Loc) (ls : Array Slot) => CV a y ∧ mw (dC, dI) vwCl A (fun q e => TW cy L tr a y τ q e ∨ oW ob (L 0 0) tp q e) H ∧ va_S A s.heap H locs ∧ lv_has ls 7 [(5, .int (nI i)), (3, .long (itL (D_l a) i (d0))), (0, .ref ob), (1, .long d0)]) ?_ ?_ (nL a) 0 (Nat.zero_add _) κ _ _ ls ⟨hκ, hP, hS, lv_sub hl [0, 1, 2, 3] rfl⟩
  · rintro κ_1 H locs ls ⟨hc_1, hP, hS, hl⟩
    have hl : lv_has ls 7 [(5, .int (nI (nL a))), (3, .long (itL (D_l a) (nL a) (d0))), (0, .ref ob), (1, .long d0)] := hl
    have hP : mw (dC, dI) vwCl A (fun q e => TW cy L tr a κ_1 τ q e ∨ oW ob (L 0 0) tp q e) H := hP
    show W _ _ _ _ _ _ _ _ _ _ _ _ (0) (0) _ _
    refine lv_iload hx hb dX8_digestLinks_5 (lv_at hl 0 rfl) ?_
    refine lv_aload_n hx hb dX8_digestLinks_7 rfl (lv_at hl 2 rfl) ?_
    have hFc := m_free (C := (fun q e => TW cy L tr a κ_1 τ q e ∨ oW ob (L 0 0) tp q e)) hP hS hA (fun _ _ h => h)
    refine va_calli (va_runV (As := []) (rest := [.int (nI (nL a))]) ⟨hx, hb, hml, hown, hts⟩ (c_links l dC dI cy L tr a κ_1 τ ob tp H.size hT) (tp_cwV 0 hts tw_508 tw_509 tw_510 tw_20 tw_511 rfl rfl (by decide +kernel) ⟨Nat.le_of_ble_eq_true rfl, Nat.le_of_ble_eq_true rfl⟩) ⟨m_blind, va_recv hK (hP.one (e := .inr (8, [.ref (L 0 0), .ref tp])) (Or.inr oW_mem)) (ci := 8) (q0 := 0) rfl rfl, fun U hU hW => ⟨rfl, m_pay hK hP hE (fun _ _ h => h) U hU hW⟩⟩ rfl rfl hl.1 rfl (lv_room (Nat.le_of_ble_eq_true rfl)) dX8_digestLinks_8 ⟨(Nat.le_of_ble_eq_true rfl), (Nat.le_of_ble_eq_true rfl)⟩) hS (fun q _ h => hFc q h) hFc (fun r_1 u t H1 locs ht hvm hpo hB hz1 hk1 hS => ?_)
    obtain rfl := hpo
    obtain ⟨f_1, hP1⟩ := hB
    subst f_1
    rw [ht] at hP1
    have hP : mw (dC, dI) vwCl A (fun q e => TW cy L tr a κ_1 τ q e ∨ oW ob (L 0 0) tp q e) H1 := hP.join (fun _ _ h => h) hk1 hFc hP1 (fun _ _ h => Or.inl h)
    generalize H1 = H at hP hS ⊢
    clear hP1 hk1 hFc
    refine W.eq (g2 := F0 m 11 ls [.int (nI (nL a)), .int (nI (nL a))]) (by rw [in_nI hw.1.1]) ?_
    refine lv_icmp_ge (tgt := 199) hx hb dX8_digestLinks_11 (by decide) (fun _ => ?_) (fun c_1 => absurd (Int32.le_refl _) c_1)
    refine lv_lload_n hx hb dX8_digestLinks_199 rfl (lv_at hl 1 rfl) ?_
    refine W.widen (k := 0) (n := 0) (Nat.le_of_ble_eq_true rfl) (Nat.le_of_ble_eq_true rfl) ?_
    have g_1 : (itL (D_l a) (nL a) (d0)) = D_links a d0 := by
      rfl
    have g_2 : CV a κ_1 := by
      exact hc_1
    exact W.lret (v := itL (D_l a) (nL a) (d0)) hx hb hr (fun t ht hW => ⟨⟨(itL (D_l a) (nL a) (d0)), (itL (D_l a) (nL a) (d0)), rfl, rfl, ⟨κ_1, g_1, g_2, by show mw _ _ _ _ t.heap; rw [ht]; exact hP⟩⟩, hS.F ht⟩) hS.2.2 dX8_digestLinks_200
  · rintro i κ_1 H locs ls hi_1 ⟨hc_1, hP, hS, hl⟩ ih_1
    have hl : lv_has ls 7 [(5, .int (nI i)), (3, .long (itL (D_l a) i (d0))), (0, .ref ob), (1, .long d0)] := hl
    have hP : mw (dC, dI) vwCl A (fun q e => TW cy L tr a κ_1 τ q e ∨ oW ob (L 0 0) tp q e) H := hP
    show W _ _ _ _ _ _ _ _ _ _ _ _ (0) (0) _ _
    refine lv_iload hx hb dX8_digestLinks_5 (lv_at hl 0 rfl) ?_
    refine lv_aload_n hx hb dX8_digestLinks_7 rfl (lv_at hl 2 rfl) ?_
    have hFc := m_free (C := (fun q e => TW cy L tr a κ_1 τ q e ∨ oW ob (L 0 0) tp q e)) hP hS hA (fun _ _ h => h)
    refine va_calli (va_runV (As := []) (rest := [.int (nI i)]) ⟨hx, hb, hml, hown, hts⟩ (c_links l dC dI cy L tr a κ_1 τ ob tp H.size hT) (tp_cwV 0 hts tw_508 tw_509 tw_510 tw_20 tw_511 rfl rfl (by decide +kernel) ⟨Nat.le_of_ble_eq_true rfl, Nat.le_of_ble_eq_true rfl⟩) ⟨m_blind, va_recv hK (hP.one (e := .inr (8, [.ref (L 0 0), .ref tp])) (Or.inr oW_mem)) (ci := 8) (q0 := 0) rfl rfl, fun U hU hW => ⟨rfl, m_pay hK hP hE (fun _ _ h => h) U hU hW⟩⟩ rfl rfl hl.1 rfl (lv_room (Nat.le_of_ble_eq_true rfl)) dX8_digestLinks_8 ⟨(Nat.le_of_ble_eq_true rfl), (Nat.le_of_ble_eq_true rfl)⟩) hS (fun q _ h => hFc q h) hFc (fun r_2 u t H1 locs ht hvm hpo hB hz1 hk1 hS => ?_)
    obtain rfl := hpo
    obtain ⟨f_2, hP1⟩ := hB
    subst f_2
    rw [ht] at hP1
    have hP : mw (dC, dI) vwCl A (fun q e => TW cy L tr a κ_1 τ q e ∨ oW ob (L 0 0) tp q e) H1 := hP.join (fun _ _ h => h) hk1 hFc hP1 (fun _ _ h => Or.inl h)
    generalize H1 = H at hP hS ⊢
    clear hP1 hk1 hFc
    refine W.eq (g2 := F0 m 11 ls [.int (nI (nL a)), .int (nI i)]) (by rw [in_nI hw.1.1]) ?_
    refine lv_icmp_ge (tgt := 199) hx hb dX8_digestLinks_11 (by decide) (fun c_2 => absurd c_2 (nI_ge hi_1 (by omega))) (fun _ => ?_)
    refine lv_lload_n hx hb dX8_digestLinks_14 rfl (lv_at hl 1 rfl) ?_
    refine lv_ldc2 (v := 31) hx hb hown (hts _ tw_502) dX8_digestLinks_15 ?_
    refine lv_lmul hx hb dX8_digestLinks_18 ?_
    refine lv_aload_n hx hb dX8_digestLinks_19 rfl (lv_at hl 2 rfl) ?_
    refine lv_iload hx hb dX8_digestLinks_20 (lv_at hl 0 rfl) ?_
    have hFc := m_free (C := (fun q e => TW cy L tr a κ_1 τ q e ∨ oW ob (L 0 0) tp q e)) hP hS hA (fun _ _ h => h)
    refine va_calli (va_runV (As := [.int (nI i)]) (rest := [.long ((itL (D_l a) i (d0)) * 31)]) ⟨hx, hb, hml, hown, hts⟩ (c_isShut l dC dI cy L tr a κ_1 τ ob tp M (nI i) H.size hT hw (nI_lno hw hi_1) hsh) (tp_cwV 1 hts tw_544 tw_545 tw_546 tw_20 tw_547 rfl rfl (by decide +kernel) ⟨Nat.le_of_ble_eq_true rfl, Nat.le_of_ble_eq_true rfl⟩) ⟨m_blind, va_recv hK (hP.one (e := .inr (8, [.ref (L 0 0), .ref tp])) (Or.inr oW_mem)) (ci := 8) (q0 := 0) rfl rfl, fun U hU hW => ⟨rfl, m_pay hK hP hE (fun _ _ h => h) U hU hW⟩⟩ rfl rfl hl.1 rfl (lv_room (Nat.le_of_ble_eq_true rfl)) dX8_digestLinks_22 ⟨(Nat.le_of_ble_eq_true rfl), (Nat.le_of_ble_eq_true rfl)⟩) hS (fun q _ h => hFc q h) hFc (fun r_3 u t H1 locs ht hvm hpo hB hz1 hk1 hS => ?_)
    obtain rfl := hpo
    obtain ⟨f_3, hP1⟩ := hB
    subst f_3
    rw [ht] at hP1
    have hP : mw (dC, dI) vwCl A (fun q e => TW cy L tr a κ_1 τ q e ∨ oW ob (L 0 0) tp q e) H1 := hP.join (fun _ _ h => h) hk1 hFc hP1 (fun _ _ h => Or.inl h)
    generalize H1 = H at hP hS ⊢
    clear hP1 hk1 hFc
    suffices hj25 : W p l e _ s m _ below meth c H locs (0 + 0 + 0) (0 + 0 + 0) _ (F0 m 33 ls [.int (if a 2 (nI i).toNatClampNeg 7 = 0 then (0 : Int32) else 1), .long ((itL (D_l a) i (d0)) * 31)]) by
      refine lv_if_eq (tgt := 32) hx hb dX8_digestLinks_25 (by decide) (fun h9 => ?_) (fun h9 => ?_)
      · refine lv_iconst (v := 0) hx hb dX8_digestLinks_32 (by decide) ?_
        refine W.eq (g2 := F0 m 33 ls [.int (if a 2 (nI i).toNatClampNeg 7 = 0 then (0 : Int32) else 1), .long ((itL (D_l a) i (d0)) * 31)]) (by rw [if_pos h9]) ?_
        exact hj25
      · refine lv_iconst (v := 1) hx hb dX8_digestLinks_28 (by decide) ?_
        refine lv_goto (tgt := 33) hx hb dX8_digestLinks_29 (by decide) ?_
        refine W.eq (g2 := F0 m 33 ls [.int (if a 2 (nI i).toNatClampNeg 7 = 0 then (0 : Int32) else 1), .long ((itL (D_l a) i (d0)) * 31)]) (by rw [if_neg h9]) ?_
        exact hj25
    refine lv_i2l (v := (if a 2 (nI i).toNatClampNeg 7 = 0 then (0 : Int32) else 1).toInt64) hx hb dX8_digestLinks_33 rfl ?_
    refine lv_ladd hx hb dX8_digestLinks_34 ?_
    refine lv_lstore_n (lv' := [(3, .long (((itL (D_l a) i (d0)) * 31) + ((if a 2 (nI i).toNatClampNeg 7 = 0 then (0 : Int32) else 1).toInt64))), (5, .int (nI i)), (0, .ref ob), (1, .long d0)]) hx hb dX8_digestLinks_35 rfl hl (by decide) rfl (fun ls hl => ?_)
    refine lv_lload_n hx hb dX8_digestLinks_36 rfl (lv_at hl 0 rfl) ?_
    refine lv_ldc2 (v := 31) hx hb hown (hts _ tw_502) dX8_digestLinks_37 ?_
    refine lv_lmul hx hb dX8_digestLinks_40 ?_
    refine lv_aload_n hx hb dX8_digestLinks_41 rfl (lv_at hl 2 rfl) ?_
    refine lv_iload hx hb dX8_digestLinks_42 (lv_at hl 1 rfl) ?_
    have hFc := m_free (C := (fun q e => TW cy L tr a κ_1 τ q e ∨ oW ob (L 0 0) tp q e)) hP hS hA (fun _ _ h => h)
    refine va_calli (va_runV (As := [.int (nI i)]) (rest := [.long ((((itL (D_l a) i (d0)) * 31) + ((if a 2 (nI i).toNatClampNeg 7 = 0 then (0 : Int32) else 1).toInt64)) * 31)]) ⟨hx, hb, hml, hown, hts⟩ (c_rateOf l dC dI cy L tr a κ_1 τ ob tp M (nI i) H.size hT hw (nI_lno hw hi_1)) (tp_cwV 1 hts tw_548 tw_549 tw_550 tw_20 tw_551 rfl rfl (by decide +kernel) ⟨Nat.le_of_ble_eq_true rfl, Nat.le_of_ble_eq_true rfl⟩) ⟨m_blind, va_recv hK (hP.one (e := .inr (8, [.ref (L 0 0), .ref tp])) (Or.inr oW_mem)) (ci := 8) (q0 := 0) rfl rfl, fun U hU hW => ⟨rfl, m_pay hK hP hE (fun _ _ h => h) U hU hW⟩⟩ rfl rfl hl.1 rfl (lv_room (Nat.le_of_ble_eq_true rfl)) dX8_digestLinks_44 ⟨(Nat.le_of_ble_eq_true rfl), (Nat.le_of_ble_eq_true rfl)⟩) hS (fun q _ h => hFc q h) hFc (fun r_4 u t H1 locs ht hvm hpo hB hz1 hk1 hS => ?_)
    obtain rfl := hpo
    obtain ⟨f_4, hP1⟩ := hB
    subst f_4
    rw [ht] at hP1
    have hP : mw (dC, dI) vwCl A (fun q e => TW cy L tr a κ_1 τ q e ∨ oW ob (L 0 0) tp q e) H1 := hP.join (fun _ _ h => h) hk1 hFc hP1 (fun _ _ h => Or.inl h)
    generalize H1 = H at hP hS ⊢
    clear hP1 hk1 hFc
    refine lv_i2l (v := (a 2 (nI i).toNatClampNeg 5).toInt64) hx hb dX8_digestLinks_47 rfl ?_
    refine lv_ladd hx hb dX8_digestLinks_48 ?_
    refine lv_lstore_n (lv' := [(3, .long (((((itL (D_l a) i (d0)) * 31) + ((if a 2 (nI i).toNatClampNeg 7 = 0 then (0 : Int32) else 1).toInt64)) * 31) + ((a 2 (nI i).toNatClampNeg 5).toInt64))), (5, .int (nI i)), (0, .ref ob), (1, .long d0)]) hx hb dX8_digestLinks_49 rfl hl (by decide) rfl (fun ls hl => ?_)
    refine lv_lload_n hx hb dX8_digestLinks_50 rfl (lv_at hl 0 rfl) ?_
    refine lv_ldc2 (v := 31) hx hb hown (hts _ tw_502) dX8_digestLinks_51 ?_
    refine lv_lmul hx hb dX8_digestLinks_54 ?_
    refine lv_aload_n hx hb dX8_digestLinks_55 rfl (lv_at hl 2 rfl) ?_
    refine lv_iload hx hb dX8_digestLinks_56 (lv_at hl 1 rfl) ?_
    have hFc := m_free (C := (fun q e => TW cy L tr a κ_1 τ q e ∨ oW ob (L 0 0) tp q e)) hP hS hA (fun _ _ h => h)
    refine va_calli (va_runV (As := [.int (nI i)]) (rest := [.long ((((((itL (D_l a) i (d0)) * 31) + ((if a 2 (nI i).toNatClampNeg 7 = 0 then (0 : Int32) else 1).toInt64)) * 31) + ((a 2 (nI i).toNatClampNeg 5).toInt64)) * 31)]) ⟨hx, hb, hml, hown, hts⟩ (c_costOf l dC dI cy L tr a κ_1 τ ob tp M (nI i) H.size hT hw (nI_lno hw hi_1)) (tp_cwV 1 hts tw_552 tw_376 tw_377 tw_20 tw_378 rfl rfl (by decide +kernel) ⟨Nat.le_of_ble_eq_true rfl, Nat.le_of_ble_eq_true rfl⟩) ⟨m_blind, va_recv hK (hP.one (e := .inr (8, [.ref (L 0 0), .ref tp])) (Or.inr oW_mem)) (ci := 8) (q0 := 0) rfl rfl, fun U hU hW => ⟨rfl, m_pay hK hP hE (fun _ _ h => h) U hU hW⟩⟩ rfl rfl hl.1 rfl (lv_room (Nat.le_of_ble_eq_true rfl)) dX8_digestLinks_58 ⟨(Nat.le_of_ble_eq_true rfl), (Nat.le_of_ble_eq_true rfl)⟩) hS (fun q _ h => hFc q h) hFc (fun r_5 u t H1 locs ht hvm hpo hB hz1 hk1 hS => ?_)
    obtain rfl := hpo
    obtain ⟨f_5, hP1⟩ := hB
    subst f_5
    rw [ht] at hP1
    have hP : mw (dC, dI) vwCl A (fun q e => TW cy L tr a κ_1 τ q e ∨ oW ob (L 0 0) tp q e) H1 := hP.join (fun _ _ h => h) hk1 hFc hP1 (fun _ _ h => Or.inl h)
    generalize H1 = H at hP hS ⊢
    clear hP1 hk1 hFc
    refine lv_i2l (v := (a 2 (nI i).toNatClampNeg 8).toInt64) hx hb dX8_digestLinks_61 rfl ?_
    refine lv_ladd hx hb dX8_digestLinks_62 ?_
    refine lv_lstore_n (lv' := [(3, .long (((((((itL (D_l a) i (d0)) * 31) + ((if a 2 (nI i).toNatClampNeg 7 = 0 then (0 : Int32) else 1).toInt64)) * 31) + ((a 2 (nI i).toNatClampNeg 5).toInt64)) * 31) + ((a 2 (nI i).toNatClampNeg 8).toInt64))), (5, .int (nI i)), (0, .ref ob), (1, .long d0)]) hx hb dX8_digestLinks_63 rfl hl (by decide) rfl (fun ls hl => ?_)
    refine lv_lload_n hx hb dX8_digestLinks_64 rfl (lv_at hl 0 rfl) ?_
    refine lv_ldc2 (v := 31) hx hb hown (hts _ tw_502) dX8_digestLinks_65 ?_
    refine lv_lmul hx hb dX8_digestLinks_68 ?_
    refine lv_aload_n hx hb dX8_digestLinks_69 rfl (lv_at hl 2 rfl) ?_
    refine lv_iload hx hb dX8_digestLinks_70 (lv_at hl 1 rfl) ?_
    have hFc := m_free (C := (fun q e => TW cy L tr a κ_1 τ q e ∨ oW ob (L 0 0) tp q e)) hP hS hA (fun _ _ h => h)
    refine va_calli (va_runV (As := [.int (nI i)]) (rest := [.long ((((((((itL (D_l a) i (d0)) * 31) + ((if a 2 (nI i).toNatClampNeg 7 = 0 then (0 : Int32) else 1).toInt64)) * 31) + ((a 2 (nI i).toNatClampNeg 5).toInt64)) * 31) + ((a 2 (nI i).toNatClampNeg 8).toInt64)) * 31)]) ⟨hx, hb, hml, hown, hts⟩ (c_onLink l dC dI cy L tr a κ_1 τ ob tp M (nI i) H.size hT hw (nI_lno hw hi_1)) (tp_cwV 1 hts tw_553 tw_432 tw_433 tw_20 tw_434 rfl rfl (by decide +kernel) ⟨Nat.le_of_ble_eq_true rfl, Nat.le_of_ble_eq_true rfl⟩) ⟨m_blind, va_recv hK (hP.one (e := .inr (8, [.ref (L 0 0), .ref tp])) (Or.inr oW_mem)) (ci := 8) (q0 := 0) rfl rfl, fun U hU hW => ⟨rfl, m_pay hK hP hE (fun _ _ h => h) U hU hW⟩⟩ rfl rfl hl.1 rfl (lv_room (Nat.le_of_ble_eq_true rfl)) dX8_digestLinks_72 ⟨(Nat.le_of_ble_eq_true rfl), (Nat.le_of_ble_eq_true rfl)⟩) hS (fun q _ h => hFc q h) hFc (fun r_6 u t H1 locs ht hvm hpo hB hz1 hk1 hS => ?_)
    obtain rfl := hpo
    obtain ⟨f_6, hP1⟩ := hB
    subst f_6
    rw [ht] at hP1
    have hP : mw (dC, dI) vwCl A (fun q e => TW cy L tr a κ_1 τ q e ∨ oW ob (L 0 0) tp q e) H1 := hP.join (fun _ _ h => h) hk1 hFc hP1 (fun _ _ h => Or.inl h)
    generalize H1 = H at hP hS ⊢
    clear hP1 hk1 hFc
    refine lv_i2l (v := (a 3 (nI i).toNatClampNeg 0).toInt64) hx hb dX8_digestLinks_75 rfl ?_
    refine lv_ladd hx hb dX8_digestLinks_76 ?_
    refine lv_lstore_n (lv' := [(3, .long (((((((((itL (D_l a) i (d0)) * 31) + ((if a 2 (nI i).toNatClampNeg 7 = 0 then (0 : Int32) else 1).toInt64)) * 31) + ((a 2 (nI i).toNatClampNeg 5).toInt64)) * 31) + ((a 2 (nI i).toNatClampNeg 8).toInt64)) * 31) + ((a 3 (nI i).toNatClampNeg 0).toInt64))), (5, .int (nI i)), (0, .ref ob), (1, .long d0)]) hx hb dX8_digestLinks_77 rfl hl (by decide) rfl (fun ls hl => ?_)
    refine lv_iconst (v := 0) hx hb dX8_digestLinks_78 (by decide) ?_
    refine lv_istore (lv' := [(6, .int 0), (3, .long (((((((((itL (D_l a) i (d0)) * 31) + ((if a 2 (nI i).toNatClampNeg 7 = 0 then (0 : Int32) else 1).toInt64)) * 31) + ((a 2 (nI i).toNatClampNeg 5).toInt64)) * 31) + ((a 2 (nI i).toNatClampNeg 8).toInt64)) * 31) + ((a 3 (nI i).toNatClampNeg 0).toInt64))), (5, .int (nI i)), (0, .ref ob), (1, .long d0)]) hx hb dX8_digestLinks_79 hl (by decide) rfl (fun ls hl => ?_)
    suffices h114 : ∀ (κA : Kap), CV a κA → ∀ ls : Array Slot, lv_has ls 7 [(3, .long (itL (D_l2 a i) ((a 3 (nI i).toNatClampNeg 0).toNatClampNeg) (((((((((itL (D_l a) i (d0)) * 31) + ((if a 2 (nI i).toNatClampNeg 7 = 0 then (0 : Int32) else 1).toInt64)) * 31) + ((a 2 (nI i).toNatClampNeg 5).toInt64)) * 31) + ((a 2 (nI i).toNatClampNeg 8).toInt64)) * 31) + ((a 3 (nI i).toNatClampNeg 0).toInt64)))), (5, .int (nI i)), (0, .ref ob), (1, .long d0)] → ∀ (H : Heap) (locs : List Loc), mw (dC, dI) vwCl A (fun q e => TW cy L tr a κA τ q e ∨ oW ob (L 0 0) tp q e) H → va_S A s.heap H locs → W p l e _ s m _ below meth c H locs (0 + 0 + 0 + 0 + 0 + 0) (0 + 0 + 0 + 0 + 0 + 0) _ (F0 m 114 ls []) by
      have e0 : ((((((((itL (D_l a) i (d0)) * 31) + ((if a 2 (nI i).toNatClampNeg 7 = 0 then (0 : Int32) else 1).toInt64)) * 31) + ((a 2 (nI i).toNatClampNeg 5).toInt64)) * 31) + ((a 2 (nI i).toNatClampNeg 8).toInt64)) * 31) + ((a 3 (nI i).toNatClampNeg 0).toInt64) = itL (D_l2 a i) 0 (((((((((itL (D_l a) i (d0)) * 31) + ((if a 2 (nI i).toNatClampNeg 7 = 0 then (0 : Int32) else 1).toInt64)) * 31) + ((a 2 (nI i).toNatClampNeg 5).toInt64)) * 31) + ((a 2 (nI i).toNatClampNeg 8).toInt64)) * 31) + ((a 3 (nI i).toNatClampNeg 0).toInt64)) := itL_0.symm
      rw [e0] at hl
      have hN_2 : (a 3 (nI i).toNatClampNeg 0).toNatClampNeg ≤ 30 := in_le (hw.2.1 _ (G_lt hw (nI_lno hw hi_1))).2.2.2.2.1
      refine W.widen (k := (fun _ => (0 + 0 + 0 + 0 + 0 + 0)) 0) (n := (fun _ => (0 + 0 + 0 + 0 + 0 + 0)) 0) (Nat.le_refl _) (Nat.le_refl _) ?_
      refine tp_for (σ := Kap) ((a 3 (nI i).toNatClampNeg 0).toNatClampNeg) (fun _ => (0 + 0 + 0 + 0 + 0 + 0)) (fun _ => (0 + 0 + 0 + 0 + 0 + 0)) (fun (j : Nat) (y : Kap) (H : Heap) (locs : List Loc) (ls : Array Slot) => CV a y ∧ mw (dC, dI) vwCl A (fun q e => TW cy L tr a y τ q e ∨ oW ob (L 0 0) tp q e) H ∧ va_S A s.heap H locs ∧ lv_has ls 7 [(6, .int (nI j)), (3, .long (itL (D_l2 a i) j (((((((((itL (D_l a) i (d0)) * 31) + ((if a 2 (nI i).toNatClampNeg 7 = 0 then (0 : Int32) else 1).toInt64)) * 31) + ((a 2 (nI i).toNatClampNeg 5).toInt64)) * 31) + ((a 2 (nI i).toNatClampNeg 8).toInt64)) * 31) + ((a 3 (nI i).toNatClampNeg 0).toInt64)))), (5, .int (nI i)), (0, .ref ob), (1, .long d0)]) ?_ ?_ ((a 3 (nI i).toNatClampNeg 0).toNatClampNeg) 0 (Nat.zero_add _) κ_1 _ _ ls ⟨hc_1, hP, hS, lv_sub hl [0, 1, 2, 3, 4] rfl⟩
      · rintro κ_2 H locs ls ⟨hc_2, hP, hS, hl⟩
        have hl : lv_has ls 7 [(6, .int (nI ((a 3 (nI i).toNatClampNeg 0).toNatClampNeg))), (3, .long (itL (D_l2 a i) ((a 3 (nI i).toNatClampNeg 0).toNatClampNeg) (((((((((itL (D_l a) i (d0)) * 31) + ((if a 2 (nI i).toNatClampNeg 7 = 0 then (0 : Int32) else 1).toInt64)) * 31) + ((a 2 (nI i).toNatClampNeg 5).toInt64)) * 31) + ((a 2 (nI i).toNatClampNeg 8).toInt64)) * 31) + ((a 3 (nI i).toNatClampNeg 0).toInt64)))), (5, .int (nI i)), (0, .ref ob), (1, .long d0)] := hl
        have hP : mw (dC, dI) vwCl A (fun q e => TW cy L tr a κ_2 τ q e ∨ oW ob (L 0 0) tp q e) H := hP
        show W _ _ _ _ _ _ _ _ _ _ _ _ (0 + 0 + 0 + 0 + 0 + 0) (0 + 0 + 0 + 0 + 0 + 0) _ _
        refine lv_iload hx hb dX8_digestLinks_81 (lv_at hl 0 rfl) ?_
        refine lv_aload_n hx hb dX8_digestLinks_83 rfl (lv_at hl 3 rfl) ?_
        refine lv_iload hx hb dX8_digestLinks_84 (lv_at hl 2 rfl) ?_
        have hFc := m_free (C := (fun q e => TW cy L tr a κ_2 τ q e ∨ oW ob (L 0 0) tp q e)) hP hS hA (fun _ _ h => h)
        refine va_calli (va_runV (As := [.int (nI i)]) (rest := [.int (nI ((a 3 (nI i).toNatClampNeg 0).toNatClampNeg))]) ⟨hx, hb, hml, hown, hts⟩ (c_onLink l dC dI cy L tr a κ_2 τ ob tp M (nI i) H.size hT hw (nI_lno hw hi_1)) (tp_cwV 1 hts tw_553 tw_432 tw_433 tw_20 tw_434 rfl rfl (by decide +kernel) ⟨Nat.le_of_ble_eq_true rfl, Nat.le_of_ble_eq_true rfl⟩) ⟨m_blind, va_recv hK (hP.one (e := .inr (8, [.ref (L 0 0), .ref tp])) (Or.inr oW_mem)) (ci := 8) (q0 := 0) rfl rfl, fun U hU hW => ⟨rfl, m_pay hK hP hE (fun _ _ h => h) U hU hW⟩⟩ rfl rfl hl.1 rfl (lv_room (Nat.le_of_ble_eq_true rfl)) dX8_digestLinks_86 ⟨(Nat.le_of_ble_eq_true rfl), (Nat.le_of_ble_eq_true rfl)⟩) hS (fun q _ h => hFc q h) hFc (fun r_7 u t H1 locs ht hvm hpo hB hz1 hk1 hS => ?_)
        obtain rfl := hpo
        obtain ⟨f_7, hP1⟩ := hB
        subst f_7
        rw [ht] at hP1
        have hP : mw (dC, dI) vwCl A (fun q e => TW cy L tr a κ_2 τ q e ∨ oW ob (L 0 0) tp q e) H1 := hP.join (fun _ _ h => h) hk1 hFc hP1 (fun _ _ h => Or.inl h)
        generalize H1 = H at hP hS ⊢
        clear hP1 hk1 hFc
        refine W.eq (g2 := F0 m 89 ls [.int (nI ((a 3 (nI i).toNatClampNeg 0).toNatClampNeg)), .int (nI ((a 3 (nI i).toNatClampNeg 0).toNatClampNeg))]) (congrArg (fun z => F0 m 89 ls [.int z, .int (nI ((a 3 (nI i).toNatClampNeg 0).toNatClampNeg))]) (in_nI (hw.2.1 _ (G_lt hw (nI_lno hw hi_1))).2.2.2.2.1)) ?_
        refine lv_icmp_ge (tgt := 114) hx hb dX8_digestLinks_89 (by decide) (fun _ => ?_) (fun c_3 => absurd (Int32.le_refl _) c_3)
        exact h114 κ_2 hc_2 ls (lv_sub hl [1, 2, 3, 4] rfl) _ _ hP hS
      · rintro j κ_2 H locs ls hi_2 ⟨hc_2, hP, hS, hl⟩ ih_2
        have hl : lv_has ls 7 [(6, .int (nI j)), (3, .long (itL (D_l2 a i) j (((((((((itL (D_l a) i (d0)) * 31) + ((if a 2 (nI i).toNatClampNeg 7 = 0 then (0 : Int32) else 1).toInt64)) * 31) + ((a 2 (nI i).toNatClampNeg 5).toInt64)) * 31) + ((a 2 (nI i).toNatClampNeg 8).toInt64)) * 31) + ((a 3 (nI i).toNatClampNeg 0).toInt64)))), (5, .int (nI i)), (0, .ref ob), (1, .long d0)] := hl
        have hP : mw (dC, dI) vwCl A (fun q e => TW cy L tr a κ_2 τ q e ∨ oW ob (L 0 0) tp q e) H := hP
        show W _ _ _ _ _ _ _ _ _ _ _ _ (0 + 0 + 0 + 0 + 0 + 0) (0 + 0 + 0 + 0 + 0 + 0) _ _
        refine lv_iload hx hb dX8_digestLinks_81 (lv_at hl 0 rfl) ?_
        refine lv_aload_n hx hb dX8_digestLinks_83 rfl (lv_at hl 3 rfl) ?_
        refine lv_iload hx hb dX8_digestLinks_84 (lv_at hl 2 rfl) ?_
        have hFc := m_free (C := (fun q e => TW cy L tr a κ_2 τ q e ∨ oW ob (L 0 0) tp q e)) hP hS hA (fun _ _ h => h)
        refine va_calli (va_runV (As := [.int (nI i)]) (rest := [.int (nI j)]) ⟨hx, hb, hml, hown, hts⟩ (c_onLink l dC dI cy L tr a κ_2 τ ob tp M (nI i) H.size hT hw (nI_lno hw hi_1)) (tp_cwV 1 hts tw_553 tw_432 tw_433 tw_20 tw_434 rfl rfl (by decide +kernel) ⟨Nat.le_of_ble_eq_true rfl, Nat.le_of_ble_eq_true rfl⟩) ⟨m_blind, va_recv hK (hP.one (e := .inr (8, [.ref (L 0 0), .ref tp])) (Or.inr oW_mem)) (ci := 8) (q0 := 0) rfl rfl, fun U hU hW => ⟨rfl, m_pay hK hP hE (fun _ _ h => h) U hU hW⟩⟩ rfl rfl hl.1 rfl (lv_room (Nat.le_of_ble_eq_true rfl)) dX8_digestLinks_86 ⟨(Nat.le_of_ble_eq_true rfl), (Nat.le_of_ble_eq_true rfl)⟩) hS (fun q _ h => hFc q h) hFc (fun r_8 u t H1 locs ht hvm hpo hB hz1 hk1 hS => ?_)
        obtain rfl := hpo
        obtain ⟨f_8, hP1⟩ := hB
        subst f_8
        rw [ht] at hP1
        have hP : mw (dC, dI) vwCl A (fun q e => TW cy L tr a κ_2 τ q e ∨ oW ob (L 0 0) tp q e) H1 := hP.join (fun _ _ h => h) hk1 hFc hP1 (fun _ _ h => Or.inl h)
        generalize H1 = H at hP hS ⊢
        clear hP1 hk1 hFc
        refine W.eq (g2 := F0 m 89 ls [.int (nI ((a 3 (nI i).toNatClampNeg 0).toNatClampNeg)), .int (nI j)]) (congrArg (fun z => F0 m 89 ls [.int z, .int (nI j)]) (in_nI (hw.2.1 _ (G_lt hw (nI_lno hw hi_1))).2.2.2.2.1)) ?_
        refine lv_icmp_ge (tgt := 114) hx hb dX8_digestLinks_89 (by decide) (fun c_4 => absurd c_4 (nI_ge hi_2 (by omega))) (fun _ => ?_)
        refine lv_lload_n hx hb dX8_digestLinks_92 rfl (lv_at hl 1 rfl) ?_
        refine lv_ldc2 (v := 31) hx hb hown (hts _ tw_502) dX8_digestLinks_93 ?_
        refine lv_lmul hx hb dX8_digestLinks_96 ?_
        refine lv_aload_n hx hb dX8_digestLinks_97 rfl (lv_at hl 3 rfl) ?_
        refine lv_iload hx hb dX8_digestLinks_98 (lv_at hl 2 rfl) ?_
        refine lv_iload hx hb dX8_digestLinks_100 (lv_at hl 0 rfl) ?_
        have hFc := m_free (C := (fun q e => TW cy L tr a κ_2 τ q e ∨ oW ob (L 0 0) tp q e)) hP hS hA (fun _ _ h => h)
        refine va_calli (va_runV (As := [.int (nI i), .int (nI j)]) (rest := [.long ((itL (D_l2 a i) j (((((((((itL (D_l a) i (d0)) * 31) + ((if a 2 (nI i).toNatClampNeg 7 = 0 then (0 : Int32) else 1).toInt64)) * 31) + ((a 2 (nI i).toNatClampNeg 5).toInt64)) * 31) + ((a 2 (nI i).toNatClampNeg 8).toInt64)) * 31) + ((a 3 (nI i).toNatClampNeg 0).toInt64))) * 31)]) ⟨hx, hb, hml, hown, hts⟩ (c_vehicleAt l dC dI cy L tr a κ_2 τ ob tp M (nI i) (nI j) H.size hT hw (nI_lno hw hi_1) (nI_pos (by omega)) (nI_ltN hi_2 (hw.2.1 _ (G_lt hw (nI_lno hw hi_1))).2.2.2.2.1)) (tp_cwV 2 hts tw_554 tw_436 tw_437 tw_20 tw_438 rfl rfl (by decide +kernel) ⟨Nat.le_of_ble_eq_true rfl, Nat.le_of_ble_eq_true rfl⟩) ⟨m_blind, va_recv hK (hP.one (e := .inr (8, [.ref (L 0 0), .ref tp])) (Or.inr oW_mem)) (ci := 8) (q0 := 0) rfl rfl, fun U hU hW => ⟨rfl, m_pay hK hP hE (fun _ _ h => h) U hU hW⟩⟩ rfl rfl hl.1 rfl (lv_room (Nat.le_of_ble_eq_true rfl)) dX8_digestLinks_102 ⟨(Nat.le_of_ble_eq_true rfl), (Nat.le_of_ble_eq_true rfl)⟩) hS (fun q _ h => hFc q h) hFc (fun r_9 u t H1 locs ht hvm hpo hB hz1 hk1 hS => ?_)
        obtain rfl := hpo
        obtain ⟨f_9, hP1⟩ := hB
        subst f_9
        rw [ht] at hP1
        have hP : mw (dC, dI) vwCl A (fun q e => TW cy L tr a κ_2 τ q e ∨ oW ob (L 0 0) tp q e) H1 := hP.join (fun _ _ h => h) hk1 hFc hP1 (fun _ _ h => Or.inl h)
        generalize H1 = H at hP hS ⊢
        clear hP1 hk1 hFc
        refine lv_i2l (v := (R_get (a 3 (nI i).toNatClampNeg 0) (a 4 (nI i).toNatClampNeg) (nI j)).toInt64) hx hb dX8_digestLinks_105 rfl ?_
        refine lv_ladd hx hb dX8_digestLinks_106 ?_
        refine lv_lstore_n (lv' := [(3, .long (((itL (D_l2 a i) j (((((((((itL (D_l a) i (d0)) * 31) + ((if a 2 (nI i).toNatClampNeg 7 = 0 then (0 : Int32) else 1).toInt64)) * 31) + ((a 2 (nI i).toNatClampNeg 5).toInt64)) * 31) + ((a 2 (nI i).toNatClampNeg 8).toInt64)) * 31) + ((a 3 (nI i).toNatClampNeg 0).toInt64))) * 31) + ((R_get (a 3 (nI i).toNatClampNeg 0) (a 4 (nI i).toNatClampNeg) (nI j)).toInt64))), (6, .int (nI j)), (5, .int (nI i)), (0, .ref ob), (1, .long d0)]) hx hb dX8_digestLinks_107 rfl hl (by decide) rfl (fun ls hl => ?_)
        refine lv_iinc (v := nI (j + 1)) (lv' := [(6, .int (nI (j + 1))), (3, .long (((itL (D_l2 a i) j (((((((((itL (D_l a) i (d0)) * 31) + ((if a 2 (nI i).toNatClampNeg 7 = 0 then (0 : Int32) else 1).toInt64)) * 31) + ((a 2 (nI i).toNatClampNeg 5).toInt64)) * 31) + ((a 2 (nI i).toNatClampNeg 8).toInt64)) * 31) + ((a 3 (nI i).toNatClampNeg 0).toInt64))) * 31) + ((R_get (a 3 (nI i).toNatClampNeg 0) (a 4 (nI i).toNatClampNeg) (nI j)).toInt64))), (5, .int (nI i)), (0, .ref ob), (1, .long d0)]) hx hb dX8_digestLinks_108 hl (k := 1) rfl (nI_1 j) (by decide) rfl (fun ls hl => ?_)
        refine lv_goto (tgt := 81) hx hb dX8_digestLinks_111 (by decide) ?_
        have e9 : ((itL (D_l2 a i) j (((((((((itL (D_l a) i (d0)) * 31) + ((if a 2 (nI i).toNatClampNeg 7 = 0 then (0 : Int32) else 1).toInt64)) * 31) + ((a 2 (nI i).toNatClampNeg 5).toInt64)) * 31) + ((a 2 (nI i).toNatClampNeg 8).toInt64)) * 31) + ((a 3 (nI i).toNatClampNeg 0).toInt64))) * 31) + ((R_get (a 3 (nI i).toNatClampNeg 0) (a 4 (nI i).toNatClampNeg) (nI j)).toInt64) = itL (D_l2 a i) (j + 1) (((((((((itL (D_l a) i (d0)) * 31) + ((if a 2 (nI i).toNatClampNeg 7 = 0 then (0 : Int32) else 1).toInt64)) * 31) + ((a 2 (nI i).toNatClampNeg 5).toInt64)) * 31) + ((a 2 (nI i).toNatClampNeg 8).toInt64)) * 31) + ((a 3 (nI i).toNatClampNeg 0).toInt64)) := by
          rw [itL_s]
          unfold D_l2
          rfl
        rw [e9] at hl
        exact ih_2 κ_2 _ _ ls ⟨hc_2, hP, hS, lv_sub hl [0, 1, 2, 3, 4] rfl⟩
    intro κA hcA ls hl H locs hP hS
    refine lv_lload_n hx hb dX8_digestLinks_114 rfl (lv_at hl 0 rfl) ?_
    refine lv_ldc2 (v := 31) hx hb hown (hts _ tw_502) dX8_digestLinks_115 ?_
    refine lv_lmul hx hb dX8_digestLinks_118 ?_
    refine lv_aload_n hx hb dX8_digestLinks_119 rfl (lv_at hl 2 rfl) ?_
    refine lv_iload hx hb dX8_digestLinks_120 (lv_at hl 1 rfl) ?_
    have hFc := m_free (C := (fun q e => TW cy L tr a κA τ q e ∨ oW ob (L 0 0) tp q e)) hP hS hA (fun _ _ h => h)
    refine va_calli (va_runV (As := [.int (nI i)]) (rest := [.long ((itL (D_l2 a i) ((a 3 (nI i).toNatClampNeg 0).toNatClampNeg) (((((((((itL (D_l a) i (d0)) * 31) + ((if a 2 (nI i).toNatClampNeg 7 = 0 then (0 : Int32) else 1).toInt64)) * 31) + ((a 2 (nI i).toNatClampNeg 5).toInt64)) * 31) + ((a 2 (nI i).toNatClampNeg 8).toInt64)) * 31) + ((a 3 (nI i).toNatClampNeg 0).toInt64))) * 31)]) ⟨hx, hb, hml, hown, hts⟩ (c_queue l dC dI cy L tr a κA τ ob tp M (nI i) H.size hT hw (nI_lno hw hi_1)) (tp_cwV 1 hts tw_555 tw_442 tw_443 tw_20 tw_444 rfl rfl (by decide +kernel) ⟨Nat.le_of_ble_eq_true rfl, Nat.le_of_ble_eq_true rfl⟩) ⟨m_blind, va_recv hK (hP.one (e := .inr (8, [.ref (L 0 0), .ref tp])) (Or.inr oW_mem)) (ci := 8) (q0 := 0) rfl rfl, fun U hU hW => ⟨rfl, m_pay hK hP hE (fun _ _ h => h) U hU hW⟩⟩ rfl rfl hl.1 rfl (lv_room (Nat.le_of_ble_eq_true rfl)) dX8_digestLinks_122 ⟨(Nat.le_of_ble_eq_true rfl), (Nat.le_of_ble_eq_true rfl)⟩) hS (fun q _ h => hFc q h) hFc (fun r_10 u t H1 locs ht hvm hpo hB hz1 hk1 hS => ?_)
    obtain rfl := hpo
    obtain ⟨f_10, hP1⟩ := hB
    subst f_10
    rw [ht] at hP1
    have hP : mw (dC, dI) vwCl A (fun q e => TW cy L tr a κA τ q e ∨ oW ob (L 0 0) tp q e) H1 := hP.join (fun _ _ h => h) hk1 hFc hP1 (fun _ _ h => Or.inl h)
    generalize H1 = H at hP hS ⊢
    clear hP1 hk1 hFc
    refine lv_i2l (v := (L_q a (nI i).toNatClampNeg (a 0 0 0)).toInt64) hx hb dX8_digestLinks_125 rfl ?_
    refine lv_ladd hx hb dX8_digestLinks_126 ?_
    refine lv_lstore_n (lv' := [(3, .long (((itL (D_l2 a i) ((a 3 (nI i).toNatClampNeg 0).toNatClampNeg) (((((((((itL (D_l a) i (d0)) * 31) + ((if a 2 (nI i).toNatClampNeg 7 = 0 then (0 : Int32) else 1).toInt64)) * 31) + ((a 2 (nI i).toNatClampNeg 5).toInt64)) * 31) + ((a 2 (nI i).toNatClampNeg 8).toInt64)) * 31) + ((a 3 (nI i).toNatClampNeg 0).toInt64))) * 31) + ((L_q a (nI i).toNatClampNeg (a 0 0 0)).toInt64))), (5, .int (nI i)), (0, .ref ob), (1, .long d0)]) hx hb dX8_digestLinks_127 rfl hl (by decide) rfl (fun ls hl => ?_)
    refine lv_iconst (v := 0) hx hb dX8_digestLinks_128 (by decide) ?_
    refine lv_istore (lv' := [(6, .int 0), (3, .long (((itL (D_l2 a i) ((a 3 (nI i).toNatClampNeg 0).toNatClampNeg) (((((((((itL (D_l a) i (d0)) * 31) + ((if a 2 (nI i).toNatClampNeg 7 = 0 then (0 : Int32) else 1).toInt64)) * 31) + ((a 2 (nI i).toNatClampNeg 5).toInt64)) * 31) + ((a 2 (nI i).toNatClampNeg 8).toInt64)) * 31) + ((a 3 (nI i).toNatClampNeg 0).toInt64))) * 31) + ((L_q a (nI i).toNatClampNeg (a 0 0 0)).toInt64))), (5, .int (nI i)), (0, .ref ob), (1, .long d0)]) hx hb dX8_digestLinks_129 hl (by decide) rfl (fun ls hl => ?_)
    suffices h159 : ∀ (κB : Kap), CV a κB → ∀ ls : Array Slot, lv_has ls 7 [(3, .long (itL (D_l4 a i) 4 (((itL (D_l2 a i) ((a 3 (nI i).toNatClampNeg 0).toNatClampNeg) (((((((((itL (D_l a) i (d0)) * 31) + ((if a 2 (nI i).toNatClampNeg 7 = 0 then (0 : Int32) else 1).toInt64)) * 31) + ((a 2 (nI i).toNatClampNeg 5).toInt64)) * 31) + ((a 2 (nI i).toNatClampNeg 8).toInt64)) * 31) + ((a 3 (nI i).toNatClampNeg 0).toInt64))) * 31) + ((L_q a (nI i).toNatClampNeg (a 0 0 0)).toInt64)))), (5, .int (nI i)), (0, .ref ob), (1, .long d0)] → ∀ (H : Heap) (locs : List Loc), mw (dC, dI) vwCl A (fun q e => TW cy L tr a κB τ q e ∨ oW ob (L 0 0) tp q e) H → va_S A s.heap H locs → W p l e _ s m _ below meth c H locs (0 + 0 + 0 + 0 + 0 + 0 + 0) (0 + 0 + 0 + 0 + 0 + 0 + 0) _ (F0 m 159 ls []) by
      have e0 : ((itL (D_l2 a i) ((a 3 (nI i).toNatClampNeg 0).toNatClampNeg) (((((((((itL (D_l a) i (d0)) * 31) + ((if a 2 (nI i).toNatClampNeg 7 = 0 then (0 : Int32) else 1).toInt64)) * 31) + ((a 2 (nI i).toNatClampNeg 5).toInt64)) * 31) + ((a 2 (nI i).toNatClampNeg 8).toInt64)) * 31) + ((a 3 (nI i).toNatClampNeg 0).toInt64))) * 31) + ((L_q a (nI i).toNatClampNeg (a 0 0 0)).toInt64) = itL (D_l4 a i) 0 (((itL (D_l2 a i) ((a 3 (nI i).toNatClampNeg 0).toNatClampNeg) (((((((((itL (D_l a) i (d0)) * 31) + ((if a 2 (nI i).toNatClampNeg 7 = 0 then (0 : Int32) else 1).toInt64)) * 31) + ((a 2 (nI i).toNatClampNeg 5).toInt64)) * 31) + ((a 2 (nI i).toNatClampNeg 8).toInt64)) * 31) + ((a 3 (nI i).toNatClampNeg 0).toInt64))) * 31) + ((L_q a (nI i).toNatClampNeg (a 0 0 0)).toInt64)) := itL_0.symm
      rw [e0] at hl
      have hN_3 : 4 ≤ 4 := (Nat.le_refl _)
      refine W.widen (k := (fun _ => (0 + 0 + 0 + 0 + 0 + 0 + 0)) 0) (n := (fun _ => (0 + 0 + 0 + 0 + 0 + 0 + 0)) 0) (Nat.le_refl _) (Nat.le_refl _) ?_
      refine tp_for (σ := Kap) 4 (fun _ => (0 + 0 + 0 + 0 + 0 + 0 + 0)) (fun _ => (0 + 0 + 0 + 0 + 0 + 0 + 0)) (fun (j : Nat) (y : Kap) (H : Heap) (locs : List Loc) (ls : Array Slot) => CV a y ∧ mw (dC, dI) vwCl A (fun q e => TW cy L tr a y τ q e ∨ oW ob (L 0 0) tp q e) H ∧ va_S A s.heap H locs ∧ lv_has ls 7 [(6, .int (nI j)), (3, .long (itL (D_l4 a i) j (((itL (D_l2 a i) ((a 3 (nI i).toNatClampNeg 0).toNatClampNeg) (((((((((itL (D_l a) i (d0)) * 31) + ((if a 2 (nI i).toNatClampNeg 7 = 0 then (0 : Int32) else 1).toInt64)) * 31) + ((a 2 (nI i).toNatClampNeg 5).toInt64)) * 31) + ((a 2 (nI i).toNatClampNeg 8).toInt64)) * 31) + ((a 3 (nI i).toNatClampNeg 0).toInt64))) * 31) + ((L_q a (nI i).toNatClampNeg (a 0 0 0)).toInt64)))), (5, .int (nI i)), (0, .ref ob), (1, .long d0)]) ?_ ?_ 4 0 (Nat.zero_add _) κA _ _ ls ⟨hcA, hP, hS, lv_sub hl [0, 1, 2, 3, 4] rfl⟩
      · rintro κ_3 H locs ls ⟨hc_3, hP, hS, hl⟩
        have hl : lv_has ls 7 [(6, .int (nI 4)), (3, .long (itL (D_l4 a i) 4 (((itL (D_l2 a i) ((a 3 (nI i).toNatClampNeg 0).toNatClampNeg) (((((((((itL (D_l a) i (d0)) * 31) + ((if a 2 (nI i).toNatClampNeg 7 = 0 then (0 : Int32) else 1).toInt64)) * 31) + ((a 2 (nI i).toNatClampNeg 5).toInt64)) * 31) + ((a 2 (nI i).toNatClampNeg 8).toInt64)) * 31) + ((a 3 (nI i).toNatClampNeg 0).toInt64))) * 31) + ((L_q a (nI i).toNatClampNeg (a 0 0 0)).toInt64)))), (5, .int (nI i)), (0, .ref ob), (1, .long d0)] := hl
        have hP : mw (dC, dI) vwCl A (fun q e => TW cy L tr a κ_3 τ q e ∨ oW ob (L 0 0) tp q e) H := hP
        show W _ _ _ _ _ _ _ _ _ _ _ _ (0 + 0 + 0 + 0 + 0 + 0 + 0) (0 + 0 + 0 + 0 + 0 + 0 + 0) _ _
        refine lv_iload hx hb dX8_digestLinks_131 (lv_at hl 0 rfl) ?_
        refine lv_iconst (v := 3) hx hb dX8_digestLinks_133 (by decide) ?_
        refine lv_icmp_gt (tgt := 159) hx hb dX8_digestLinks_134 (by decide) (fun _ => ?_) (fun c_5 => absurd (by decide) c_5)
        exact h159 κ_3 hc_3 ls (lv_sub hl [1, 2, 3, 4] rfl) _ _ hP hS
      · rintro j κ_3 H locs ls hi_3 ⟨hc_3, hP, hS, hl⟩ ih_3
        have hl : lv_has ls 7 [(6, .int (nI j)), (3, .long (itL (D_l4 a i) j (((itL (D_l2 a i) ((a 3 (nI i).toNatClampNeg 0).toNatClampNeg) (((((((((itL (D_l a) i (d0)) * 31) + ((if a 2 (nI i).toNatClampNeg 7 = 0 then (0 : Int32) else 1).toInt64)) * 31) + ((a 2 (nI i).toNatClampNeg 5).toInt64)) * 31) + ((a 2 (nI i).toNatClampNeg 8).toInt64)) * 31) + ((a 3 (nI i).toNatClampNeg 0).toInt64))) * 31) + ((L_q a (nI i).toNatClampNeg (a 0 0 0)).toInt64)))), (5, .int (nI i)), (0, .ref ob), (1, .long d0)] := hl
        have hP : mw (dC, dI) vwCl A (fun q e => TW cy L tr a κ_3 τ q e ∨ oW ob (L 0 0) tp q e) H := hP
        show W _ _ _ _ _ _ _ _ _ _ _ _ (0 + 0 + 0 + 0 + 0 + 0 + 0) (0 + 0 + 0 + 0 + 0 + 0 + 0) _ _
        refine lv_iload hx hb dX8_digestLinks_131 (lv_at hl 0 rfl) ?_
        refine lv_iconst (v := 3) hx hb dX8_digestLinks_133 (by decide) ?_
        refine lv_icmp_gt (tgt := 159) hx hb dX8_digestLinks_134 (by decide) (fun c_6 => absurd c_6 (nI_nlt (a := 3) (b := j) (by omega) (by decide))) (fun _ => ?_)
        refine lv_lload_n hx hb dX8_digestLinks_137 rfl (lv_at hl 1 rfl) ?_
        refine lv_ldc2 (v := 31) hx hb hown (hts _ tw_502) dX8_digestLinks_138 ?_
        refine lv_lmul hx hb dX8_digestLinks_141 ?_
        refine lv_aload_n hx hb dX8_digestLinks_142 rfl (lv_at hl 3 rfl) ?_
        refine lv_iload hx hb dX8_digestLinks_143 (lv_at hl 2 rfl) ?_
        refine lv_iload hx hb dX8_digestLinks_145 (lv_at hl 0 rfl) ?_
        have hFc := m_free (C := (fun q e => TW cy L tr a κ_3 τ q e ∨ oW ob (L 0 0) tp q e)) hP hS hA (fun _ _ h => h)
        refine va_calli (va_runV (As := [.int (nI i), .int (nI j)]) (rest := [.long ((itL (D_l4 a i) j (((itL (D_l2 a i) ((a 3 (nI i).toNatClampNeg 0).toNatClampNeg) (((((((((itL (D_l a) i (d0)) * 31) + ((if a 2 (nI i).toNatClampNeg 7 = 0 then (0 : Int32) else 1).toInt64)) * 31) + ((a 2 (nI i).toNatClampNeg 5).toInt64)) * 31) + ((a 2 (nI i).toNatClampNeg 8).toInt64)) * 31) + ((a 3 (nI i).toNatClampNeg 0).toInt64))) * 31) + ((L_q a (nI i).toNatClampNeg (a 0 0 0)).toInt64))) * 31)]) ⟨hx, hb, hml, hown, hts⟩ (c_count l dC dI cy L tr a κ_3 τ ob tp M (nI i) j H.size hT hw (nI_lno hw hi_1) hi_3) (tp_cwV 2 hts tw_556 tw_447 tw_448 tw_20 tw_449 rfl rfl (by decide +kernel) ⟨Nat.le_of_ble_eq_true rfl, Nat.le_of_ble_eq_true rfl⟩) ⟨m_blind, va_recv hK (hP.one (e := .inr (8, [.ref (L 0 0), .ref tp])) (Or.inr oW_mem)) (ci := 8) (q0 := 0) rfl rfl, fun U hU hW => ⟨rfl, m_pay hK hP hE (fun _ _ h => h) U hU hW⟩⟩ rfl rfl hl.1 rfl (lv_room (Nat.le_of_ble_eq_true rfl)) dX8_digestLinks_147 ⟨(Nat.le_of_ble_eq_true rfl), (Nat.le_of_ble_eq_true rfl)⟩) hS (fun q _ h => hFc q h) hFc (fun r_11 u t H1 locs ht hvm hpo hB hz1 hk1 hS => ?_)
        obtain rfl := hpo
        obtain ⟨f_11, hP1⟩ := hB
        subst f_11
        rw [ht] at hP1
        have hP : mw (dC, dI) vwCl A (fun q e => TW cy L tr a κ_3 τ q e ∨ oW ob (L 0 0) tp q e) H1 := hP.join (fun _ _ h => h) hk1 hFc hP1 (fun _ _ h => Or.inl h)
        generalize H1 = H at hP hS ⊢
        clear hP1 hk1 hFc
        refine lv_i2l (v := (a 2 (nI i).toNatClampNeg (9 + j)).toInt64) hx hb dX8_digestLinks_150 rfl ?_
        refine lv_ladd hx hb dX8_digestLinks_151 ?_
        refine lv_lstore_n (lv' := [(3, .long (((itL (D_l4 a i) j (((itL (D_l2 a i) ((a 3 (nI i).toNatClampNeg 0).toNatClampNeg) (((((((((itL (D_l a) i (d0)) * 31) + ((if a 2 (nI i).toNatClampNeg 7 = 0 then (0 : Int32) else 1).toInt64)) * 31) + ((a 2 (nI i).toNatClampNeg 5).toInt64)) * 31) + ((a 2 (nI i).toNatClampNeg 8).toInt64)) * 31) + ((a 3 (nI i).toNatClampNeg 0).toInt64))) * 31) + ((L_q a (nI i).toNatClampNeg (a 0 0 0)).toInt64))) * 31) + ((a 2 (nI i).toNatClampNeg (9 + j)).toInt64))), (6, .int (nI j)), (5, .int (nI i)), (0, .ref ob), (1, .long d0)]) hx hb dX8_digestLinks_152 rfl hl (by decide) rfl (fun ls hl => ?_)
        refine lv_iinc (v := nI (j + 1)) (lv' := [(6, .int (nI (j + 1))), (3, .long (((itL (D_l4 a i) j (((itL (D_l2 a i) ((a 3 (nI i).toNatClampNeg 0).toNatClampNeg) (((((((((itL (D_l a) i (d0)) * 31) + ((if a 2 (nI i).toNatClampNeg 7 = 0 then (0 : Int32) else 1).toInt64)) * 31) + ((a 2 (nI i).toNatClampNeg 5).toInt64)) * 31) + ((a 2 (nI i).toNatClampNeg 8).toInt64)) * 31) + ((a 3 (nI i).toNatClampNeg 0).toInt64))) * 31) + ((L_q a (nI i).toNatClampNeg (a 0 0 0)).toInt64))) * 31) + ((a 2 (nI i).toNatClampNeg (9 + j)).toInt64))), (5, .int (nI i)), (0, .ref ob), (1, .long d0)]) hx hb dX8_digestLinks_153 hl (k := 1) rfl (nI_1 j) (by decide) rfl (fun ls hl => ?_)
        refine lv_goto (tgt := 131) hx hb dX8_digestLinks_156 (by decide) ?_
        have e9 : ((itL (D_l4 a i) j (((itL (D_l2 a i) ((a 3 (nI i).toNatClampNeg 0).toNatClampNeg) (((((((((itL (D_l a) i (d0)) * 31) + ((if a 2 (nI i).toNatClampNeg 7 = 0 then (0 : Int32) else 1).toInt64)) * 31) + ((a 2 (nI i).toNatClampNeg 5).toInt64)) * 31) + ((a 2 (nI i).toNatClampNeg 8).toInt64)) * 31) + ((a 3 (nI i).toNatClampNeg 0).toInt64))) * 31) + ((L_q a (nI i).toNatClampNeg (a 0 0 0)).toInt64))) * 31) + ((a 2 (nI i).toNatClampNeg (9 + j)).toInt64) = itL (D_l4 a i) (j + 1) (((itL (D_l2 a i) ((a 3 (nI i).toNatClampNeg 0).toNatClampNeg) (((((((((itL (D_l a) i (d0)) * 31) + ((if a 2 (nI i).toNatClampNeg 7 = 0 then (0 : Int32) else 1).toInt64)) * 31) + ((a 2 (nI i).toNatClampNeg 5).toInt64)) * 31) + ((a 2 (nI i).toNatClampNeg 8).toInt64)) * 31) + ((a 3 (nI i).toNatClampNeg 0).toInt64))) * 31) + ((L_q a (nI i).toNatClampNeg (a 0 0 0)).toInt64)) := by
          rw [itL_s]
          unfold D_l4
          rfl
        rw [e9] at hl
        exact ih_3 κ_3 _ _ ls ⟨hc_3, hP, hS, lv_sub hl [0, 1, 2, 3, 4] rfl⟩
    intro κB hcB ls hl H locs hP hS
    refine lv_iconst (v := 0) hx hb dX8_digestLinks_159 (by decide) ?_
    refine lv_istore (lv' := [(6, .int 0), (3, .long (itL (D_l4 a i) 4 (((itL (D_l2 a i) ((a 3 (nI i).toNatClampNeg 0).toNatClampNeg) (((((((((itL (D_l a) i (d0)) * 31) + ((if a 2 (nI i).toNatClampNeg 7 = 0 then (0 : Int32) else 1).toInt64)) * 31) + ((a 2 (nI i).toNatClampNeg 5).toInt64)) * 31) + ((a 2 (nI i).toNatClampNeg 8).toInt64)) * 31) + ((a 3 (nI i).toNatClampNeg 0).toInt64))) * 31) + ((L_q a (nI i).toNatClampNeg (a 0 0 0)).toInt64)))), (5, .int (nI i)), (0, .ref ob), (1, .long d0)]) hx hb dX8_digestLinks_160 hl (by decide) rfl (fun ls hl => ?_)
    have e0 : itL (D_l4 a i) 4 (((itL (D_l2 a i) ((a 3 (nI i).toNatClampNeg 0).toNatClampNeg) (((((((((itL (D_l a) i (d0)) * 31) + ((if a 2 (nI i).toNatClampNeg 7 = 0 then (0 : Int32) else 1).toInt64)) * 31) + ((a 2 (nI i).toNatClampNeg 5).toInt64)) * 31) + ((a 2 (nI i).toNatClampNeg 8).toInt64)) * 31) + ((a 3 (nI i).toNatClampNeg 0).toInt64))) * 31) + ((L_q a (nI i).toNatClampNeg (a 0 0 0)).toInt64)) = itL (D_l5 a i) 0 (itL (D_l4 a i) 4 (((itL (D_l2 a i) ((a 3 (nI i).toNatClampNeg 0).toNatClampNeg) (((((((((itL (D_l a) i (d0)) * 31) + ((if a 2 (nI i).toNatClampNeg 7 = 0 then (0 : Int32) else 1).toInt64)) * 31) + ((a 2 (nI i).toNatClampNeg 5).toInt64)) * 31) + ((a 2 (nI i).toNatClampNeg 8).toInt64)) * 31) + ((a 3 (nI i).toNatClampNeg 0).toInt64))) * 31) + ((L_q a (nI i).toNatClampNeg (a 0 0 0)).toInt64))) := itL_0.symm
    rw [e0] at hl
    have hN_4 : nL a ≤ 24 := in_le hw.1.1
    refine W.widen (k := (fun _ => (0 + 0 + 0 + 0 + 0 + 0 + 0)) 0) (n := (fun _ => (0 + 0 + 0 + 0 + 0 + 0 + 0)) 0) (Nat.le_refl _) (Nat.le_refl _) ?_
    refine tp_for (σ := Kap) (nL a) (fun _ => (0 + 0 + 0 + 0 + 0 + 0 + 0)) (fun _ => (0 + 0 + 0 + 0 + 0 + 0 + 0)) (fun (j : Nat) (y : Kap) (H : Heap) (locs : List Loc) (ls : Array Slot) => CV a y ∧ mw (dC, dI) vwCl A (fun q e => TW cy L tr a y τ q e ∨ oW ob (L 0 0) tp q e) H ∧ va_S A s.heap H locs ∧ lv_has ls 7 [(6, .int (nI j)), (3, .long (itL (D_l5 a i) j (itL (D_l4 a i) 4 (((itL (D_l2 a i) ((a 3 (nI i).toNatClampNeg 0).toNatClampNeg) (((((((((itL (D_l a) i (d0)) * 31) + ((if a 2 (nI i).toNatClampNeg 7 = 0 then (0 : Int32) else 1).toInt64)) * 31) + ((a 2 (nI i).toNatClampNeg 5).toInt64)) * 31) + ((a 2 (nI i).toNatClampNeg 8).toInt64)) * 31) + ((a 3 (nI i).toNatClampNeg 0).toInt64))) * 31) + ((L_q a (nI i).toNatClampNeg (a 0 0 0)).toInt64))))), (5, .int (nI i)), (0, .ref ob), (1, .long d0)]) ?_ ?_ (nL a) 0 (Nat.zero_add _) κB _ _ ls ⟨hcB, hP, hS, lv_sub hl [0, 1, 2, 3, 4] rfl⟩
    · rintro κ_4 H locs ls ⟨hc_4, hP, hS, hl⟩
      have hl : lv_has ls 7 [(6, .int (nI (nL a))), (3, .long (itL (D_l5 a i) (nL a) (itL (D_l4 a i) 4 (((itL (D_l2 a i) ((a 3 (nI i).toNatClampNeg 0).toNatClampNeg) (((((((((itL (D_l a) i (d0)) * 31) + ((if a 2 (nI i).toNatClampNeg 7 = 0 then (0 : Int32) else 1).toInt64)) * 31) + ((a 2 (nI i).toNatClampNeg 5).toInt64)) * 31) + ((a 2 (nI i).toNatClampNeg 8).toInt64)) * 31) + ((a 3 (nI i).toNatClampNeg 0).toInt64))) * 31) + ((L_q a (nI i).toNatClampNeg (a 0 0 0)).toInt64))))), (5, .int (nI i)), (0, .ref ob), (1, .long d0)] := hl
      have hP : mw (dC, dI) vwCl A (fun q e => TW cy L tr a κ_4 τ q e ∨ oW ob (L 0 0) tp q e) H := hP
      show W _ _ _ _ _ _ _ _ _ _ _ _ (0 + 0 + 0 + 0 + 0 + 0 + 0) (0 + 0 + 0 + 0 + 0 + 0 + 0) _ _
      refine lv_iload hx hb dX8_digestLinks_162 (lv_at hl 0 rfl) ?_
      refine lv_aload_n hx hb dX8_digestLinks_164 rfl (lv_at hl 3 rfl) ?_
      have hFc := m_free (C := (fun q e => TW cy L tr a κ_4 τ q e ∨ oW ob (L 0 0) tp q e)) hP hS hA (fun _ _ h => h)
      refine va_calli (va_runV (As := []) (rest := [.int (nI (nL a))]) ⟨hx, hb, hml, hown, hts⟩ (c_links l dC dI cy L tr a κ_4 τ ob tp H.size hT) (tp_cwV 0 hts tw_508 tw_509 tw_510 tw_20 tw_511 rfl rfl (by decide +kernel) ⟨Nat.le_of_ble_eq_true rfl, Nat.le_of_ble_eq_true rfl⟩) ⟨m_blind, va_recv hK (hP.one (e := .inr (8, [.ref (L 0 0), .ref tp])) (Or.inr oW_mem)) (ci := 8) (q0 := 0) rfl rfl, fun U hU hW => ⟨rfl, m_pay hK hP hE (fun _ _ h => h) U hU hW⟩⟩ rfl rfl hl.1 rfl (lv_room (Nat.le_of_ble_eq_true rfl)) dX8_digestLinks_165 ⟨(Nat.le_of_ble_eq_true rfl), (Nat.le_of_ble_eq_true rfl)⟩) hS (fun q _ h => hFc q h) hFc (fun r_12 u t H1 locs ht hvm hpo hB hz1 hk1 hS => ?_)
      obtain rfl := hpo
      obtain ⟨f_12, hP1⟩ := hB
      subst f_12
      rw [ht] at hP1
      have hP : mw (dC, dI) vwCl A (fun q e => TW cy L tr a κ_4 τ q e ∨ oW ob (L 0 0) tp q e) H1 := hP.join (fun _ _ h => h) hk1 hFc hP1 (fun _ _ h => Or.inl h)
      generalize H1 = H at hP hS ⊢
      clear hP1 hk1 hFc
      refine W.eq (g2 := F0 m 168 ls [.int (nI (nL a)), .int (nI (nL a))]) (by rw [in_nI hw.1.1]) ?_
      refine lv_icmp_ge (tgt := 193) hx hb dX8_digestLinks_168 (by decide) (fun _ => ?_) (fun c_7 => absurd (Int32.le_refl _) c_7)
      refine lv_iinc (v := nI (i + 1)) (lv' := [(5, .int (nI (i + 1))), (6, .int (nI (nL a))), (3, .long (itL (D_l5 a i) (nL a) (itL (D_l4 a i) 4 (((itL (D_l2 a i) ((a 3 (nI i).toNatClampNeg 0).toNatClampNeg) (((((((((itL (D_l a) i (d0)) * 31) + ((if a 2 (nI i).toNatClampNeg 7 = 0 then (0 : Int32) else 1).toInt64)) * 31) + ((a 2 (nI i).toNatClampNeg 5).toInt64)) * 31) + ((a 2 (nI i).toNatClampNeg 8).toInt64)) * 31) + ((a 3 (nI i).toNatClampNeg 0).toInt64))) * 31) + ((L_q a (nI i).toNatClampNeg (a 0 0 0)).toInt64))))), (0, .ref ob), (1, .long d0)]) hx hb dX8_digestLinks_193 hl (k := 2) rfl (nI_1 i) (by decide) rfl (fun ls hl => ?_)
      refine lv_goto (tgt := 5) hx hb dX8_digestLinks_196 (by decide) ?_
      have e9 : itL (D_l5 a i) (nL a) (itL (D_l4 a i) 4 (((itL (D_l2 a i) ((a 3 (nI i).toNatClampNeg 0).toNatClampNeg) (((((((((itL (D_l a) i (d0)) * 31) + ((if a 2 (nI i).toNatClampNeg 7 = 0 then (0 : Int32) else 1).toInt64)) * 31) + ((a 2 (nI i).toNatClampNeg 5).toInt64)) * 31) + ((a 2 (nI i).toNatClampNeg 8).toInt64)) * 31) + ((a 3 (nI i).toNatClampNeg 0).toInt64))) * 31) + ((L_q a (nI i).toNatClampNeg (a 0 0 0)).toInt64))) = itL (D_l a) (i + 1) (d0) := by
        rw [itL_s]
        unfold D_l D_l1 D_l3
        rfl
      rw [e9] at hl
      exact ih_1 κ_4 _ _ ls ⟨hc_4, hP, hS, lv_sub hl [0, 2, 3, 4] rfl⟩
    · rintro j κ_4 H locs ls hi_4 ⟨hc_4, hP, hS, hl⟩ ih_4
      have hl : lv_has ls 7 [(6, .int (nI j)), (3, .long (itL (D_l5 a i) j (itL (D_l4 a i) 4 (((itL (D_l2 a i) ((a 3 (nI i).toNatClampNeg 0).toNatClampNeg) (((((((((itL (D_l a) i (d0)) * 31) + ((if a 2 (nI i).toNatClampNeg 7 = 0 then (0 : Int32) else 1).toInt64)) * 31) + ((a 2 (nI i).toNatClampNeg 5).toInt64)) * 31) + ((a 2 (nI i).toNatClampNeg 8).toInt64)) * 31) + ((a 3 (nI i).toNatClampNeg 0).toInt64))) * 31) + ((L_q a (nI i).toNatClampNeg (a 0 0 0)).toInt64))))), (5, .int (nI i)), (0, .ref ob), (1, .long d0)] := hl
      have hP : mw (dC, dI) vwCl A (fun q e => TW cy L tr a κ_4 τ q e ∨ oW ob (L 0 0) tp q e) H := hP
      show W _ _ _ _ _ _ _ _ _ _ _ _ (0 + 0 + 0 + 0 + 0 + 0 + 0) (0 + 0 + 0 + 0 + 0 + 0 + 0) _ _
      refine lv_iload hx hb dX8_digestLinks_162 (lv_at hl 0 rfl) ?_
      refine lv_aload_n hx hb dX8_digestLinks_164 rfl (lv_at hl 3 rfl) ?_
      have hFc := m_free (C := (fun q e => TW cy L tr a κ_4 τ q e ∨ oW ob (L 0 0) tp q e)) hP hS hA (fun _ _ h => h)
      refine va_calli (va_runV (As := []) (rest := [.int (nI j)]) ⟨hx, hb, hml, hown, hts⟩ (c_links l dC dI cy L tr a κ_4 τ ob tp H.size hT) (tp_cwV 0 hts tw_508 tw_509 tw_510 tw_20 tw_511 rfl rfl (by decide +kernel) ⟨Nat.le_of_ble_eq_true rfl, Nat.le_of_ble_eq_true rfl⟩) ⟨m_blind, va_recv hK (hP.one (e := .inr (8, [.ref (L 0 0), .ref tp])) (Or.inr oW_mem)) (ci := 8) (q0 := 0) rfl rfl, fun U hU hW => ⟨rfl, m_pay hK hP hE (fun _ _ h => h) U hU hW⟩⟩ rfl rfl hl.1 rfl (lv_room (Nat.le_of_ble_eq_true rfl)) dX8_digestLinks_165 ⟨(Nat.le_of_ble_eq_true rfl), (Nat.le_of_ble_eq_true rfl)⟩) hS (fun q _ h => hFc q h) hFc (fun r_13 u t H1 locs ht hvm hpo hB hz1 hk1 hS => ?_)
      obtain rfl := hpo
      obtain ⟨f_13, hP1⟩ := hB
      subst f_13
      rw [ht] at hP1
      have hP : mw (dC, dI) vwCl A (fun q e => TW cy L tr a κ_4 τ q e ∨ oW ob (L 0 0) tp q e) H1 := hP.join (fun _ _ h => h) hk1 hFc hP1 (fun _ _ h => Or.inl h)
      generalize H1 = H at hP hS ⊢
      clear hP1 hk1 hFc
      refine W.eq (g2 := F0 m 168 ls [.int (nI (nL a)), .int (nI j)]) (by rw [in_nI hw.1.1]) ?_
      refine lv_icmp_ge (tgt := 193) hx hb dX8_digestLinks_168 (by decide) (fun c_8 => absurd c_8 (nI_ge hi_4 (by omega))) (fun _ => ?_)
      refine lv_lload_n hx hb dX8_digestLinks_171 rfl (lv_at hl 1 rfl) ?_
      refine lv_ldc2 (v := 31) hx hb hown (hts _ tw_502) dX8_digestLinks_172 ?_
      refine lv_lmul hx hb dX8_digestLinks_175 ?_
      refine lv_aload_n hx hb dX8_digestLinks_176 rfl (lv_at hl 3 rfl) ?_
      refine lv_iload hx hb dX8_digestLinks_177 (lv_at hl 2 rfl) ?_
      refine lv_iload hx hb dX8_digestLinks_179 (lv_at hl 0 rfl) ?_
      have hFc := m_free (C := (fun q e => TW cy L tr a κ_4 τ q e ∨ oW ob (L 0 0) tp q e)) hP hS hA (fun _ _ h => h)
      refine va_calli (va_runV (As := [.int (nI i), .int (nI j)]) (rest := [.long ((itL (D_l5 a i) j (itL (D_l4 a i) 4 (((itL (D_l2 a i) ((a 3 (nI i).toNatClampNeg 0).toNatClampNeg) (((((((((itL (D_l a) i (d0)) * 31) + ((if a 2 (nI i).toNatClampNeg 7 = 0 then (0 : Int32) else 1).toInt64)) * 31) + ((a 2 (nI i).toNatClampNeg 5).toInt64)) * 31) + ((a 2 (nI i).toNatClampNeg 8).toInt64)) * 31) + ((a 3 (nI i).toNatClampNeg 0).toInt64))) * 31) + ((L_q a (nI i).toNatClampNeg (a 0 0 0)).toInt64)))) * 31)]) ⟨hx, hb, hml, hown, hts⟩ (c_turned l dC dI cy L tr a κ_4 τ ob tp M (nI i) (nI j) H.size hT hw (nI_lno hw hi_1) (nI_lno hw hi_4)) (tp_cwV 2 hts tw_557 tw_558 tw_559 tw_20 tw_560 rfl rfl (by decide +kernel) ⟨Nat.le_of_ble_eq_true rfl, Nat.le_of_ble_eq_true rfl⟩) ⟨m_blind, va_recv hK (hP.one (e := .inr (8, [.ref (L 0 0), .ref tp])) (Or.inr oW_mem)) (ci := 8) (q0 := 0) rfl rfl, fun U hU hW => ⟨rfl, m_pay hK hP hE (fun _ _ h => h) U hU hW⟩⟩ rfl rfl hl.1 rfl (lv_room (Nat.le_of_ble_eq_true rfl)) dX8_digestLinks_181 ⟨(Nat.le_of_ble_eq_true rfl), (Nat.le_of_ble_eq_true rfl)⟩) hS (fun q _ h => hFc q h) hFc (fun r_14 u t H1 locs ht hvm hpo hB hz1 hk1 hS => ?_)
      obtain rfl := hpo
      obtain ⟨f_14, hP1⟩ := hB
      subst f_14
      rw [ht] at hP1
      have hP : mw (dC, dI) vwCl A (fun q e => TW cy L tr a κ_4 τ q e ∨ oW ob (L 0 0) tp q e) H1 := hP.join (fun _ _ h => h) hk1 hFc hP1 (fun _ _ h => Or.inl h)
      generalize H1 = H at hP hS ⊢
      clear hP1 hk1 hFc
      refine lv_i2l (v := (a 7 (nI i).toNatClampNeg (nI j).toNatClampNeg).toInt64) hx hb dX8_digestLinks_184 rfl ?_
      refine lv_ladd hx hb dX8_digestLinks_185 ?_
      refine lv_lstore_n (lv' := [(3, .long (((itL (D_l5 a i) j (itL (D_l4 a i) 4 (((itL (D_l2 a i) ((a 3 (nI i).toNatClampNeg 0).toNatClampNeg) (((((((((itL (D_l a) i (d0)) * 31) + ((if a 2 (nI i).toNatClampNeg 7 = 0 then (0 : Int32) else 1).toInt64)) * 31) + ((a 2 (nI i).toNatClampNeg 5).toInt64)) * 31) + ((a 2 (nI i).toNatClampNeg 8).toInt64)) * 31) + ((a 3 (nI i).toNatClampNeg 0).toInt64))) * 31) + ((L_q a (nI i).toNatClampNeg (a 0 0 0)).toInt64)))) * 31) + ((a 7 (nI i).toNatClampNeg (nI j).toNatClampNeg).toInt64))), (6, .int (nI j)), (5, .int (nI i)), (0, .ref ob), (1, .long d0)]) hx hb dX8_digestLinks_186 rfl hl (by decide) rfl (fun ls hl => ?_)
      refine lv_iinc (v := nI (j + 1)) (lv' := [(6, .int (nI (j + 1))), (3, .long (((itL (D_l5 a i) j (itL (D_l4 a i) 4 (((itL (D_l2 a i) ((a 3 (nI i).toNatClampNeg 0).toNatClampNeg) (((((((((itL (D_l a) i (d0)) * 31) + ((if a 2 (nI i).toNatClampNeg 7 = 0 then (0 : Int32) else 1).toInt64)) * 31) + ((a 2 (nI i).toNatClampNeg 5).toInt64)) * 31) + ((a 2 (nI i).toNatClampNeg 8).toInt64)) * 31) + ((a 3 (nI i).toNatClampNeg 0).toInt64))) * 31) + ((L_q a (nI i).toNatClampNeg (a 0 0 0)).toInt64)))) * 31) + ((a 7 (nI i).toNatClampNeg (nI j).toNatClampNeg).toInt64))), (5, .int (nI i)), (0, .ref ob), (1, .long d0)]) hx hb dX8_digestLinks_187 hl (k := 1) rfl (nI_1 j) (by decide) rfl (fun ls hl => ?_)
      refine lv_goto (tgt := 162) hx hb dX8_digestLinks_190 (by decide) ?_
      have e9 : ((itL (D_l5 a i) j (itL (D_l4 a i) 4 (((itL (D_l2 a i) ((a 3 (nI i).toNatClampNeg 0).toNatClampNeg) (((((((((itL (D_l a) i (d0)) * 31) + ((if a 2 (nI i).toNatClampNeg 7 = 0 then (0 : Int32) else 1).toInt64)) * 31) + ((a 2 (nI i).toNatClampNeg 5).toInt64)) * 31) + ((a 2 (nI i).toNatClampNeg 8).toInt64)) * 31) + ((a 3 (nI i).toNatClampNeg 0).toInt64))) * 31) + ((L_q a (nI i).toNatClampNeg (a 0 0 0)).toInt64)))) * 31) + ((a 7 (nI i).toNatClampNeg (nI j).toNatClampNeg).toInt64) = itL (D_l5 a i) (j + 1) (itL (D_l4 a i) 4 (((itL (D_l2 a i) ((a 3 (nI i).toNatClampNeg 0).toNatClampNeg) (((((((((itL (D_l a) i (d0)) * 31) + ((if a 2 (nI i).toNatClampNeg 7 = 0 then (0 : Int32) else 1).toInt64)) * 31) + ((a 2 (nI i).toNatClampNeg 5).toInt64)) * 31) + ((a 2 (nI i).toNatClampNeg 8).toInt64)) * 31) + ((a 3 (nI i).toNatClampNeg 0).toInt64))) * 31) + ((L_q a (nI i).toNatClampNeg (a 0 0 0)).toInt64))) := by
        rw [itL_s]
        unfold D_l5
        rfl
      rw [e9] at hl
      exact ih_4 κ_4 _ _ ls ⟨hc_4, hP, hS, lv_sub hl [0, 1, 2, 3, 4] rfl⟩

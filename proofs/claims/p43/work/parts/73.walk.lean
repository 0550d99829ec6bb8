theorem St0_Wf : Wf (1008 * 0) St0 := (B0_zero (fun _ _ => 0) (fun _ => 0) (fun _ _ => 0) (fun _ => rfl)).2.2.2.2
/-- nobody went over a link yet -/
def B7 : BPr := fun a _ _ _ _ _ _ => (∀ v, a 15 v 7 = 0) ∧ True
theorem Bld.gone {a : St} {nd nl : Nat} {lv : Tb} {pl : Nat → Nat} {nf : Nat} {fv : Tb} (h : Bld a nd nl lv pl nf fv) : ∀ v, a 15 v 7 = 0 := (h B7 (fun _ _ _ _ => ⟨fun v => by simp [St0], trivial⟩)
  (fun a nd lv pl fv h _ => ⟨fun v => by unfold U_node; rw [S2_nf (by decide)]; exact h.1 v, trivial⟩)
  (fun a nd nl lv pl fv f t ti ro ra h _ _ _ _ _ _ _ _ _ _ => ⟨fun v => by unfold G_lay G_lay1; rw [S2_nf (by decide), S2_nf (by decide)]; exact h.1 v, trivial⟩)
  (fun a nd nl lv pl fv n y lea gre h _ _ _ _ _ _ _ => ⟨fun v => by unfold S_app; rw [S2_nf (by decide), S2_nf (by decide), S2_nf (by decide), S2_nf (by decide)]; exact h.1 v, trivial⟩)
  (fun a nd nl lv pl nf fv fr to kd st pe mo h _ _ _ _ _ _ _ _ _ _ => ⟨fun v => by unfold U_flow F_tell; rw [S2_nf (by decide), S2_nf (by decide)]; exact h.1 v, trivial⟩)).1
theorem tr_start {τ : Tau} {s0 : Nat} {a : St} {X : Prop} (h : τ.2.2 = (fun _ => 1, fun _ _ => 0)) (_ : X) (h7 : ∀ v, a 15 v 7 = 0) : TRab (some s0) a τ := by
  intro _
  refine ⟨fun v _ _ => h7 v, ?_⟩
  intro v hv
  have e7 : (a 15 v 7).toNatClampNeg = 0 := by rw [h7 v]; rfl
  have e1 : τ.2.2.1 v = 1 := by rw [h]
  have e2 : ∀ j, τ.2.2.2 v j = 0 := fun j => by rw [h]
  rw [e1]
  show 1 ≤ 1 ∧ 1 ≤ 2 * ((a 15 v 7).toNatClampNeg / 12) + 1 ∧ (a 15 v 7).toNatClampNeg ≤ 12 * 1 ∧ ∀ j, j < 1 → ∃ W : Nat, τ.2.2.2 v j = lN W ∧ W < 32 ^ (min 12 ((a 15 v 7).toNatClampNeg - 12 * j)) ∧ ∀ p, p < 12 → 12 * j + p < (a 15 v 7).toNatClampNeg → W / 32 ^ p % 32 = _
  rw [e7]
  refine ⟨by omega, by omega, by omega, fun j hj => ⟨0, ?_, ?_, fun p _ h9 => absurd h9 (by omega)⟩⟩
  · rw [e2]; rfl
  · rw [Nat.zero_sub, Nat.min_zero]; decide
theorem tw_576 : Cond.classLink RL 9 RX9 ∈ tp_all := tp_mem 576 (by decide +kernel) rfl
theorem tw_580 : Cond.code yX9_init cX9_init 3 none ∈ tp_all := tp_mem 580 (by decide +kernel) rfl
theorem tw_578 : Cond.methodLink RL 11 yX9_init ∈ tp_all := tp_mem 578 (by decide +kernel) rfl
theorem tw_579 : Cond.instanceMethod yX9_init ∈ tp_all := tp_mem 579 (by decide +kernel) rfl
theorem tw_934 : Cond.fieldLink RL 14 "TurnpikeLaw$Roads" "m" "LTurnpike;" ∈ tp_all := tp_mem 934 (by decide +kernel) rfl
theorem tw_1030 : Cond.code yX9_make cX9_make 3 (some .boolean) ∈ tp_all := tp_mem 1030 (by decide +kernel) rfl
theorem tw_1027 : Cond.methodLink RL 18 yX9_make ∈ tp_all := tp_mem 1027 (by decide +kernel) rfl
theorem tw_1028 : Cond.instanceMethod yX9_make ∈ tp_all := tp_mem 1028 (by decide +kernel) rfl
theorem tw_1029 : Cond.selects RX9 yX9_make yX9_make ∈ tp_all := tp_mem 1029 (by decide +kernel) rfl
theorem tw_1070 : Cond.code yX9_addFlow cX9_addFlow 4 (some .boolean) ∈ tp_all := tp_mem 1070 (by decide +kernel) rfl
theorem tw_1067 : Cond.methodLink RL 34 yX9_addFlow ∈ tp_all := tp_mem 1067 (by decide +kernel) rfl
theorem tw_1068 : Cond.instanceMethod yX9_addFlow ∈ tp_all := tp_mem 1068 (by decide +kernel) rfl
theorem tw_1069 : Cond.selects RX9 yX9_addFlow yX9_addFlow ∈ tp_all := tp_mem 1069 (by decide +kernel) rfl
theorem tw_1080 : Cond.code yX9_addPhase cX9_addPhase 6 (some .boolean) ∈ tp_all := tp_mem 1080 (by decide +kernel) rfl
theorem tw_1077 : Cond.methodLink RL 30 yX9_addPhase ∈ tp_all := tp_mem 1077 (by decide +kernel) rfl
theorem tw_1078 : Cond.instanceMethod yX9_addPhase ∈ tp_all := tp_mem 1078 (by decide +kernel) rfl
theorem tw_1079 : Cond.selects RX9 yX9_addPhase yX9_addPhase ∈ tp_all := tp_mem 1079 (by decide +kernel) rfl
theorem dL_law_0 : decode cL_law 0 = .ok (.iconst 0, 1) := by decide +kernel
theorem dL_law_1 : decode cL_law 1 = .ok (.istore_n 1, 1) := by decide +kernel
theorem dL_law_2 : decode cL_law 2 = .ok (.iload_n 1, 1) := by decide +kernel
theorem dL_law_3 : decode cL_law 3 = .ok (.iconst 3, 1) := by decide +kernel
theorem dL_law_4 : decode cL_law 4 = .ok (.if_icmp .ge 926, 3) := by decide +kernel
theorem dL_law_930 : decode cL_law 930 = .ok (.iconst 1, 1) := by decide +kernel
theorem dL_law_7 : decode cL_law 7 = .ok (.new 9, 3) := by decide +kernel
theorem dL_law_10 : decode cL_law 10 = .ok (.dup, 1) := by decide +kernel
theorem dL_law_11 : decode cL_law 11 = .ok (.aload_n 0, 1) := by decide +kernel
theorem dL_law_12 : decode cL_law 12 = .ok (.bipush 31, 2) := by decide +kernel
theorem dL_law_14 : decode cL_law 14 = .ok (.iload_n 1, 1) := by decide +kernel
theorem dL_law_15 : decode cL_law 15 = .ok (.imul, 1) := by decide +kernel
theorem dL_law_16 : decode cL_law 16 = .ok (.bipush 7, 2) := by decide +kernel
theorem dL_law_18 : decode cL_law 18 = .ok (.iadd, 1) := by decide +kernel
theorem dL_law_19 : decode cL_law 19 = .ok (.invokespecial 11, 3) := by decide +kernel
theorem dL_law_22 : decode cL_law 22 = .ok (.astore_n 2, 1) := by decide +kernel
theorem dL_law_23 : decode cL_law 23 = .ok (.aload_n 2, 1) := by decide +kernel
theorem dL_law_24 : decode cL_law 24 = .ok (.getfield 14, 3) := by decide +kernel
theorem dL_law_27 : decode cL_law 27 = .ok (.astore_n 3, 1) := by decide +kernel
theorem dL_law_28 : decode cL_law 28 = .ok (.aload_n 2, 1) := by decide +kernel
theorem dL_law_29 : decode cL_law 29 = .ok (.invokevirtual 18, 3) := by decide +kernel
theorem dL_law_32 : decode cL_law 32 = .ok (.ifCond .ne 5, 3) := by decide +kernel
theorem dL_law_37 : decode cL_law 37 = .ok (.iconst 0, 1) := by decide +kernel
theorem dL_law_38 : decode cL_law 38 = .ok (.istore 4, 2) := by decide +kernel
theorem dL_law_40 : decode cL_law 40 = .ok (.iload 4, 2) := by decide +kernel
theorem dL_law_42 : decode cL_law 42 = .ok (.aload_n 2, 1) := by decide +kernel
theorem dL_law_43 : decode cL_law 43 = .ok (.getfield 22, 3) := by decide +kernel
theorem dL_law_46 : decode cL_law 46 = .ok (.if_icmp .ge 38, 3) := by decide +kernel
theorem dL_law_84 : decode cL_law 84 = .ok (.iconst 2, 1) := by decide +kernel
theorem dL_law_85 : decode cL_law 85 = .ok (.aload_n 2, 1) := by decide +kernel
theorem dL_law_86 : decode cL_law 86 = .ok (.iconst 4, 1) := by decide +kernel
theorem dL_law_87 : decode cL_law 87 = .ok (.invokevirtual 26, 3) := by decide +kernel
theorem dL_law_90 : decode cL_law 90 = .ok (.iadd, 1) := by decide +kernel
theorem dL_law_91 : decode cL_law 91 = .ok (.istore 4, 2) := by decide +kernel
theorem dL_law_93 : decode cL_law 93 = .ok (.iload 4, 2) := by decide +kernel
theorem dL_law_95 : decode cL_law 95 = .ok (.ifCond .le 23, 3) := by decide +kernel
theorem dL_law_118 : decode cL_law 118 = .ok (.iconst 0, 1) := by decide +kernel
theorem dL_law_119 : decode cL_law 119 = .ok (.istore 4, 2) := by decide +kernel
theorem dL_law_121 : decode cL_law 121 = .ok (.iload 4, 2) := by decide +kernel
theorem dL_law_123 : decode cL_law 123 = .ok (.bipush 6, 2) := by decide +kernel
theorem dL_law_125 : decode cL_law 125 = .ok (.if_icmp .ge 799, 3) := by decide +kernel
theorem dL_law_924 : decode cL_law 924 = .ok (.iinc 1 1, 3) := by decide +kernel
theorem dL_law_927 : decode cL_law 927 = .ok (.goto (-925), 3) := by decide +kernel
theorem dL_law_918 : decode cL_law 918 = .ok (.iinc 4 1, 3) := by decide +kernel
theorem dL_law_921 : decode cL_law 921 = .ok (.goto (-800), 3) := by decide +kernel
theorem dL_law_98 : decode cL_law 98 = .ok (.aload_n 2, 1) := by decide +kernel
theorem dL_law_99 : decode cL_law 99 = .ok (.aload_n 2, 1) := by decide +kernel
theorem dL_law_100 : decode cL_law 100 = .ok (.iconst 2, 1) := by decide +kernel
theorem dL_law_101 : decode cL_law 101 = .ok (.invokevirtual 26, 3) := by decide +kernel
theorem dL_law_104 : decode cL_law 104 = .ok (.invokevirtual 34, 3) := by decide +kernel
theorem dL_law_107 : decode cL_law 107 = .ok (.ifCond .ne 5, 3) := by decide +kernel
theorem dL_law_112 : decode cL_law 112 = .ok (.iinc 4 (-1), 3) := by decide +kernel
theorem dL_law_115 : decode cL_law 115 = .ok (.goto (-22), 3) := by decide +kernel
theorem dL_law_49 : decode cL_law 49 = .ok (.aload_n 2, 1) := by decide +kernel
theorem dL_law_50 : decode cL_law 50 = .ok (.iconst 3, 1) := by decide +kernel
theorem dL_law_51 : decode cL_law 51 = .ok (.invokevirtual 26, 3) := by decide +kernel
theorem dL_law_54 : decode cL_law 54 = .ok (.istore 5, 2) := by decide +kernel
theorem dL_law_56 : decode cL_law 56 = .ok (.iload 5, 2) := by decide +kernel
theorem dL_law_58 : decode cL_law 58 = .ok (.ifCond .le 20, 3) := by decide +kernel
theorem dL_law_78 : decode cL_law 78 = .ok (.iinc 4 1, 3) := by decide +kernel
theorem dL_law_81 : decode cL_law 81 = .ok (.goto (-41), 3) := by decide +kernel
theorem dL_law_61 : decode cL_law 61 = .ok (.aload_n 2, 1) := by decide +kernel
theorem dL_law_62 : decode cL_law 62 = .ok (.iload 4, 2) := by decide +kernel
theorem dL_law_64 : decode cL_law 64 = .ok (.invokevirtual 30, 3) := by decide +kernel
theorem dL_law_67 : decode cL_law 67 = .ok (.ifCond .ne 5, 3) := by decide +kernel
theorem dL_law_72 : decode cL_law 72 = .ok (.iinc 5 (-1), 3) := by decide +kernel
theorem dL_law_75 : decode cL_law 75 = .ok (.goto (-19), 3) := by decide +kernel
set_option maxRecDepth 100000 in
set_option maxHeartbeats 8000000 in
/-- the law, from its entry to its end -/
theorem lx_walk {p : Program} {l : Launch} {e : Env} {s : State} {m : MethodId} {below : List Frame} {meth : Method} {c : Code} {A : Nat → Prop} {dC : Nat → ClassId} {dI : Nat → Nat → Nat} {cy : Nat → ClassId} {bs Ls : Nat} {xs : Nat → Int32} {Q : State → Prop} (C1 : lx_At p s m meth c A bs Ls xs dC dI cy) (Inv : IPr) (hNF : NumFace Inv) (H : Heap) (locs : List Loc) (ls : Array Slot) (hP : ms (dC, dI) vwCl A [] H) (hS : va_S A s.heap H locs) (hl : lv_has ls 24 [(0, .ref bs)]) (kk : ∀ (H : Heap) (locs : List Loc) (ls : Array Slot), va_S A s.heap H locs → W p l e room_1 s m #[.ref bs] below meth c H locs 600074 7301550 Q (F0 m 931 ls [.int 1])) : W p l e room_1 s m #[.ref bs] below meth c H locs 0 0 Q (F0 m 0 ls []) := by
  obtain ⟨hx, hb, hr, hml, hown, hts, hX, hbl, hbL, hlocks, hK, hE, hA, hbA⟩ := C1
  have C2 : lx_At p s m meth c A bs Ls xs dC dI cy := ⟨hx, hb, hr, hml, hown, hts, hX, hbl, hbL, hlocks, hK, hE, hA, hbA⟩
  have hl : lv_has ls 24 [(0, .ref bs)] := hl
  refine lv_iconst (v := 0) hx hb dL_law_0 (by decide) ?_
  refine lv_istore_n (lv' := [(1, .int 0), (0, .ref bs)]) hx hb dL_law_1 rfl hl (by decide) rfl (fun ls hl => ?_)
  refine W.widen (k := (fun time => 0 + 6000 * time) 0) (n := (fun time => 0 + 1600000 * time) 0) (Nat.le_refl _) (Nat.le_refl _) ?_
  refine tp_for (σ := Unit) 3 (fun time => 0 + 6000 * time) (fun time => 0 + 1600000 * time) (fun (time : Nat) (_ : Unit) (H : Heap) (locs : List Loc) (ls : Array Slot) => ms (dC, dI) vwCl A [] H ∧ va_S A s.heap H locs ∧ lv_has ls 24 [(1, .int (nI time)), (0, .ref bs)]) ?_ ?_ 3 0 (Nat.zero_add _) () _ _ ls ⟨hP, hS, lv_sub hl [0, 1] rfl⟩
  · rintro _ H locs ls ⟨hP, hS, hl⟩
    have hl : lv_has ls 24 [(1, .int (nI 3)), (0, .ref bs)] := hl
    show W _ _ _ _ _ _ _ _ _ _ _ _ (0 + 6000 * 3) (0 + 1600000 * 3) _ _
    refine lv_iload_n hx hb dL_law_2 rfl (lv_at hl 0 rfl) ?_
    refine lv_iconst (v := 3) hx hb dL_law_3 (by decide) ?_
    refine lv_icmp_ge (tgt := 930) hx hb dL_law_4 (by decide) (fun _ => ?_) (fun c_1 => absurd (Int32.le_refl _) c_1)
    refine lv_iconst (v := 1) hx hb dL_law_930 (by decide) ?_
    refine W.widen (k := 600074) (n := 7301550) (by show 0 + 6000 * 3 ≤ 600074; omega) (by show 0 + 1600000 * 3 ≤ 7301550; omega) ?_
    exact kk _ _ ls hS
  · rintro time _ H locs ls htime ⟨hP, hS, hl⟩ ihtime
    have hl : lv_has ls 24 [(1, .int (nI time)), (0, .ref bs)] := hl
    show W _ _ _ _ _ _ _ _ _ _ _ _ (0 + 6000 * time) (0 + 1600000 * time) _ _
    refine lv_iload_n hx hb dL_law_2 rfl (lv_at hl 0 rfl) ?_
    refine lv_iconst (v := 3) hx hb dL_law_3 (by decide) ?_
    refine lv_icmp_ge (tgt := 930) hx hb dL_law_4 (by decide) (fun c_2 => absurd c_2 (nI_ge (b := 3) htime (by omega))) (fun _ => ?_)
    obtain ⟨ws9, hPw, hDw, -, hbk⟩ := hP.push
    have h8 : tp_dv 25 tyX9 [.null, .null, .int 0, .int 0, .int 0, .int 0, .int 0, .null, .null, .null, .null, .null, .null, .null, .null, .null, .int 0, .null, .int 0, .null, .null, .null, .null, .null, .null] = true := by decide +kernel
    refine va_new (ci := 9) (fs := [.null, .null, .int 0, .int 0, .int 0, .int 0, .int 0, .null, .null, .null, .null, .null, .null, .null, .null, .null, .int 0, .null, .int 0, .null, .null, .null, .null, .null, .null]) (C := RX9) (T := TX9) (N := 25) hx hb hts tl_X9 tyX9 tyX9_ok hown (hts _ tw_576) (hts _ tw_577) (hts _ tw_19) hK hPw hDw hS hA rfl (fun j hj => tp_dv_ok h8 j hj) (by show 0 + 6000 * time + 1 ≤ 600074; omega) (by show 0 + 1600000 * time + 25 ≤ 7301550; omega) dL_law_7 (fun gp H hPw hDw hS => ?_)
    have hP : ms (dC, dI) vwCl A [cel gp (.inr (9, [.null, .null, .int 0, .int 0, .int 0, .int 0, .int 0, .null, .null, .null, .null, .null, .null, .null, .null, .null, .int 0, .null, .int 0, .null, .null, .null, .null, .null, .null]))] H := hbk _ _ _ hPw hDw
    clear hbk hPw hDw h8
    refine lv_dup hx hb dL_law_10 rfl ?_
    refine lv_aload_n hx hb dL_law_11 rfl (lv_at hl 1 rfl) ?_
    refine lv_bipush (v := 31) hx hb dL_law_12 (by decide) ?_
    refine lv_iload_n hx hb dL_law_14 rfl (lv_at hl 0 rfl) ?_
    refine lv_imul hx hb dL_law_15 ?_
    refine W.eq (g2 := F0 m 16 ls [.int (nI (31 * time)), .ref bs, .ref gp, .ref gp]) (by rw [show (31 : Int32) = nI 31 from rfl, pk_mul]) ?_
    refine lv_bipush (v := 7) hx hb dL_law_16 (by decide) ?_
    refine lv_iadd hx hb dL_law_18 ?_
    refine W.eq (g2 := F0 m 19 ls [.int (nI (31 * time + 7)), .ref bs, .ref gp, .ref gp]) (by rw [show (7 : Int32) = nI 7 from rfl, nI_add]) ?_
    obtain ⟨d0, ed0⟩ : ∃ y : Nat, y = 31 * time + 7 := ⟨_, rfl⟩
    rw [← ed0]
    have hPc : ms (dC, dI) vwCl A ([cel gp (.inr (9, [.null, .null, .int 0, .int 0, .int 0, .int 0, .int 0, .null, .null, .null, .null, .null, .null, .null, .null, .null, .int 0, .null, .int 0, .null, .null, .null, .null, .null, .null]))] ++ []) H := hP.sel [0] rfl (by decide)
    have hFc := g_free hPc hS hA
    refine va_callv (va_runI (As := [.ref bs, .int (nI d0)]) (rest := [.ref gp]) ⟨hx, hb, hml, hown, hts⟩ (c_law_init l dC dI cy bs Ls xs gp d0 H.size) (tp_cwI 2 hts tw_578 tw_579 tw_19 tw_580 rfl rfl rfl (by decide +kernel) ⟨Nat.le_of_ble_eq_true rfl, Nat.le_of_ble_eq_true rfl⟩) ⟨g_blind, fun U hU hW => ⟨rfl, g_pay hK hPc hE hX hbl hbL hbA hS U hU hW⟩⟩ rfl rfl hl.1 rfl (lv_room (Nat.le_of_ble_eq_true rfl)) dL_law_19 ⟨(by show 0 + 6000 * time + 1 + 2209 ≤ 600074; omega), (by show 0 + 1600000 * time + 25 + 23298 ≤ 7301550; omega)⟩) hS (fun q _ h => hFc q h) hFc (fun u t H1 locs ht hvm hpo hB hz1 hk1 hS => ?_)
    obtain ⟨z_4, z_5, z_6, z_7, z_8, z_9, z_10, z_11, z_12, z_13, z_14, f_15, f_16, f_17, f_18, hP1⟩ := hB
    rw [ht] at hP1
    have hPj := hPc.calls hk1 hFc hP1
    have hP : ms (dC, dI) vwCl A [(fun q e => TW cy z_7 (some z_5) St0 K0 z_8 q e ∨ oW z_4 (z_7 0 0) (z_6 0 0) q e), cel gp (gO z_4 bs z_9 d0 0 0 0), rwW cy 24 5 (z_9 0) ((fun _ => 0)) ((fun _ _ => 0)) 0, cel (z_9 1) (.inl (cy 0, 24, .inl (z_11))), cel (z_9 2) (.inl (cy 0, 24, .inl (z_12))), cel (z_9 3) (.inl (cy 0, 24, .inl (z_13))), cel (z_9 14) (.inl (cy 0, 12, .inl (z_14))), rwW cy 10 6 (z_9 9) ((fun _ => 0)) ((fun _ _ => 0)) 0, cel (z_9 13) (arQ (cy 10) 12 (fun n => some (z_10 n))), prW cy z_10 ((fun _ => 0)) ((fun _ _ => 0)), peW cy ((fun _ => 0)) ((fun _ _ => 0)) ((fun _ _ _ => 0)), (TW cy z_6 none St0 K0 TZ)] H1 := hPj.sel [0, 1, 2, 3, 4, 5, 6, 7, 8, 9, 10, 11] rfl (by decide)
    clear hPj hPc hP1 hk1 hFc
    generalize H1 = H at hP hS ⊢
    have hP : ms (dC, dI) vwCl A [(fun q e => TW cy z_7 (some z_5) St0 (((0 : Int32), (fun _ _ => 0))) z_8 q e ∨ oW z_4 (z_7 0 0) (z_6 0 0) q e), cel gp (gO z_4 bs z_9 d0 0 0 0), rwW cy 24 5 (z_9 0) ((fun _ => 0)) ((fun _ _ => 0)) 0, cel (z_9 1) (.inl (cy 0, 24, .inl (z_11))), cel (z_9 2) (.inl (cy 0, 24, .inl (z_12))), cel (z_9 3) (.inl (cy 0, 24, .inl (z_13))), cel (z_9 14) (.inl (cy 0, 12, .inl (z_14))), rwW cy 10 6 (z_9 9) ((fun _ => 0)) ((fun _ _ => 0)) 0, cel (z_9 13) (arQ (cy 10) 12 (fun n => some (z_10 n))), prW cy z_10 ((fun _ => 0)) ((fun _ _ => 0)), peW cy ((fun _ => 0)) ((fun _ _ => 0)) ((fun _ _ _ => 0)), (TW cy z_6 none St0 K0 TZ)] H := hP
    refine lv_astore_n (lv' := [(2, .ref gp), (1, .int (nI time)), (0, .ref bs)]) hx hb dL_law_22 rfl hl (by decide) rfl (fun ls hl => ?_)
    refine lv_aload_n hx hb dL_law_23 rfl (lv_at hl 0 rfl) ?_
    refine va_get (D := (dC, dI)) (ws := [(gp, .inr (9, [.ref z_4, .ref bs, .int (nI d0), .int (nI 0), .int 0, .int 1, .int (nI 0), .ref (z_9 0), .ref (z_9 1), .ref (z_9 2), .ref (z_9 3), .ref (z_9 4), .ref (z_9 5), .ref (z_9 6), .ref (z_9 7), .ref (z_9 8), .int (nI 0), .ref (z_9 9), .int 0, .ref (z_9 10), .ref (z_9 11), .ref (z_9 12), .ref (z_9 13), .ref (z_9 14), .ref (z_9 15)]))]) (ci := 9) (v := .ref z_4) (C := RX9) (T := TX9) (N := 25) hx hb hts tl_X9 hown hK (hP.one 1 rfl cel_in) 0 rfl rfl 0 (by decide) (hts _ tw_934) (fun _ h9 => h9) rfl dL_law_24 ?_
    refine lv_astore_n (lv' := [(3, .ref z_4), (2, .ref gp), (1, .int (nI time)), (0, .ref bs)]) hx hb dL_law_27 rfl hl (by decide) rfl (fun ls hl => ?_)
    refine lv_aload_n hx hb dL_law_28 rfl (lv_at hl 1 rfl) ?_
    have hPc : ms (dC, dI) vwCl A ([(fun q e => TW cy z_7 (some z_5) St0 (((0 : Int32), (fun _ _ => 0))) z_8 q e ∨ oW z_4 (z_7 0 0) (z_6 0 0) q e), cel gp (gO z_4 bs z_9 d0 0 0 0), rwW cy 24 5 (z_9 0) ((fun _ => 0)) ((fun _ _ => 0)) 0, cel (z_9 1) (.inl (cy 0, 24, .inl (z_11))), cel (z_9 2) (.inl (cy 0, 24, .inl (z_12))), cel (z_9 3) (.inl (cy 0, 24, .inl (z_13))), cel (z_9 14) (.inl (cy 0, 12, .inl (z_14)))] ++ [rwW cy 10 6 (z_9 9) ((fun _ => 0)) ((fun _ _ => 0)) 0, cel (z_9 13) (arQ (cy 10) 12 (fun n => some (z_10 n))), prW cy z_10 ((fun _ => 0)) ((fun _ _ => 0)), peW cy ((fun _ => 0)) ((fun _ _ => 0)) ((fun _ _ _ => 0)), (TW cy z_6 none St0 K0 TZ)]) H := hP.sel [0, 1, 2, 3, 4, 5, 6, 7, 8, 9, 10, 11] rfl (by decide)
    have hFc := g_free hPc hS hA
    refine va_calli (va_runV (As := []) (rest := []) ⟨hx, hb, hml, hown, hts⟩ (c_law_make l dC dI cy bs Ls xs gp z_4 z_9 d0 z_7 z_5 ((z_6 0 0)) St0 ((fun _ _ => 0)) z_8 ((fun _ => 0)) ((fun _ _ => 0)) ((fun _ => 0)) ((fun _ _ => 0)) z_11 z_12 z_13 z_14 H.size f_15 (fun _ => rfl) (by omega)) (tp_cwV 0 hts tw_1027 tw_1028 tw_1029 tw_19 tw_1030 rfl rfl (by decide +kernel) ⟨Nat.le_of_ble_eq_true rfl, Nat.le_of_ble_eq_true rfl⟩) ⟨g_blind, va_recv hK (hP.one (e := .inr (9, [.ref z_4, .ref bs, .int (nI d0), .int (nI 0), .int 0, .int 1, .int (nI 0), .ref (z_9 0), .ref (z_9 1), .ref (z_9 2), .ref (z_9 3), .ref (z_9 4), .ref (z_9 5), .ref (z_9 6), .ref (z_9 7), .ref (z_9 8), .int (nI 0), .ref (z_9 9), .int 0, .ref (z_9 10), .ref (z_9 11), .ref (z_9 12), .ref (z_9 13), .ref (z_9 14), .ref (z_9 15)])) 1 rfl cel_in) (ci := 9) (q0 := 0) rfl rfl, fun U hU hW => ⟨rfl, g_pay hK hPc hE hX hbl hbL hbA hS U hU hW⟩⟩ rfl rfl hl.1 rfl (lv_room (Nat.le_of_ble_eq_true rfl)) dL_law_29 ⟨(by show 0 + 6000 * time + 1 + 2209 + 12 ≤ 600074; omega), (by show 0 + 1600000 * time + 25 + 23298 + 60 ≤ 7301550; omega)⟩) hS (fun q _ h => hFc q h) hFc (fun r_19 u t H1 locs ht hvm hpo hB hz1 hk1 hS => ?_)
    obtain rfl := hpo
    obtain ⟨z_20, z_21, z_22, z_23, z_24, z_25, z_26, z_27, z_28, z_29, f_30, f_31, f_32, f_33, f_34, hP1⟩ := hB
    subst f_30
    rw [ht] at hP1
    have hPj := hPc.calls hk1 hFc hP1
    have hP : ms (dC, dI) vwCl A [(fun q e => TW cy z_7 (some z_5) z_20 (((0 : Int32), (fun _ _ => 0))) z_8 q e ∨ oW z_4 (z_7 0 0) (z_6 0 0) q e), cel gp (gO z_4 bs z_9 z_23 z_21 z_22 0), rwW cy 24 5 (z_9 0) z_24 z_25 z_22, cel (z_9 1) (.inl (cy 0, 24, .inl (z_26))), cel (z_9 2) (.inl (cy 0, 24, .inl (z_27))), cel (z_9 3) (.inl (cy 0, 24, .inl (z_28))), cel (z_9 14) (.inl (cy 0, 12, .inl (z_29))), rwW cy 10 6 (z_9 9) ((fun _ => 0)) ((fun _ _ => 0)) 0, cel (z_9 13) (arQ (cy 10) 12 (fun n => some (z_10 n))), prW cy z_10 ((fun _ => 0)) ((fun _ _ => 0)), peW cy ((fun _ => 0)) ((fun _ _ => 0)) ((fun _ _ _ => 0)), (TW cy z_6 none St0 K0 TZ)] H1 := hPj.sel [0, 1, 2, 3, 4, 5, 6, 7, 8, 9, 10, 11] rfl (by decide)
    clear hPj hPc hP1 hk1 hFc
    generalize H1 = H at hP hS ⊢
    obtain ⟨e3, e6⟩ := f_32
    obtain ⟨e7, e12⟩ := f_33
    refine lv_if_ne (tgt := 37) hx hb dL_law_32 (by decide) (fun _ => ?_) (fun c_35 => absurd c_35 (by decide))
    have hP : ms (dC, dI) vwCl A [(fun q e => TW cy z_7 (some z_5) z_20 (((0 : Int32), (fun _ _ => 0))) z_8 q e ∨ oW z_4 (z_7 0 0) (z_6 0 0) q e), cel gp (gO z_4 bs z_9 z_23 z_21 z_22 0), rwW cy 24 5 (z_9 0) z_24 z_25 z_22, cel (z_9 13) (arQ (cy 10) 12 (fun n => some (z_10 n))), prW cy z_10 ((fun _ => 0)) ((fun _ _ => 0)), peW cy ((fun _ => 0)) ((fun _ _ => 0)) ((fun _ _ _ => 0)), rwW cy 10 6 (z_9 9) ((fun _ => 0)) ((fun _ _ => 0)) 0, (TW cy z_6 none St0 K0 TZ)] H := hP.sel [0, 1, 2, 8, 9, 10, 7, 11] rfl (by decide)
    refine lv_iconst (v := 0) hx hb dL_law_37 (by decide) ?_
    refine lv_istore (lv' := [(4, .int 0), (3, .ref z_4), (2, .ref gp), (1, .int (nI time)), (0, .ref bs)]) hx hb dL_law_38 hl (by decide) rfl (fun ls hl => ?_)
    refine W.widen (k := (fun i => 0 + 6000 * time + 1 + 2209 + 12 + 4 * i) 0) (n := (fun i => 0 + 1600000 * time + 25 + 23298 + 60 + 14 * i) 0) (Nat.le_refl _) (Nat.le_refl _) ?_
    refine tp_for (σ := Unit) z_21 (fun i => 0 + 6000 * time + 1 + 2209 + 12 + 4 * i) (fun i => 0 + 1600000 * time + 25 + 23298 + 60 + 14 * i) (fun (i : Nat) (_ : Unit) (H : Heap) (locs : List Loc) (ls : Array Slot) => ∃ (a5 : St), ∃ (d5 : Nat), ∃ (pl5 : Nat → Nat), ∃ (pr5 : Nat → Nat), ∃ (pe5 : Nat → Nat → Nat), ∃ (px5 : Nat → Nat → Nat → Int32), (Bld a5 z_21 z_22 z_25 pl5 0 (fun _ _ => 0)) ∧ (∀ q, i ≤ q → pl5 q = 0) ∧ (d5 ≤ d0 + 100 + 130 * i) ∧ ms (dC, dI) vwCl A [(fun q e => TW cy z_7 (some z_5) a5 (((0 : Int32), (fun _ _ => 0))) z_8 q e ∨ oW z_4 (z_7 0 0) (z_6 0 0) q e), cel gp (gO z_4 bs z_9 d5 z_21 z_22 0), rwW cy 24 5 (z_9 0) z_24 z_25 z_22, cel (z_9 13) (arQ (cy 10) 12 (fun n => some (pr5 n))), prW cy pr5 pl5 pe5, peW cy pl5 pe5 px5, rwW cy 10 6 (z_9 9) ((fun _ => 0)) ((fun _ _ => 0)) 0, (TW cy z_6 none St0 K0 TZ)] H ∧ va_S A s.heap H locs ∧ lv_has ls 24 [(4, .int (nI i)), (3, .ref z_4), (2, .ref gp), (1, .int (nI time)), (0, .ref bs)]) ?_ ?_ z_21 0 (Nat.zero_add _) () _ _ ls ⟨z_20, z_23, (fun _ => 0), z_10, (fun _ _ => 0), (fun _ _ _ => 0), f_31, (fun _ _ => rfl), (by omega), hP, hS, lv_sub hl [0, 1, 2, 3, 4] rfl⟩
    · rintro _ H locs ls ⟨a5, d5, pl5, pr5, pe5, px5, ki0, ki1, ki2, hP, hS, hl⟩
      have hl : lv_has ls 24 [(4, .int (nI z_21)), (3, .ref z_4), (2, .ref gp), (1, .int (nI time)), (0, .ref bs)] := hl
      show W _ _ _ _ _ _ _ _ _ _ _ _ (0 + 6000 * time + 1 + 2209 + 12 + 4 * z_21) (0 + 1600000 * time + 25 + 23298 + 60 + 14 * z_21) _ _
      refine lv_iload hx hb dL_law_40 (lv_at hl 0 rfl) ?_
      refine lv_aload_n hx hb dL_law_42 rfl (lv_at hl 2 rfl) ?_
      refine va_get (D := (dC, dI)) (ws := [(gp, .inr (9, [.ref z_4, .ref bs, .int (nI d5), .int (nI z_21), .int 0, .int 1, .int (nI z_22), .ref (z_9 0), .ref (z_9 1), .ref (z_9 2), .ref (z_9 3), .ref (z_9 4), .ref (z_9 5), .ref (z_9 6), .ref (z_9 7), .ref (z_9 8), .int (nI 0), .ref (z_9 9), .int 0, .ref (z_9 10), .ref (z_9 11), .ref (z_9 12), .ref (z_9 13), .ref (z_9 14), .ref (z_9 15)]))]) (ci := 9) (v := .int (nI z_21)) (C := RX9) (T := TX9) (N := 25) hx hb hts tl_X9 hown hK (hP.one 1 rfl cel_in) 0 rfl rfl 3 (by decide) (hts _ tw_937) (fun _ h9 => h9) rfl dL_law_43 ?_
      refine lv_icmp_ge (tgt := 84) hx hb dL_law_46 (by decide) (fun _ => ?_) (fun c_36 => absurd (Int32.le_refl _) c_36)
      refine lv_iconst (v := 2) hx hb dL_law_84 (by decide) ?_
      refine lv_aload_n hx hb dL_law_85 rfl (lv_at hl 2 rfl) ?_
      refine lv_iconst (v := 4) hx hb dL_law_86 (by decide) ?_
      have hPc : ms (dC, dI) vwCl A ([cel gp (gO z_4 bs z_9 d5 z_21 z_22 0)] ++ [(fun q e => TW cy z_7 (some z_5) a5 (((0 : Int32), (fun _ _ => 0))) z_8 q e ∨ oW z_4 (z_7 0 0) (z_6 0 0) q e), rwW cy 24 5 (z_9 0) z_24 z_25 z_22, cel (z_9 13) (arQ (cy 10) 12 (fun n => some (pr5 n))), prW cy pr5 pl5 pe5, peW cy pl5 pe5 px5, rwW cy 10 6 (z_9 9) ((fun _ => 0)) ((fun _ _ => 0)) 0, (TW cy z_6 none St0 K0 TZ)]) H := hP.sel [1, 0, 2, 3, 4, 5, 6, 7] rfl (by decide)
      have hFc := g_free hPc hS hA
      refine va_calli (va_runV (As := [.int 4]) (rest := [.int 2]) ⟨hx, hb, hml, hown, hts⟩ (c_draw l dC dI cy bs Ls xs gp z_4 z_9 d5 z_21 z_22 0 4 H.size (by first | assumption | omega) (by first | assumption | omega) (by first | assumption | omega)) (tp_cwV 1 hts tw_1015 tw_1016 tw_1017 tw_19 tw_1018 rfl rfl (by decide +kernel) ⟨Nat.le_of_ble_eq_true rfl, Nat.le_of_ble_eq_true rfl⟩) ⟨g_blind, va_recv hK (hP.one (e := .inr (9, [.ref z_4, .ref bs, .int (nI d5), .int (nI z_21), .int 0, .int 1, .int (nI z_22), .ref (z_9 0), .ref (z_9 1), .ref (z_9 2), .ref (z_9 3), .ref (z_9 4), .ref (z_9 5), .ref (z_9 6), .ref (z_9 7), .ref (z_9 8), .int (nI 0), .ref (z_9 9), .int 0, .ref (z_9 10), .ref (z_9 11), .ref (z_9 12), .ref (z_9 13), .ref (z_9 14), .ref (z_9 15)])) 1 rfl cel_in) (ci := 9) (q0 := 0) rfl rfl, fun U hU hW => ⟨rfl, g_pay hK hPc hE hX hbl hbL hbA hS U hU hW⟩⟩ rfl rfl hl.1 rfl (lv_room (Nat.le_of_ble_eq_true rfl)) dL_law_87 ⟨(by show 0 + 6000 * time + 1 + 2209 + 12 + 4 * z_21 + 0 ≤ 600074; omega), (by show 0 + 1600000 * time + 25 + 23298 + 60 + 14 * z_21 + 0 ≤ 7301550; omega)⟩) hS (fun q _ h => hFc q h) hFc (fun r_37 u t H1 locs ht hvm hpo hB hz1 hk1 hS => ?_)
      obtain rfl := hpo
      obtain ⟨z_38, f_39, f_40, hP1⟩ := hB
      rw [ht] at hP1
      have hPj := hPc.calls hk1 hFc hP1
      have hP : ms (dC, dI) vwCl A [(fun q e => TW cy z_7 (some z_5) a5 (((0 : Int32), (fun _ _ => 0))) z_8 q e ∨ oW z_4 (z_7 0 0) (z_6 0 0) q e), cel gp (gO z_4 bs z_9 (d5 + 1) z_21 z_22 0), rwW cy 24 5 (z_9 0) z_24 z_25 z_22, cel (z_9 13) (arQ (cy 10) 12 (fun n => some (pr5 n))), prW cy pr5 pl5 pe5, peW cy pl5 pe5 px5, rwW cy 10 6 (z_9 9) ((fun _ => 0)) ((fun _ _ => 0)) 0, (TW cy z_6 none St0 K0 TZ)] H1 := hPj.sel [1, 0, 2, 3, 4, 5, 6, 7] rfl (by decide)
      clear hPj hPc hP1 hk1 hFc
      generalize H1 = H at hP hS ⊢
      subst f_40
      have qQ := f_39
      refine lv_iadd hx hb dL_law_90 ?_
      obtain ⟨Kf, eKf⟩ : ∃ y : Nat, y = 2 + z_38 := ⟨_, rfl⟩
      refine W.eq (g2 := F0 m 91 ls [.int (nI Kf)]) (by rw [eKf, show (2 : Int32) = nI 2 from rfl, nI_add]) ?_
      refine lv_istore (lv' := [(4, .int (nI Kf)), (3, .ref z_4), (2, .ref gp), (1, .int (nI time)), (0, .ref bs)]) hx hb dL_law_91 hl (by decide) rfl (fun ls hl => ?_)
      have hP : ms (dC, dI) vwCl A [(fun q e => TW cy z_7 (some z_5) a5 (((0 : Int32), (fun _ _ => 0))) z_8 q e ∨ oW z_4 (z_7 0 0) (z_6 0 0) q e), cel gp (gO z_4 bs z_9 (d5 + 1) z_21 z_22 0), rwW cy 24 5 (z_9 0) z_24 z_25 z_22, rwW cy 10 6 (z_9 9) ((fun _ => 0)) ((fun _ _ => 0)) 0, (TW cy z_6 none St0 K0 TZ)] H := hP.sel [0, 1, 2, 6, 7] rfl (by decide)
      refine W.widen (k := (fun i => 0 + 6000 * time + 1 + 2209 + 12 + 4 * z_21 + 0 + 1 * i) 0) (n := (fun i => 0 + 1600000 * time + 25 + 23298 + 60 + 14 * z_21 + 0 + 6 * i) 0) (Nat.le_refl _) (Nat.le_refl _) ?_
      refine tp_for (σ := Unit) Kf (fun i => 0 + 6000 * time + 1 + 2209 + 12 + 4 * z_21 + 0 + 1 * i) (fun i => 0 + 1600000 * time + 25 + 23298 + 60 + 14 * z_21 + 0 + 6 * i) (fun (i : Nat) (_ : Unit) (H : Heap) (locs : List Loc) (ls : Array Slot) => ∃ (a7 : St), ∃ (d7 : Nat), ∃ (fr7 : Nat → Nat), ∃ (fv7 : Tb), (Bld a7 z_21 z_22 z_25 pl5 i fv7) ∧ (d7 ≤ d0 + 1000 + 6 * i) ∧ ms (dC, dI) vwCl A [(fun q e => TW cy z_7 (some z_5) a7 (((0 : Int32), (fun _ _ => 0))) z_8 q e ∨ oW z_4 (z_7 0 0) (z_6 0 0) q e), cel gp (gO z_4 bs z_9 d7 z_21 z_22 i), rwW cy 24 5 (z_9 0) z_24 z_25 z_22, rwW cy 10 6 (z_9 9) fr7 fv7 i, (TW cy z_6 none St0 K0 TZ)] H ∧ va_S A s.heap H locs ∧ lv_has ls 24 [(4, .int (nI (Kf - i))), (3, .ref z_4), (2, .ref gp), (1, .int (nI time)), (0, .ref bs)]) ?_ ?_ Kf 0 (Nat.zero_add _) () _ _ ls ⟨a5, (d5 + 1), (fun _ => 0), (fun _ _ => 0), ki0, (by omega), hP, hS, lv_sub hl [0, 1, 2, 3, 4] rfl⟩
      · rintro _ H locs ls ⟨a7, d7, fr7, fv7, ki0, ki1, hP, hS, hl⟩
        have hl : lv_has ls 24 [(4, .int (nI (Kf - Kf))), (3, .ref z_4), (2, .ref gp), (1, .int (nI time)), (0, .ref bs)] := hl
        show W _ _ _ _ _ _ _ _ _ _ _ _ (0 + 6000 * time + 1 + 2209 + 12 + 4 * z_21 + 0 + 1 * Kf) (0 + 1600000 * time + 25 + 23298 + 60 + 14 * z_21 + 0 + 6 * Kf) _ _
        refine lv_iload hx hb dL_law_93 (lv_at hl 0 rfl) ?_
        refine lv_if_le (tgt := 118) hx hb dL_law_95 (by decide) (fun _ => ?_) (fun c_41 => absurd (by rw [Nat.sub_self]; decide) c_41)
        refine lv_iconst (v := 0) hx hb dL_law_118 (by decide) ?_
        refine lv_istore (lv' := [(4, .int 0), (3, .ref z_4), (2, .ref gp), (1, .int (nI time)), (0, .ref bs)]) hx hb dL_law_119 hl (by decide) rfl (fun ls hl => ?_)
        have hG0 : SG Inv z_21 z_22 Kf z_25 fv7 0 (504 * 0) z_7 z_5 a7 ((0 : Int32), (fun _ _ => 0)) z_8 := ⟨f_15, ki0.b0.2.2.2.2, CV.none, tr_start f_16 ki0.b0.1 (ki0.gone), hNF.1 _ _ _ _ _ _ _ (by omega) ki0⟩
        refine W.widen (k := (fun i => 0 + 6000 * time + 1 + 2209 + 12 + 4 * z_21 + 0 + 1 * Kf + 505 * i) 0) (n := (fun i => 0 + 1600000 * time + 25 + 23298 + 60 + 14 * z_21 + 0 + 6 * Kf + 260572 * i) 0) (Nat.le_refl _) (Nat.le_refl _) ?_
        refine tp_for (σ := Unit) 6 (fun i => 0 + 6000 * time + 1 + 2209 + 12 + 4 * z_21 + 0 + 1 * Kf + 505 * i) (fun i => 0 + 1600000 * time + 25 + 23298 + 60 + 14 * z_21 + 0 + 6 * Kf + 260572 * i) (fun (i : Nat) (_ : Unit) (H : Heap) (locs : List Loc) (ls : Array Slot) => ∃ (ck8 : Nat), ∃ (d8 : Nat), ∃ (a8 : St), ∃ (κ8 : Kap), ∃ (τ8 : Tau), ∃ (b8 : St), ∃ (κt8 : Kap), ∃ (τt8 : Tau), (ck8 ≤ 6 * i) ∧ (d8 ≤ d0 + 2000 + 7 * i) ∧ (SG Inv z_21 z_22 Kf z_25 fv7 ck8 (504 * i) z_7 z_5 a8 κ8 τ8) ∧ (Wf (1008 * i) b8) ∧ (TL z_6 none τt8) ∧ ms (dC, dI) vwCl A [(fun q e => TW cy z_7 (some z_5) a8 κ8 τ8 q e ∨ oW z_4 (z_7 0 0) (z_6 0 0) q e), cel gp (gO z_4 bs z_9 d8 z_21 z_22 Kf), rwW cy 24 5 (z_9 0) z_24 z_25 z_22, rwW cy 10 6 (z_9 9) fr7 fv7 Kf, (TW cy z_6 none b8 κt8 τt8)] H ∧ va_S A s.heap H locs ∧ lv_has ls 24 [(4, .int (nI i)), (3, .ref z_4), (2, .ref gp), (1, .int (nI time)), (0, .ref bs)]) ?_ ?_ 6 0 (Nat.zero_add _) () _ _ ls ⟨0, d7, a7, (((0 : Int32), (fun _ _ => 0))), z_8, St0, K0, TZ, (by omega), (by omega), hG0, St0_Wf, f_17, hP, hS, lv_sub hl [0, 1, 2, 3, 4] rfl⟩
        · rintro _ H locs ls ⟨ck8, d8, a8, κ8, τ8, b8, κt8, τt8, ki0, ki1, ki2, ki3, ki4, hP, hS, hl⟩
          have hl : lv_has ls 24 [(4, .int (nI 6)), (3, .ref z_4), (2, .ref gp), (1, .int (nI time)), (0, .ref bs)] := hl
          show W _ _ _ _ _ _ _ _ _ _ _ _ (0 + 6000 * time + 1 + 2209 + 12 + 4 * z_21 + 0 + 1 * Kf + 505 * 6) (0 + 1600000 * time + 25 + 23298 + 60 + 14 * z_21 + 0 + 6 * Kf + 260572 * 6) _ _
          have hP : ms (dC, dI) vwCl A [] H := hP.sel [] rfl (by decide)
          refine lv_iload hx hb dL_law_121 (lv_at hl 0 rfl) ?_
          refine lv_bipush (v := 6) hx hb dL_law_123 (by decide) ?_
          refine lv_icmp_ge (tgt := 924) hx hb dL_law_125 (by decide) (fun _ => ?_) (fun c_42 => absurd (Int32.le_refl _) c_42)
          refine lv_iinc (v := nI (time + 1)) (lv' := [(1, .int (nI (time + 1))), (4, .int (nI 6)), (3, .ref z_4), (2, .ref gp), (0, .ref bs)]) hx hb dL_law_924 hl (k := 3) rfl (nI_1 time) (by decide) rfl (fun ls hl => ?_)
          refine lv_goto (tgt := 2) hx hb dL_law_927 (by decide) ?_
          have hP : ms (dC, dI) vwCl A [] H := hP
          refine W.widen (k := (fun time => 0 + 6000 * time) (time + 1)) (n := (fun time => 0 + 1600000 * time) (time + 1)) (by show 0 + 6000 * time + 1 + 2209 + 12 + 4 * z_21 + 0 + 1 * Kf + 505 * 6 ≤ 0 + 6000 * (time + 1); omega) (by show 0 + 1600000 * time + 25 + 23298 + 60 + 14 * z_21 + 0 + 6 * Kf + 260572 * 6 ≤ 0 + 1600000 * (time + 1); omega) ?_
          exact ihtime () _ _ ls ⟨hP, hS, lv_sub hl [0, 4] rfl⟩
        · rintro i _ H locs ls hi ⟨ck8, d8, a8, κ8, τ8, b8, κt8, τt8, ki0, ki1, ki2, ki3, ki4, hP, hS, hl⟩ ihi
          have hl : lv_has ls 24 [(4, .int (nI i)), (3, .ref z_4), (2, .ref gp), (1, .int (nI time)), (0, .ref bs)] := hl
          show W _ _ _ _ _ _ _ _ _ _ _ _ (0 + 6000 * time + 1 + 2209 + 12 + 4 * z_21 + 0 + 1 * Kf + 505 * i) (0 + 1600000 * time + 25 + 23298 + 60 + 14 * z_21 + 0 + 6 * Kf + 260572 * i) _ _
          refine lv_iload hx hb dL_law_121 (lv_at hl 0 rfl) ?_
          refine lv_bipush (v := 6) hx hb dL_law_123 (by decide) ?_
          refine lv_icmp_ge (tgt := 924) hx hb dL_law_125 (by decide) (fun c_43 => absurd c_43 (nI_ge (b := 6) hi (by omega))) (fun _ => ?_)
          refine lx_step C2 (by show 0 + 6000 * time + 1 + 2209 + 12 + 4 * z_21 + 0 + 1 * Kf + 505 * i ≤ 580000; omega) (by show 0 + 1600000 * time + 25 + 23298 + 60 + 14 * z_21 + 0 + 6 * Kf + 260572 * i ≤ 6700000; omega) Inv hNF (by omega) (by omega) (by omega) (by omega) ki2 (by omega) (by omega) (1008 * i) (by omega) (by omega) (by omega) ki3 ki4 _ _ _ _ ls hP hS (lv_sub hl [4, 3, 2, 1, 0] rfl) ?_
          intro H locs ls ck9 d9 a9 κ9 τ9 b9 κt9 τt9 hck9 hd9 hG9 hwb9 hTt9 hP hS hl
          have hl : lv_has ls 24 [(0, .ref bs), (1, .int (nI time)), (2, .ref gp), (3, .ref z_4), (4, .int (nI i))] := hl
          refine lv_iinc (v := nI (i + 1)) (lv' := [(4, .int (nI (i + 1))), (0, .ref bs), (1, .int (nI time)), (2, .ref gp), (3, .ref z_4)]) hx hb dL_law_918 hl (k := 4) rfl (nI_1 i) (by decide) rfl (fun ls hl => ?_)
          refine lv_goto (tgt := 121) hx hb dL_law_921 (by decide) ?_
          refine W.widen (k := (fun i => 0 + 6000 * time + 1 + 2209 + 12 + 4 * z_21 + 0 + 1 * Kf + 505 * i) (i + 1)) (n := (fun i => 0 + 1600000 * time + 25 + 23298 + 60 + 14 * z_21 + 0 + 6 * Kf + 260572 * i) (i + 1)) (by show 0 + 6000 * time + 1 + 2209 + 12 + 4 * z_21 + 0 + 1 * Kf + 505 * i + 504 + 1 ≤ 0 + 6000 * time + 1 + 2209 + 12 + 4 * z_21 + 0 + 1 * Kf + 505 * (i + 1); omega) (by show 0 + 1600000 * time + 25 + 23298 + 60 + 14 * z_21 + 0 + 6 * Kf + 260572 * i + 260568 + 4 ≤ 0 + 1600000 * time + 25 + 23298 + 60 + 14 * z_21 + 0 + 6 * Kf + 260572 * (i + 1); omega) ?_
          exact ihi () _ _ ls ⟨ck9, d9, a9, κ9, τ9, b9, κt9, τt9, (by omega), (by omega), (by rw [show 504 * (i + 1) = 504 * i + 504 by omega]; exact hG9), (by rw [show 1008 * (i + 1) = 1008 * i + 1008 by omega]; exact hwb9), hTt9, hP, hS, lv_sub hl [0, 4, 3, 2, 1] rfl⟩
      · rintro i _ H locs ls hi ⟨a7, d7, fr7, fv7, ki0, ki1, hP, hS, hl⟩ ihi
        have hl : lv_has ls 24 [(4, .int (nI (Kf - i))), (3, .ref z_4), (2, .ref gp), (1, .int (nI time)), (0, .ref bs)] := hl
        show W _ _ _ _ _ _ _ _ _ _ _ _ (0 + 6000 * time + 1 + 2209 + 12 + 4 * z_21 + 0 + 1 * i) (0 + 1600000 * time + 25 + 23298 + 60 + 14 * z_21 + 0 + 6 * i) _ _
        refine lv_iload hx hb dL_law_93 (lv_at hl 0 rfl) ?_
        refine lv_if_le (tgt := 118) hx hb dL_law_95 (by decide) (fun c_44 => absurd c_44 (nI_ge (a := 0) (by omega) (by omega))) (fun _ => ?_)
        refine lv_aload_n hx hb dL_law_98 rfl (lv_at hl 2 rfl) ?_
        refine lv_aload_n hx hb dL_law_99 rfl (lv_at hl 2 rfl) ?_
        refine lv_iconst (v := 2) hx hb dL_law_100 (by decide) ?_
        have hPc : ms (dC, dI) vwCl A ([cel gp (gO z_4 bs z_9 d7 z_21 z_22 i)] ++ [(fun q e => TW cy z_7 (some z_5) a7 (((0 : Int32), (fun _ _ => 0))) z_8 q e ∨ oW z_4 (z_7 0 0) (z_6 0 0) q e), rwW cy 24 5 (z_9 0) z_24 z_25 z_22, rwW cy 10 6 (z_9 9) fr7 fv7 i, (TW cy z_6 none St0 K0 TZ)]) H := hP.sel [1, 0, 2, 3, 4] rfl (by decide)
        have hFc := g_free hPc hS hA
        refine va_calli (va_runV (As := [.int 2]) (rest := [.ref gp]) ⟨hx, hb, hml, hown, hts⟩ (c_draw l dC dI cy bs Ls xs gp z_4 z_9 d7 z_21 z_22 i 2 H.size (by first | assumption | omega) (by first | assumption | omega) (by first | assumption | omega)) (tp_cwV 1 hts tw_1015 tw_1016 tw_1017 tw_19 tw_1018 rfl rfl (by decide +kernel) ⟨Nat.le_of_ble_eq_true rfl, Nat.le_of_ble_eq_true rfl⟩) ⟨g_blind, va_recv hK (hP.one (e := .inr (9, [.ref z_4, .ref bs, .int (nI d7), .int (nI z_21), .int 0, .int 1, .int (nI z_22), .ref (z_9 0), .ref (z_9 1), .ref (z_9 2), .ref (z_9 3), .ref (z_9 4), .ref (z_9 5), .ref (z_9 6), .ref (z_9 7), .ref (z_9 8), .int (nI i), .ref (z_9 9), .int 0, .ref (z_9 10), .ref (z_9 11), .ref (z_9 12), .ref (z_9 13), .ref (z_9 14), .ref (z_9 15)])) 1 rfl cel_in) (ci := 9) (q0 := 0) rfl rfl, fun U hU hW => ⟨rfl, g_pay hK hPc hE hX hbl hbL hbA hS U hU hW⟩⟩ rfl rfl hl.1 rfl (lv_room (Nat.le_of_ble_eq_true rfl)) dL_law_101 ⟨(by show 0 + 6000 * time + 1 + 2209 + 12 + 4 * z_21 + 0 + 1 * i + 0 ≤ 600074; omega), (by show 0 + 1600000 * time + 25 + 23298 + 60 + 14 * z_21 + 0 + 6 * i + 0 ≤ 7301550; omega)⟩) hS (fun q _ h => hFc q h) hFc (fun r_45 u t H1 locs ht hvm hpo hB hz1 hk1 hS => ?_)
        obtain rfl := hpo
        obtain ⟨z_46, f_47, f_48, hP1⟩ := hB
        rw [ht] at hP1
        have hPj := hPc.calls hk1 hFc hP1
        have hP : ms (dC, dI) vwCl A [(fun q e => TW cy z_7 (some z_5) a7 (((0 : Int32), (fun _ _ => 0))) z_8 q e ∨ oW z_4 (z_7 0 0) (z_6 0 0) q e), cel gp (gO z_4 bs z_9 (d7 + 1) z_21 z_22 i), rwW cy 24 5 (z_9 0) z_24 z_25 z_22, rwW cy 10 6 (z_9 9) fr7 fv7 i, (TW cy z_6 none St0 K0 TZ)] H1 := hPj.sel [1, 0, 2, 3, 4] rfl (by decide)
        clear hPj hPc hP1 hk1 hFc
        generalize H1 = H at hP hS ⊢
        subst f_48
        have qC := f_47
        have hPc : ms (dC, dI) vwCl A ([(fun q e => TW cy z_7 (some z_5) a7 (((0 : Int32), (fun _ _ => 0))) z_8 q e ∨ oW z_4 (z_7 0 0) (z_6 0 0) q e), cel gp (gO z_4 bs z_9 (d7 + 1) z_21 z_22 i), rwW cy 10 6 (z_9 9) fr7 fv7 i] ++ [rwW cy 24 5 (z_9 0) z_24 z_25 z_22, (TW cy z_6 none St0 K0 TZ)]) H := hP.sel [0, 1, 3, 2, 4] rfl (by decide)
        have hFc := g_free hPc hS hA
        refine va_calli (va_runV (As := [.int (nI z_46)]) (rest := []) ⟨hx, hb, hml, hown, hts⟩ (c_law_addFlow l dC dI cy bs Ls xs gp z_4 z_9 (d7 + 1) z_21 z_22 i z_7 z_5 ((z_6 0 0)) a7 ((fun _ _ => 0)) z_8 z_25 pl5 fr7 fv7 z_46 H.size f_15 ki0 (by omega) (by omega) (by omega) (by omega)) (tp_cwV 1 hts tw_1067 tw_1068 tw_1069 tw_19 tw_1070 rfl rfl (by decide +kernel) ⟨Nat.le_of_ble_eq_true rfl, Nat.le_of_ble_eq_true rfl⟩) ⟨g_blind, va_recv hK (hP.one (e := .inr (9, [.ref z_4, .ref bs, .int (nI (d7 + 1)), .int (nI z_21), .int 0, .int 1, .int (nI z_22), .ref (z_9 0), .ref (z_9 1), .ref (z_9 2), .ref (z_9 3), .ref (z_9 4), .ref (z_9 5), .ref (z_9 6), .ref (z_9 7), .ref (z_9 8), .int (nI i), .ref (z_9 9), .int 0, .ref (z_9 10), .ref (z_9 11), .ref (z_9 12), .ref (z_9 13), .ref (z_9 14), .ref (z_9 15)])) 1 rfl cel_in) (ci := 9) (q0 := 0) rfl rfl, fun U hU hW => ⟨rfl, g_pay hK hPc hE hX hbl hbL hbA hS U hU hW⟩⟩ rfl rfl hl.1 rfl (lv_room (Nat.le_of_ble_eq_true rfl)) dL_law_104 ⟨(by show 0 + 6000 * time + 1 + 2209 + 12 + 4 * z_21 + 0 + 1 * i + 0 + 1 ≤ 600074; omega), (by show 0 + 1600000 * time + 25 + 23298 + 60 + 14 * z_21 + 0 + 6 * i + 0 + 6 ≤ 7301550; omega)⟩) hS (fun q _ h => hFc q h) hFc (fun r_49 u t H1 locs ht hvm hpo hB hz1 hk1 hS => ?_)
        obtain rfl := hpo
        obtain ⟨z_50, z_51, z_52, f_53, f_54, hP1⟩ := hB
        subst f_53
        rw [ht] at hP1
        have hPj := hPc.calls hk1 hFc hP1
        have hP : ms (dC, dI) vwCl A [(fun q e => TW cy z_7 (some z_5) z_50 (((0 : Int32), (fun _ _ => 0))) z_8 q e ∨ oW z_4 (z_7 0 0) (z_6 0 0) q e), cel gp (gO z_4 bs z_9 (d7 + 1 + 5) z_21 z_22 (i + 1)), rwW cy 24 5 (z_9 0) z_24 z_25 z_22, rwW cy 10 6 (z_9 9) z_51 z_52 (i + 1), (TW cy z_6 none St0 K0 TZ)] H1 := hPj.sel [0, 1, 3, 2, 4] rfl (by decide)
        clear hPj hPc hP1 hk1 hFc
        generalize H1 = H at hP hS ⊢
        refine lv_if_ne (tgt := 112) hx hb dL_law_107 (by decide) (fun _ => ?_) (fun c_55 => absurd c_55 (by decide))
        refine lv_iinc (v := nI (Kf - (i + 1))) (lv' := [(4, .int (nI (Kf - (i + 1)))), (3, .ref z_4), (2, .ref gp), (1, .int (nI time)), (0, .ref bs)]) hx hb dL_law_112 hl (k := 0) rfl (by rw [show Kf - i = (Kf - (i + 1)) + 1 by omega]; exact pk_m1 _) (by decide) rfl (fun ls hl => ?_)
        refine lv_goto (tgt := 93) hx hb dL_law_115 (by decide) ?_
        refine W.widen (k := (fun i => 0 + 6000 * time + 1 + 2209 + 12 + 4 * z_21 + 0 + 1 * i) (i + 1)) (n := (fun i => 0 + 1600000 * time + 25 + 23298 + 60 + 14 * z_21 + 0 + 6 * i) (i + 1)) (by show 0 + 6000 * time + 1 + 2209 + 12 + 4 * z_21 + 0 + 1 * i + 0 + 1 ≤ 0 + 6000 * time + 1 + 2209 + 12 + 4 * z_21 + 0 + 1 * (i + 1); omega) (by show 0 + 1600000 * time + 25 + 23298 + 60 + 14 * z_21 + 0 + 6 * i + 0 + 6 ≤ 0 + 1600000 * time + 25 + 23298 + 60 + 14 * z_21 + 0 + 6 * (i + 1); omega) ?_
        exact ihi () _ _ ls ⟨z_50, (d7 + 1 + 5), z_51, z_52, f_54, (by omega), hP, hS, lv_sub hl [0, 1, 2, 3, 4] rfl⟩
    · rintro i _ H locs ls hi ⟨a5, d5, pl5, pr5, pe5, px5, ki0, ki1, ki2, hP, hS, hl⟩ ihi
      have hl : lv_has ls 24 [(4, .int (nI i)), (3, .ref z_4), (2, .ref gp), (1, .int (nI time)), (0, .ref bs)] := hl
      show W _ _ _ _ _ _ _ _ _ _ _ _ (0 + 6000 * time + 1 + 2209 + 12 + 4 * i) (0 + 1600000 * time + 25 + 23298 + 60 + 14 * i) _ _
      refine lv_iload hx hb dL_law_40 (lv_at hl 0 rfl) ?_
      refine lv_aload_n hx hb dL_law_42 rfl (lv_at hl 2 rfl) ?_
      refine va_get (D := (dC, dI)) (ws := [(gp, .inr (9, [.ref z_4, .ref bs, .int (nI d5), .int (nI z_21), .int 0, .int 1, .int (nI z_22), .ref (z_9 0), .ref (z_9 1), .ref (z_9 2), .ref (z_9 3), .ref (z_9 4), .ref (z_9 5), .ref (z_9 6), .ref (z_9 7), .ref (z_9 8), .int (nI 0), .ref (z_9 9), .int 0, .ref (z_9 10), .ref (z_9 11), .ref (z_9 12), .ref (z_9 13), .ref (z_9 14), .ref (z_9 15)]))]) (ci := 9) (v := .int (nI z_21)) (C := RX9) (T := TX9) (N := 25) hx hb hts tl_X9 hown hK (hP.one 1 rfl cel_in) 0 rfl rfl 3 (by decide) (hts _ tw_937) (fun _ h9 => h9) rfl dL_law_43 ?_
      refine lv_icmp_ge (tgt := 84) hx hb dL_law_46 (by decide) (fun c_56 => absurd c_56 (nI_ge (b := z_21) hi (by omega))) (fun _ => ?_)
      refine lv_aload_n hx hb dL_law_49 rfl (lv_at hl 2 rfl) ?_
      refine lv_iconst (v := 3) hx hb dL_law_50 (by decide) ?_
      have hPc : ms (dC, dI) vwCl A ([cel gp (gO z_4 bs z_9 d5 z_21 z_22 0)] ++ [(fun q e => TW cy z_7 (some z_5) a5 (((0 : Int32), (fun _ _ => 0))) z_8 q e ∨ oW z_4 (z_7 0 0) (z_6 0 0) q e), rwW cy 24 5 (z_9 0) z_24 z_25 z_22, cel (z_9 13) (arQ (cy 10) 12 (fun n => some (pr5 n))), prW cy pr5 pl5 pe5, peW cy pl5 pe5 px5, rwW cy 10 6 (z_9 9) ((fun _ => 0)) ((fun _ _ => 0)) 0, (TW cy z_6 none St0 K0 TZ)]) H := hP.sel [1, 0, 2, 3, 4, 5, 6, 7] rfl (by decide)
      have hFc := g_free hPc hS hA
      refine va_calli (va_runV (As := [.int 3]) (rest := []) ⟨hx, hb, hml, hown, hts⟩ (c_draw l dC dI cy bs Ls xs gp z_4 z_9 d5 z_21 z_22 0 3 H.size (by first | assumption | omega) (by first | assumption | omega) (by first | assumption | omega)) (tp_cwV 1 hts tw_1015 tw_1016 tw_1017 tw_19 tw_1018 rfl rfl (by decide +kernel) ⟨Nat.le_of_ble_eq_true rfl, Nat.le_of_ble_eq_true rfl⟩) ⟨g_blind, va_recv hK (hP.one (e := .inr (9, [.ref z_4, .ref bs, .int (nI d5), .int (nI z_21), .int 0, .int 1, .int (nI z_22), .ref (z_9 0), .ref (z_9 1), .ref (z_9 2), .ref (z_9 3), .ref (z_9 4), .ref (z_9 5), .ref (z_9 6), .ref (z_9 7), .ref (z_9 8), .int (nI 0), .ref (z_9 9), .int 0, .ref (z_9 10), .ref (z_9 11), .ref (z_9 12), .ref (z_9 13), .ref (z_9 14), .ref (z_9 15)])) 1 rfl cel_in) (ci := 9) (q0 := 0) rfl rfl, fun U hU hW => ⟨rfl, g_pay hK hPc hE hX hbl hbL hbA hS U hU hW⟩⟩ rfl rfl hl.1 rfl (lv_room (Nat.le_of_ble_eq_true rfl)) dL_law_51 ⟨(by show 0 + 6000 * time + 1 + 2209 + 12 + 4 * i + 0 ≤ 600074; omega), (by show 0 + 1600000 * time + 25 + 23298 + 60 + 14 * i + 0 ≤ 7301550; omega)⟩) hS (fun q _ h => hFc q h) hFc (fun r_57 u t H1 locs ht hvm hpo hB hz1 hk1 hS => ?_)
      obtain rfl := hpo
      obtain ⟨z_58, f_59, f_60, hP1⟩ := hB
      rw [ht] at hP1
      have hPj := hPc.calls hk1 hFc hP1
      have hP : ms (dC, dI) vwCl A [(fun q e => TW cy z_7 (some z_5) a5 (((0 : Int32), (fun _ _ => 0))) z_8 q e ∨ oW z_4 (z_7 0 0) (z_6 0 0) q e), cel gp (gO z_4 bs z_9 (d5 + 1) z_21 z_22 0), rwW cy 24 5 (z_9 0) z_24 z_25 z_22, cel (z_9 13) (arQ (cy 10) 12 (fun n => some (pr5 n))), prW cy pr5 pl5 pe5, peW cy pl5 pe5 px5, rwW cy 10 6 (z_9 9) ((fun _ => 0)) ((fun _ _ => 0)) 0, (TW cy z_6 none St0 K0 TZ)] H1 := hPj.sel [1, 0, 2, 3, 4, 5, 6, 7] rfl (by decide)
      clear hPj hPc hP1 hk1 hFc
      generalize H1 = H at hP hS ⊢
      subst f_60
      have qK := f_59
      refine lv_istore (lv' := [(5, .int (nI z_58)), (4, .int (nI i)), (3, .ref z_4), (2, .ref gp), (1, .int (nI time)), (0, .ref bs)]) hx hb dL_law_54 hl (by decide) rfl (fun ls hl => ?_)
      obtain ⟨Kn, eK⟩ : ∃ y : Nat, y = z_58 := ⟨_, rfl⟩
      rw [← eK] at hl
      have hK3 : Kn < 3 := by omega
      refine W.widen (k := (fun j => 0 + 6000 * time + 1 + 2209 + 12 + 4 * i + 0 + 2 * j) 0) (n := (fun j => 0 + 1600000 * time + 25 + 23298 + 60 + 14 * i + 0 + 7 * j) 0) (Nat.le_refl _) (Nat.le_refl _) ?_
      refine tp_for (σ := Unit) Kn (fun j => 0 + 6000 * time + 1 + 2209 + 12 + 4 * i + 0 + 2 * j) (fun j => 0 + 1600000 * time + 25 + 23298 + 60 + 14 * i + 0 + 7 * j) (fun (j : Nat) (_ : Unit) (H : Heap) (locs : List Loc) (ls : Array Slot) => ∃ (a6 : St), ∃ (d6 : Nat), ∃ (pl6 : Nat → Nat), ∃ (pr6 : Nat → Nat), ∃ (pe6 : Nat → Nat → Nat), ∃ (px6 : Nat → Nat → Nat → Int32), (Bld a6 z_21 z_22 z_25 pl6 0 (fun _ _ => 0)) ∧ (∀ q, i + 1 ≤ q → pl6 q = 0) ∧ (pl6 i ≤ j) ∧ (d6 ≤ d0 + 101 + 130 * i + 40 * j) ∧ ms (dC, dI) vwCl A [(fun q e => TW cy z_7 (some z_5) a6 (((0 : Int32), (fun _ _ => 0))) z_8 q e ∨ oW z_4 (z_7 0 0) (z_6 0 0) q e), cel gp (gO z_4 bs z_9 d6 z_21 z_22 0), rwW cy 24 5 (z_9 0) z_24 z_25 z_22, cel (z_9 13) (arQ (cy 10) 12 (fun n => some (pr6 n))), prW cy pr6 pl6 pe6, peW cy pl6 pe6 px6, rwW cy 10 6 (z_9 9) ((fun _ => 0)) ((fun _ _ => 0)) 0, (TW cy z_6 none St0 K0 TZ)] H ∧ va_S A s.heap H locs ∧ lv_has ls 24 [(5, .int (nI (Kn - j))), (4, .int (nI i)), (3, .ref z_4), (2, .ref gp), (1, .int (nI time)), (0, .ref bs)]) ?_ ?_ Kn 0 (Nat.zero_add _) () _ _ ls ⟨a5, (d5 + 1), pl5, pr5, pe5, px5, ki0, (fun q hq => ki1 q (by omega)), (by rw [ki1 i (Nat.le_refl _)]; omega), (by omega), hP, hS, lv_sub hl [0, 1, 2, 3, 4, 5] rfl⟩
      · rintro _ H locs ls ⟨a6, d6, pl6, pr6, pe6, px6, kj0, kj1, kj2, kj3, hP, hS, hl⟩
        have hl : lv_has ls 24 [(5, .int (nI (Kn - Kn))), (4, .int (nI i)), (3, .ref z_4), (2, .ref gp), (1, .int (nI time)), (0, .ref bs)] := hl
        show W _ _ _ _ _ _ _ _ _ _ _ _ (0 + 6000 * time + 1 + 2209 + 12 + 4 * i + 0 + 2 * Kn) (0 + 1600000 * time + 25 + 23298 + 60 + 14 * i + 0 + 7 * Kn) _ _
        refine lv_iload hx hb dL_law_56 (lv_at hl 0 rfl) ?_
        refine lv_if_le (tgt := 78) hx hb dL_law_58 (by decide) (fun _ => ?_) (fun c_61 => absurd (by rw [Nat.sub_self]; decide) c_61)
        refine lv_iinc (v := nI (i + 1)) (lv' := [(4, .int (nI (i + 1))), (5, .int (nI (Kn - Kn))), (3, .ref z_4), (2, .ref gp), (1, .int (nI time)), (0, .ref bs)]) hx hb dL_law_78 hl (k := 1) rfl (nI_1 i) (by decide) rfl (fun ls hl => ?_)
        refine lv_goto (tgt := 40) hx hb dL_law_81 (by decide) ?_
        refine W.widen (k := (fun i => 0 + 6000 * time + 1 + 2209 + 12 + 4 * i) (i + 1)) (n := (fun i => 0 + 1600000 * time + 25 + 23298 + 60 + 14 * i) (i + 1)) (by show 0 + 6000 * time + 1 + 2209 + 12 + 4 * i + 0 + 2 * Kn ≤ 0 + 6000 * time + 1 + 2209 + 12 + 4 * (i + 1); omega) (by show 0 + 1600000 * time + 25 + 23298 + 60 + 14 * i + 0 + 7 * Kn ≤ 0 + 1600000 * time + 25 + 23298 + 60 + 14 * (i + 1); omega) ?_
        exact ihi () _ _ ls ⟨a6, d6, pl6, pr6, pe6, px6, kj0, kj1, (by omega), hP, hS, lv_sub hl [0, 2, 3, 4, 5] rfl⟩
      · rintro j _ H locs ls hj ⟨a6, d6, pl6, pr6, pe6, px6, kj0, kj1, kj2, kj3, hP, hS, hl⟩ ihj
        have hl : lv_has ls 24 [(5, .int (nI (Kn - j))), (4, .int (nI i)), (3, .ref z_4), (2, .ref gp), (1, .int (nI time)), (0, .ref bs)] := hl
        show W _ _ _ _ _ _ _ _ _ _ _ _ (0 + 6000 * time + 1 + 2209 + 12 + 4 * i + 0 + 2 * j) (0 + 1600000 * time + 25 + 23298 + 60 + 14 * i + 0 + 7 * j) _ _
        refine lv_iload hx hb dL_law_56 (lv_at hl 0 rfl) ?_
        refine lv_if_le (tgt := 78) hx hb dL_law_58 (by decide) (fun c_62 => absurd c_62 (nI_ge (a := 0) (by omega) (by omega))) (fun _ => ?_)
        refine lv_aload_n hx hb dL_law_61 rfl (lv_at hl 3 rfl) ?_
        refine lv_iload hx hb dL_law_62 (lv_at hl 1 rfl) ?_
        have hPc : ms (dC, dI) vwCl A ([(fun q e => TW cy z_7 (some z_5) a6 (((0 : Int32), (fun _ _ => 0))) z_8 q e ∨ oW z_4 (z_7 0 0) (z_6 0 0) q e), cel gp (gO z_4 bs z_9 d6 z_21 z_22 0), rwW cy 24 5 (z_9 0) z_24 z_25 z_22, cel (z_9 13) (arQ (cy 10) 12 (fun n => some (pr6 n))), prW cy pr6 pl6 pe6, peW cy pl6 pe6 px6] ++ [rwW cy 10 6 (z_9 9) ((fun _ => 0)) ((fun _ _ => 0)) 0, (TW cy z_6 none St0 K0 TZ)]) H := hP.sel [0, 1, 2, 3, 4, 5, 6, 7] rfl (by decide)
        have hFc := g_free hPc hS hA
        refine va_calli (va_runV (As := [.int (nI i)]) (rest := []) ⟨hx, hb, hml, hown, hts⟩ (c_law_addPhase l dC dI cy bs Ls xs gp z_4 z_9 d6 z_21 z_22 z_7 z_5 ((z_6 0 0)) a6 ((fun _ _ => 0)) z_8 z_24 z_25 pl6 ((fun _ _ => 0)) pr6 pe6 px6 i H.size f_15 kj0 hi (by omega) (by omega)) (tp_cwV 1 hts tw_1077 tw_1078 tw_1079 tw_19 tw_1080 rfl rfl (by decide +kernel) ⟨Nat.le_of_ble_eq_true rfl, Nat.le_of_ble_eq_true rfl⟩) ⟨g_blind, va_recv hK (hP.one (e := .inr (9, [.ref z_4, .ref bs, .int (nI d6), .int (nI z_21), .int 0, .int 1, .int (nI z_22), .ref (z_9 0), .ref (z_9 1), .ref (z_9 2), .ref (z_9 3), .ref (z_9 4), .ref (z_9 5), .ref (z_9 6), .ref (z_9 7), .ref (z_9 8), .int (nI 0), .ref (z_9 9), .int 0, .ref (z_9 10), .ref (z_9 11), .ref (z_9 12), .ref (z_9 13), .ref (z_9 14), .ref (z_9 15)])) 1 rfl cel_in) (ci := 9) (q0 := 0) rfl rfl, fun U hU hW => ⟨rfl, g_pay hK hPc hE hX hbl hbL hbA hS U hU hW⟩⟩ rfl rfl hl.1 rfl (lv_room (Nat.le_of_ble_eq_true rfl)) dL_law_64 ⟨(by show 0 + 6000 * time + 1 + 2209 + 12 + 4 * i + 0 + 2 * j + 2 ≤ 600074; omega), (by show 0 + 1600000 * time + 25 + 23298 + 60 + 14 * i + 0 + 7 * j + 7 ≤ 7301550; omega)⟩) hS (fun q _ h => hFc q h) hFc (fun r_63 u t H1 locs ht hvm hpo hB hz1 hk1 hS => ?_)
        obtain rfl := hpo
        obtain ⟨z_64, z_65, z_66, z_67, z_68, z_69, f_70, f_71, f_72, f_73, hP1⟩ := hB
        subst f_70
        rw [ht] at hP1
        have hPj := hPc.calls hk1 hFc hP1
        have hP : ms (dC, dI) vwCl A [(fun q e => TW cy z_7 (some z_5) z_64 (((0 : Int32), (fun _ _ => 0))) z_8 q e ∨ oW z_4 (z_7 0 0) (z_6 0 0) q e), cel gp (gO z_4 bs z_9 z_65 z_21 z_22 0), rwW cy 24 5 (z_9 0) z_24 z_25 z_22, cel (z_9 13) (arQ (cy 10) 12 (fun n => some (z_67 n))), prW cy z_67 z_66 z_68, peW cy z_66 z_68 z_69, rwW cy 10 6 (z_9 9) ((fun _ => 0)) ((fun _ _ => 0)) 0, (TW cy z_6 none St0 K0 TZ)] H1 := hPj.sel [0, 1, 2, 3, 4, 5, 6, 7] rfl (by decide)
        clear hPj hPc hP1 hk1 hFc
        generalize H1 = H at hP hS ⊢
        have e64 := f_72
        refine lv_if_ne (tgt := 72) hx hb dL_law_67 (by decide) (fun _ => ?_) (fun c_74 => absurd c_74 (by decide))
        refine lv_iinc (v := nI (Kn - (j + 1))) (lv' := [(5, .int (nI (Kn - (j + 1)))), (4, .int (nI i)), (3, .ref z_4), (2, .ref gp), (1, .int (nI time)), (0, .ref bs)]) hx hb dL_law_72 hl (k := 0) rfl (by rw [show Kn - j = (Kn - (j + 1)) + 1 by omega]; exact pk_m1 _) (by decide) rfl (fun ls hl => ?_)
        refine lv_goto (tgt := 56) hx hb dL_law_75 (by decide) ?_
        refine W.widen (k := (fun j => 0 + 6000 * time + 1 + 2209 + 12 + 4 * i + 0 + 2 * j) (j + 1)) (n := (fun j => 0 + 1600000 * time + 25 + 23298 + 60 + 14 * i + 0 + 7 * j) (j + 1)) (by show 0 + 6000 * time + 1 + 2209 + 12 + 4 * i + 0 + 2 * j + 2 ≤ 0 + 6000 * time + 1 + 2209 + 12 + 4 * i + 0 + 2 * (j + 1); omega) (by show 0 + 1600000 * time + 25 + 23298 + 60 + 14 * i + 0 + 7 * j + 7 ≤ 0 + 1600000 * time + 25 + 23298 + 60 + 14 * i + 0 + 7 * (j + 1); omega) ?_
        exact ihj () _ _ ls ⟨z_64, z_65, z_66, z_67, z_68, z_69, f_71, (fun q hq => by rw [e64, up2_ne (by omega)]; exact kj1 q hq), (by rw [e64, up2_eq]; omega), (by omega), hP, hS, lv_sub hl [0, 1, 2, 3, 4, 5] rfl⟩

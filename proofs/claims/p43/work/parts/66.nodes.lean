theorem tw_937 : Cond.fieldLink RL 22 "TurnpikeLaw$Roads" "nodes" "I" ∈ tp_all := tp_mem 937 (by decide +kernel) rfl
theorem tw_422 : Cond.methodLink RL 102 yX8_waiting ∈ tp_all := tp_mem 422 (by decide +kernel) rfl
theorem dL_law_553 : decode cL_law 553 = .ok (.iconst 0, 1) := by decide +kernel
theorem dL_law_554 : decode cL_law 554 = .ok (.istore 16, 2) := by decide +kernel
theorem dL_law_556 : decode cL_law 556 = .ok (.iload 16, 2) := by decide +kernel
theorem dL_law_558 : decode cL_law 558 = .ok (.aload_n 2, 1) := by decide +kernel
theorem dL_law_559 : decode cL_law 559 = .ok (.getfield 22, 3) := by decide +kernel
theorem dL_law_562 : decode cL_law 562 = .ok (.if_icmp .ge 20, 3) := by decide +kernel
theorem dL_law_565 : decode cL_law 565 = .ok (.iload 15, 2) := by decide +kernel
theorem dL_law_567 : decode cL_law 567 = .ok (.aload_n 3, 1) := by decide +kernel
theorem dL_law_568 : decode cL_law 568 = .ok (.iload 16, 2) := by decide +kernel
theorem dL_law_570 : decode cL_law 570 = .ok (.invokevirtual 102, 3) := by decide +kernel
theorem dL_law_573 : decode cL_law 573 = .ok (.iadd, 1) := by decide +kernel
theorem dL_law_574 : decode cL_law 574 = .ok (.istore 15, 2) := by decide +kernel
theorem dL_law_576 : decode cL_law 576 = .ok (.iinc 16 1, 3) := by decide +kernel
theorem dL_law_579 : decode cL_law 579 = .ok (.goto (-23), 3) := by decide +kernel
set_option maxRecDepth 100000 in
set_option maxHeartbeats 4000000 in
/-- who waits at the nodes -/
theorem lx_nodes {p : Program} {l : Launch} {e : Env} {s : State} {m : MethodId} {below : List Frame} {meth : Method} {c : Code} {A : Nat → Prop} {dC : Nat → ClassId} {dI : Nat → Nat → Nat} {cy : Nat → ClassId} {bs Ls : Nat} {xs : Nat → Int32} {Q : State → Prop} {cells slots : Nat} (C1 : lx_At p s m meth c A bs Ls xs dC dI cy) (hcells : cells ≤ 590000) (hslots : slots ≤ 7040000) {gp : Nat} {ob : Nat} {qf : Nat → Nat} {d : Nat} {nd : Nat} {nl : Nat} {nf : Nat} {lr : Nat → Nat} {lv : Tb} {fr9 : Nat → Nat} {fv : Tb} {K : Lay} {s0 : Nat} {Lt : Lay} {a : St} {κ : Kap} {τ : Tau} {b : St} {κt : Kap} {τt : Tau} {M : Nat} {ck : Nat} (hT : TL K (some s0) τ) (hw : Wf M a) (hM : M < 20000) (hTR : TRab (some s0) a τ) (hchk : Chk nd nl nf lv fv ck a) (hnd : nd ≤ 12) (hnl : nl ≤ 24) (hnf : nf ≤ 10) (tm : Int32) (sp9 : Int32) (tk9 : Int32) (em9 : Int32) (on9 : Int32) (H : Heap) (locs : List Loc) (ls : Array Slot) (hP : ms (dC, dI) vwCl A [(fun q e => TW cy K (some s0) a κ τ q e ∨ oW ob (K 0 0) (Lt 0 0) q e), cel gp (gO ob bs qf d nd nl nf), rwW cy 24 5 (qf 0) lr lv nl, rwW cy 10 6 (qf 9) fr9 fv nf, (TW cy Lt none b κt τt)] H) (hS : va_S A s.heap H locs) (hl : lv_has ls 24 [(0, .ref bs), (1, .int tm), (2, .ref gp), (3, .ref ob), (4, .int sp9), (7, .int tk9), (10, .int em9), (14, .int on9), (15, .int 0)]) (kk : ∀ (H : Heap) (locs : List Loc) (ls : Array Slot), ms (dC, dI) vwCl A [(fun q e => TW cy K (some s0) a κ τ q e ∨ oW ob (K 0 0) (Lt 0 0) q e), cel gp (gO ob bs qf d nd nl nf), rwW cy 24 5 (qf 0) lr lv nl, rwW cy 10 6 (qf 9) fr9 fv nf, (TW cy Lt none b κt τt)] H → va_S A s.heap H locs → lv_has ls 24 [(0, .ref bs), (1, .int tm), (2, .ref gp), (3, .ref ob), (4, .int sp9), (7, .int tk9), (10, .int em9), (14, .int on9), (15, .int (wtE a nd))] → W p l e room_1 s m #[.ref bs] below meth c H locs (cells) (slots) Q (F0 m 582 ls [])) : W p l e room_1 s m #[.ref bs] below meth c H locs cells slots Q (F0 m 553 ls []) := by
  obtain ⟨hx, hb, hr, hml, hown, hts, hX, hbl, hbL, hlocks, hK, hE, hA, hbA⟩ := C1
  have hl : lv_has ls 24 [(0, .ref bs), (1, .int tm), (2, .ref gp), (3, .ref ob), (4, .int sp9), (7, .int tk9), (10, .int em9), (14, .int on9), (15, .int 0)] := hl
  refine lv_iconst (v := 0) hx hb dL_law_553 (by decide) ?_
  refine lv_istore (lv' := [(16, .int 0), (0, .ref bs), (1, .int tm), (2, .ref gp), (3, .ref ob), (4, .int sp9), (7, .int tk9), (10, .int em9), (14, .int on9), (15, .int 0)]) hx hb dL_law_554 hl (by decide) rfl (fun ls hl => ?_)
  refine tp_for (σ := Unit) nd (fun _ => cells) (fun _ => slots) (fun (i : Nat) (_ : Unit) (H : Heap) (locs : List Loc) (ls : Array Slot) => ms (dC, dI) vwCl A [(fun q e => TW cy K (some s0) a κ τ q e ∨ oW ob (K 0 0) (Lt 0 0) q e), cel gp (gO ob bs qf d nd nl nf), rwW cy 24 5 (qf 0) lr lv nl, rwW cy 10 6 (qf 9) fr9 fv nf, (TW cy Lt none b κt τt)] H ∧ va_S A s.heap H locs ∧ lv_has ls 24 [(16, .int (nI i)), (15, .int (sumI (fun n => a 12 n 0) i)), (0, .ref bs), (1, .int tm), (2, .ref gp), (3, .ref ob), (4, .int sp9), (7, .int tk9), (10, .int em9), (14, .int on9)]) ?_ ?_ nd 0 (Nat.zero_add _) () _ _ ls ⟨hP, hS, lv_sub hl [0, 9, 1, 2, 3, 4, 5, 6, 7, 8] rfl⟩
  · rintro _ H locs ls ⟨hP, hS, hl⟩
    have hl : lv_has ls 24 [(16, .int (nI nd)), (15, .int (sumI (fun n => a 12 n 0) nd)), (0, .ref bs), (1, .int tm), (2, .ref gp), (3, .ref ob), (4, .int sp9), (7, .int tk9), (10, .int em9), (14, .int on9)] := hl
    show W _ _ _ _ _ _ _ _ _ _ _ _ (cells) (slots) _ _
    refine lv_iload hx hb dL_law_556 (lv_at hl 0 rfl) ?_
    refine lv_aload_n hx hb dL_law_558 rfl (lv_at hl 4 rfl) ?_
    refine va_get (D := (dC, dI)) (ws := [(gp, .inr (9, [.ref ob, .ref bs, .int (nI d), .int (nI nd), .int 0, .int 1, .int (nI nl), .ref (qf 0), .ref (qf 1), .ref (qf 2), .ref (qf 3), .ref (qf 4), .ref (qf 5), .ref (qf 6), .ref (qf 7), .ref (qf 8), .int (nI nf), .ref (qf 9), .int 0, .ref (qf 10), .ref (qf 11), .ref (qf 12), .ref (qf 13), .ref (qf 14), .ref (qf 15)]))]) (ci := 9) (v := .int (nI nd)) (C := RX9) (T := TX9) (N := 25) hx hb hts tl_X9 hown hK (hP.one 1 rfl cel_in) 0 rfl rfl 3 (by decide) (hts _ tw_937) (fun _ h9 => h9) rfl dL_law_559 ?_
    refine lv_icmp_ge (tgt := 582) hx hb dL_law_562 (by decide) (fun _ => ?_) (fun c_1 => absurd (Int32.le_refl _) c_1)
    exact kk _ _ ls hP hS (lv_sub hl [2, 3, 4, 5, 6, 7, 8, 9, 1] rfl)
  · rintro i _ H locs ls hi ⟨hP, hS, hl⟩ ihi
    have hl : lv_has ls 24 [(16, .int (nI i)), (15, .int (sumI (fun n => a 12 n 0) i)), (0, .ref bs), (1, .int tm), (2, .ref gp), (3, .ref ob), (4, .int sp9), (7, .int tk9), (10, .int em9), (14, .int on9)] := hl
    show W _ _ _ _ _ _ _ _ _ _ _ _ (cells) (slots) _ _
    have hno : ¬ N_no a (nI i) := chk_non hchk.1 hi hnd
    refine lv_iload hx hb dL_law_556 (lv_at hl 0 rfl) ?_
    refine lv_aload_n hx hb dL_law_558 rfl (lv_at hl 4 rfl) ?_
    refine va_get (D := (dC, dI)) (ws := [(gp, .inr (9, [.ref ob, .ref bs, .int (nI d), .int (nI nd), .int 0, .int 1, .int (nI nl), .ref (qf 0), .ref (qf 1), .ref (qf 2), .ref (qf 3), .ref (qf 4), .ref (qf 5), .ref (qf 6), .ref (qf 7), .ref (qf 8), .int (nI nf), .ref (qf 9), .int 0, .ref (qf 10), .ref (qf 11), .ref (qf 12), .ref (qf 13), .ref (qf 14), .ref (qf 15)]))]) (ci := 9) (v := .int (nI nd)) (C := RX9) (T := TX9) (N := 25) hx hb hts tl_X9 hown hK (hP.one 1 rfl cel_in) 0 rfl rfl 3 (by decide) (hts _ tw_937) (fun _ h9 => h9) rfl dL_law_559 ?_
    refine lv_icmp_ge (tgt := 582) hx hb dL_law_562 (by decide) (fun c_2 => absurd c_2 (nI_ge hi (by omega))) (fun _ => ?_)
    refine lv_iload hx hb dL_law_565 (lv_at hl 1 rfl) ?_
    refine lv_aload_n hx hb dL_law_567 rfl (lv_at hl 5 rfl) ?_
    refine lv_iload hx hb dL_law_568 (lv_at hl 0 rfl) ?_
    have hFc := m_free (C := (fun q e => TW cy K (some s0) a κ τ q e ∨ oW ob (K 0 0) (Lt 0 0) q e)) hP.1 hS hA (fun _ _ h => any_in (i := 0) rfl h)
    refine va_calli (va_runV (As := [.int (nI i)]) (rest := [.int (sumI (fun n => a 12 n 0) i)]) ⟨hx, hb, hml, hown, hts⟩ (c_waiting l dC dI cy K ((some s0)) a κ τ ob ((Lt 0 0)) M (nI i) H.size hT hw hno) (tp_cwV 1 hts tw_422 tw_423 tw_424 tw_20 tw_425 rfl rfl (by decide +kernel) ⟨Nat.le_of_ble_eq_true rfl, Nat.le_of_ble_eq_true rfl⟩) ⟨m_blind, va_recv hK (hP.one (e := .inr (8, [.ref (K 0 0), .ref (Lt 0 0)])) 0 rfl (Or.inr oW_mem)) (ci := 8) (q0 := 0) rfl rfl, fun U hU hW => ⟨rfl, m_pay hK hP.1 hE (fun _ _ h => any_in (i := 0) rfl h) U hU hW⟩⟩ rfl rfl hl.1 rfl (lv_room (Nat.le_of_ble_eq_true rfl)) dL_law_570 ⟨(by show cells + 0 ≤ 600074; omega), (by show slots + 0 ≤ 7301550; omega)⟩) hS (fun q _ h => hFc q h) hFc (fun r_3 u t H1 locs ht hvm hpo hB hz1 hk1 hS => ?_)
    obtain rfl := hpo
    obtain ⟨f_4, hP1⟩ := hB
    subst f_4
    rw [ht] at hP1
    have hP : ms (dC, dI) vwCl A [(fun q e => TW cy K (some s0) a κ τ q e ∨ oW ob (K 0 0) (Lt 0 0) q e), cel gp (gO ob bs qf d nd nl nf), rwW cy 24 5 (qf 0) lr lv nl, rwW cy 10 6 (qf 9) fr9 fv nf, (TW cy Lt none b κt τt)] H1 := hP.call 0 rfl hk1 hFc hP1
    clear hP1 hk1 hFc
    generalize H1 = H at hP hS ⊢
    refine W.eq (g2 := F0 m 573 ls [.int (a 12 i 0), .int (sumI (fun n => a 12 n 0) i)]) (by rw [nI_clamp (by omega)]) ?_
    refine lv_iadd hx hb dL_law_573 ?_
    refine lv_istore (lv' := [(15, .int ((sumI (fun n => a 12 n 0) i) + (a 12 i 0))), (16, .int (nI i)), (0, .ref bs), (1, .int tm), (2, .ref gp), (3, .ref ob), (4, .int sp9), (7, .int tk9), (10, .int em9), (14, .int on9)]) hx hb dL_law_574 hl (by decide) rfl (fun ls hl => ?_)
    refine lv_iinc (v := nI (i + 1)) (lv' := [(16, .int (nI (i + 1))), (15, .int ((sumI (fun n => a 12 n 0) i) + (a 12 i 0))), (0, .ref bs), (1, .int tm), (2, .ref gp), (3, .ref ob), (4, .int sp9), (7, .int tk9), (10, .int em9), (14, .int on9)]) hx hb dL_law_576 hl (k := 1) rfl (nI_1 i) (by decide) rfl (fun ls hl => ?_)
    refine lv_goto (tgt := 556) hx hb dL_law_579 (by decide) ?_
    exact ihi () _ _ ls ⟨hP, hS, lv_sub hl [0, 1, 2, 3, 4, 5, 6, 7, 8, 9] rfl⟩

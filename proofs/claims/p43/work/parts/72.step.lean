theorem dL_law_128 : decode cL_law 128 = .ok (.aload_n 2, 1) := by decide +kernel
theorem dL_law_129 : decode cL_law 129 = .ok (.aload_n 2, 1) := by decide +kernel
theorem dL_law_130 : decode cL_law 130 = .ok (.getfield 37, 3) := by decide +kernel
theorem dL_law_133 : decode cL_law 133 = .ok (.invokevirtual 26, 3) := by decide +kernel
theorem dL_law_136 : decode cL_law 136 = .ok (.istore 5, 2) := by decide +kernel
theorem dL_law_138 : decode cL_law 138 = .ok (.aload_n 2, 1) := by decide +kernel
theorem dL_law_139 : decode cL_law 139 = .ok (.iconst 4, 1) := by decide +kernel
theorem dL_law_140 : decode cL_law 140 = .ok (.invokevirtual 26, 3) := by decide +kernel
theorem dL_law_143 : decode cL_law 143 = .ok (.istore 6, 2) := by decide +kernel
set_option maxRecDepth 100000 in
set_option maxHeartbeats 4000000 in
/-- a step of the law -/
theorem lx_step {p : Program} {l : Launch} {e : Env} {s : State} {m : MethodId} {below : List Frame} {meth : Method} {c : Code} {A : Nat → Prop} {dC : Nat → ClassId} {dI : Nat → Nat → Nat} {cy : Nat → ClassId} {bs Ls : Nat} {xs : Nat → Int32} {Q : State → Prop} {cells slots : Nat} (C1 : lx_At p s m meth c A bs Ls xs dC dI cy) (hcells : cells ≤ 580000) (hslots : slots ≤ 6700000) {gp : Nat} {ob : Nat} {qf : Nat → Nat} {d : Nat} {nd : Nat} {nl : Nat} {nf : Nat} {lr : Nat → Nat} {lv : Tb} {fr9 : Nat → Nat} {fv : Tb} {K : Lay} {s0 : Nat} {Lt : Lay} {a : St} {κ : Kap} {τ : Tau} {b : St} {κt : Kap} {τt : Tau} {M : Nat} {ck : Nat} (Inv : IPr) (hNF : NumFace Inv) (hnd : nd ≤ 12) (hnl : nl ≤ 24) (hnf : nf ≤ 10) (hnl1 : 1 ≤ nl) (hG : SG Inv nd nl nf lv fv ck M K s0 a κ τ) (hd : d < 800000) (hck : ck + 6 ≤ 999) (Mb : Nat) (hM2 : M ≤ 2520) (hMb : Mb < 7000) (hMM : M ≤ Mb) (hwb : Wf Mb b) (hTt : TL Lt none τt) (tm : Int32) (sp9 : Int32) (H : Heap) (locs : List Loc) (ls : Array Slot) (hP : ms (dC, dI) vwCl A [(fun q e => TW cy K (some s0) a κ τ q e ∨ oW ob (K 0 0) (Lt 0 0) q e), cel gp (gO ob bs qf d nd nl nf), rwW cy 24 5 (qf 0) lr lv nl, rwW cy 10 6 (qf 9) fr9 fv nf, (TW cy Lt none b κt τt)] H) (hS : va_S A s.heap H locs) (hl : lv_has ls 24 [(0, .ref bs), (1, .int tm), (2, .ref gp), (3, .ref ob), (4, .int sp9)]) (kk : ∀ (H : Heap) (locs : List Loc) (ls : Array Slot) (ck2 d2 : Nat) (a2 : St) (κ2 : Kap) (τ2 : Tau) (b2 : St) (κt2 : Kap) (τt2 : Tau), ck2 ≤ ck + 6 → d2 ≤ d + 7 → SG Inv nd nl nf lv fv ck2 (M + 504) K s0 a2 κ2 τ2 → Wf (Mb + 1008) b2 → TL Lt none τt2 → ms (dC, dI) vwCl A [(fun q e => TW cy K (some s0) a2 κ2 τ2 q e ∨ oW ob (K 0 0) (Lt 0 0) q e), cel gp (gO ob bs qf d2 nd nl nf), rwW cy 24 5 (qf 0) lr lv nl, rwW cy 10 6 (qf 9) fr9 fv nf, (TW cy Lt none b2 κt2 τt2)] H → va_S A s.heap H locs → lv_has ls 24 [(0, .ref bs), (1, .int tm), (2, .ref gp), (3, .ref ob), (4, .int sp9)] → W p l e room_1 s m #[.ref bs] below meth c H locs (cells + 504 + 1) (slots + 260568 + 4) Q (F0 m 918 ls [])) : W p l e room_1 s m #[.ref bs] below meth c H locs cells slots Q (F0 m 128 ls []) := by
  obtain ⟨hx, hb, hr, hml, hown, hts, hX, hbl, hbL, hlocks, hK, hE, hA, hbA⟩ := C1
  have hl : lv_has ls 24 [(0, .ref bs), (1, .int tm), (2, .ref gp), (3, .ref ob), (4, .int sp9)] := hl
  have C2 : lx_At p s m meth c A bs Ls xs dC dI cy := ⟨hx, hb, hr, hml, hown, hts, hX, hbl, hbL, hlocks, hK, hE, hA, hbA⟩
  refine lv_aload_n hx hb dL_law_128 rfl (lv_at hl 2 rfl) ?_
  refine lv_aload_n hx hb dL_law_129 rfl (lv_at hl 2 rfl) ?_
  refine va_get (D := (dC, dI)) (ws := [(gp, .inr (9, [.ref ob, .ref bs, .int (nI d), .int (nI nd), .int 0, .int 1, .int (nI nl), .ref (qf 0), .ref (qf 1), .ref (qf 2), .ref (qf 3), .ref (qf 4), .ref (qf 5), .ref (qf 6), .ref (qf 7), .ref (qf 8), .int (nI nf), .ref (qf 9), .int 0, .ref (qf 10), .ref (qf 11), .ref (qf 12), .ref (qf 13), .ref (qf 14), .ref (qf 15)]))]) (ci := 9) (v := .int (nI nl)) (C := RX9) (T := TX9) (N := 25) hx hb hts tl_X9 hown hK (hP.one 1 rfl cel_in) 0 rfl rfl 6 (by decide) (hts _ tw_941) (fun _ h9 => h9) rfl dL_law_130 ?_
  have hPc : ms (dC, dI) vwCl A ([cel gp (gO ob bs qf d nd nl nf)] ++ [(fun q e => TW cy K (some s0) a κ τ q e ∨ oW ob (K 0 0) (Lt 0 0) q e), rwW cy 24 5 (qf 0) lr lv nl, rwW cy 10 6 (qf 9) fr9 fv nf, (TW cy Lt none b κt τt)]) H := hP.sel [1, 0, 2, 3, 4] rfl (by decide)
  have hFc := g_free hPc hS hA
  refine va_calli (va_runV (As := [.int (nI nl)]) (rest := []) ⟨hx, hb, hml, hown, hts⟩ (c_draw l dC dI cy bs Ls xs gp ob qf d nd nl nf nl H.size (by first | assumption | omega) (by first | assumption | omega) (by first | assumption | omega)) (tp_cwV 1 hts tw_1015 tw_1016 tw_1017 tw_19 tw_1018 rfl rfl (by decide +kernel) ⟨Nat.le_of_ble_eq_true rfl, Nat.le_of_ble_eq_true rfl⟩) ⟨g_blind, va_recv hK (hP.one (e := .inr (9, [.ref ob, .ref bs, .int (nI d), .int (nI nd), .int 0, .int 1, .int (nI nl), .ref (qf 0), .ref (qf 1), .ref (qf 2), .ref (qf 3), .ref (qf 4), .ref (qf 5), .ref (qf 6), .ref (qf 7), .ref (qf 8), .int (nI nf), .ref (qf 9), .int 0, .ref (qf 10), .ref (qf 11), .ref (qf 12), .ref (qf 13), .ref (qf 14), .ref (qf 15)])) 1 rfl cel_in) (ci := 9) (q0 := 0) rfl rfl, fun U hU hW => ⟨rfl, g_pay hK hPc hE hX hbl hbL hbA hS U hU hW⟩⟩ rfl rfl hl.1 rfl (lv_room (Nat.le_of_ble_eq_true rfl)) dL_law_133 ⟨(by show cells + 0 ≤ 600074; omega), (by show slots + 0 ≤ 7301550; omega)⟩) hS (fun q _ h => hFc q h) hFc (fun r_1 u t H1 locs ht hvm hpo hB hz1 hk1 hS => ?_)
  obtain rfl := hpo
  obtain ⟨z_2, f_3, f_4, hP1⟩ := hB
  rw [ht] at hP1
  have hPj := hPc.calls hk1 hFc hP1
  have hP : ms (dC, dI) vwCl A [(fun q e => TW cy K (some s0) a κ τ q e ∨ oW ob (K 0 0) (Lt 0 0) q e), cel gp (gO ob bs qf (d + 1) nd nl nf), rwW cy 24 5 (qf 0) lr lv nl, rwW cy 10 6 (qf 9) fr9 fv nf, (TW cy Lt none b κt τt)] H1 := hPj.sel [1, 0, 2, 3, 4] rfl (by decide)
  clear hPj hPc hP1 hk1 hFc
  generalize H1 = H at hP hS ⊢
  subst f_4
  have qL := f_3
  refine lv_istore (lv' := [(5, .int (nI z_2)), (0, .ref bs), (1, .int tm), (2, .ref gp), (3, .ref ob), (4, .int sp9)]) hx hb dL_law_136 hl (by decide) rfl (fun ls hl => ?_)
  refine lv_aload_n hx hb dL_law_138 rfl (lv_at hl 3 rfl) ?_
  refine lv_iconst (v := 4) hx hb dL_law_139 (by decide) ?_
  have hPc : ms (dC, dI) vwCl A ([cel gp (gO ob bs qf (d + 1) nd nl nf)] ++ [(fun q e => TW cy K (some s0) a κ τ q e ∨ oW ob (K 0 0) (Lt 0 0) q e), rwW cy 24 5 (qf 0) lr lv nl, rwW cy 10 6 (qf 9) fr9 fv nf, (TW cy Lt none b κt τt)]) H := hP.sel [1, 0, 2, 3, 4] rfl (by decide)
  have hFc := g_free hPc hS hA
  refine va_calli (va_runV (As := [.int 4]) (rest := []) ⟨hx, hb, hml, hown, hts⟩ (c_draw l dC dI cy bs Ls xs gp ob qf (d + 1) nd nl nf 4 H.size (by first | assumption | omega) (by first | assumption | omega) (by first | assumption | omega)) (tp_cwV 1 hts tw_1015 tw_1016 tw_1017 tw_19 tw_1018 rfl rfl (by decide +kernel) ⟨Nat.le_of_ble_eq_true rfl, Nat.le_of_ble_eq_true rfl⟩) ⟨g_blind, va_recv hK (hP.one (e := .inr (9, [.ref ob, .ref bs, .int (nI (d + 1)), .int (nI nd), .int 0, .int 1, .int (nI nl), .ref (qf 0), .ref (qf 1), .ref (qf 2), .ref (qf 3), .ref (qf 4), .ref (qf 5), .ref (qf 6), .ref (qf 7), .ref (qf 8), .int (nI nf), .ref (qf 9), .int 0, .ref (qf 10), .ref (qf 11), .ref (qf 12), .ref (qf 13), .ref (qf 14), .ref (qf 15)])) 1 rfl cel_in) (ci := 9) (q0 := 0) rfl rfl, fun U hU hW => ⟨rfl, g_pay hK hPc hE hX hbl hbL hbA hS U hU hW⟩⟩ rfl rfl hl.1 rfl (lv_room (Nat.le_of_ble_eq_true rfl)) dL_law_140 ⟨(by show cells + 0 + 0 ≤ 600074; omega), (by show slots + 0 + 0 ≤ 7301550; omega)⟩) hS (fun q _ h => hFc q h) hFc (fun r_5 u t H1 locs ht hvm hpo hB hz1 hk1 hS => ?_)
  obtain rfl := hpo
  obtain ⟨z_6, f_7, f_8, hP1⟩ := hB
  rw [ht] at hP1
  have hPj := hPc.calls hk1 hFc hP1
  have hP : ms (dC, dI) vwCl A [(fun q e => TW cy K (some s0) a κ τ q e ∨ oW ob (K 0 0) (Lt 0 0) q e), cel gp (gO ob bs qf (d + 1 + 1) nd nl nf), rwW cy 24 5 (qf 0) lr lv nl, rwW cy 10 6 (qf 9) fr9 fv nf, (TW cy Lt none b κt τt)] H1 := hPj.sel [1, 0, 2, 3, 4] rfl (by decide)
  clear hPj hPc hP1 hk1 hFc
  generalize H1 = H at hP hS ⊢
  subst f_8
  have qS := f_7
  refine lv_istore (lv' := [(6, .int (nI z_6)), (5, .int (nI z_2)), (0, .ref bs), (1, .int tm), (2, .ref gp), (3, .ref ob), (4, .int sp9)]) hx hb dL_law_143 hl (by decide) rfl (fun ls hl => ?_)
  refine lx_sort C2 (by omega) (by omega) Inv hNF hnd hnl hnf hG (by omega) z_2 qL z_6 qS tm sp9 _ _ ls hP hS (lv_sub hl [2, 3, 4, 5, 6, 1, 0] rfl) ?_
  intro H locs ls d3 a3 κ3 hd3 hG3 hP hS hl
  refine lx_ask C2 (by omega) (by omega) Inv hNF hnd hnl hnf hG3 (by omega) hck Mb hM2 (by omega) hMM hwb hTt tm sp9 _ _ ls hP hS hl ?_
  intro H locs ls N em d4 a4 κ4 τ4 b4 κt4 τt4 hN1 hN6 hd4 hG4 hwb4 hTt4 hem hP hS hl
  have hck4 := hG4.chk hNF
  refine lx_links C2 (by omega) (by omega) hG4.1 hG4.2.1 (by omega) hG4.2.2.2.1 hck4 hnd hnl hnf tm sp9 (nI N) em _ _ ls hP hS hl ?_
  intro H locs ls hP hS hl
  refine lx_nodes C2 (by omega) (by omega) hG4.1 hG4.2.1 (by omega) hG4.2.2.2.1 hck4 hnd hnl hnf tm sp9 (nI N) em _ _ _ ls hP hS hl ?_
  intro H locs ls hP hS hl
  refine lx_vehs C2 (by omega) (by omega) hG4.1 hG4.2.1 (by omega) hG4.2.2.2.1 hck4 hnd hnl hnf tm sp9 (nI N) em _ _ _ _ ls hP hS hl ?_
  intro H locs ls sa y9 hy hP hS hl
  refine lx_flows C2 (by omega) (by omega) hG4.1 hG4.2.1 (by omega) hG4.2.2.2.1 hck4 hnd hnl hnf tm sp9 (nI N) em _ _ sa y9 _ _ ls hP hS hl ?_
  intro H locs ls hP hS hl
  refine lx_ends C2 (by omega) (by omega) hG4.1 hG4.2.1 (by omega) hG4.2.2.2.1 hck4 hnd hnl hnf tm sp9 (nI N) em sa y9 hy hem _ _ ls hP hS hl ?_
  intro H locs ls hP hS hl
  exact kk _ _ ls (ck + N) d4 a4 κ4 τ4 b4 κt4 τt4 (by omega) (by omega) hG4 hwb4 hTt4 (hP.sel [0, 1, 2, 3, 4] rfl (by decide)) hS hl

theorem tw_44 : Cond.code yX8_isWithin cX8_isWithin 3 (some .boolean) ∈ tp_all := tp_mem 44 (by decide +kernel) rfl
theorem tw_20 : Cond.initialized RX8 ∈ tp_all := tp_mem 20 (by decide +kernel) rfl
theorem tw_43 : Cond.static yX8_isWithin ∈ tp_all := tp_mem 43 (by decide +kernel) rfl
theorem tw_727 : Cond.fieldLink RX6 11 "Turnpike$Trails" "words" "[[J" ∈ tp_all := tp_mem 727 (by decide +kernel) rfl
theorem tw_326 : Cond.methodLink RX6 20 yJ9_max_7cf53 ∈ tp_all := tp_mem 326 (by decide +kernel) rfl
theorem tw_329 : Cond.code yJ7_copyOf_c38d5 cJ7_copyOf_c38d5 3 (some (.array .long)) ∈ tp_all := tp_mem 329 (by decide +kernel) rfl
theorem tw_327 : Cond.methodLink RX6 26 yJ7_copyOf_c38d5 ∈ tp_all := tp_mem 327 (by decide +kernel) rfl
theorem tw_328 : Cond.static yJ7_copyOf_c38d5 ∈ tp_all := tp_mem 328 (by decide +kernel) rfl
theorem te_m0 {U : State} (h : tp_E U) : va_Nw (.methodLinkNest "Turnpike$Trails" 16 yX8_isWithin "Turnpike") U := h.2.1 _ (List.mem_of_getElem? (i := 0) rfl)
theorem dX6_put_0 : decode cX6_put 0 = .ok (.iload_n 1, 1) := by decide +kernel
theorem dX6_put_1 : decode cX6_put 1 = .ok (.iconst 0, 1) := by decide +kernel
theorem dX6_put_2 : decode cX6_put 2 = .ok (.sipush 199, 3) := by decide +kernel
theorem dX6_put_5 : decode cX6_put 5 = .ok (.invokestatic 16, 3) := by decide +kernel
theorem dX6_put_8 : decode cX6_put 8 = .ok (.ifCond .eq 14, 3) := by decide +kernel
theorem dX6_put_11 : decode cX6_put 11 = .ok (.iload_n 2, 1) := by decide +kernel
theorem dX6_put_12 : decode cX6_put 12 = .ok (.iconst 0, 1) := by decide +kernel
theorem dX6_put_13 : decode cX6_put 13 = .ok (.sipush 30719, 3) := by decide +kernel
theorem dX6_put_16 : decode cX6_put 16 = .ok (.invokestatic 16, 3) := by decide +kernel
theorem dX6_put_19 : decode cX6_put 19 = .ok (.ifCond .ne 4, 3) := by decide +kernel
theorem dX6_put_23 : decode cX6_put 23 = .ok (.iload_n 2, 1) := by decide +kernel
theorem dX6_put_24 : decode cX6_put 24 = .ok (.bipush 12, 2) := by decide +kernel
theorem dX6_put_26 : decode cX6_put 26 = .ok (.idiv, 1) := by decide +kernel
theorem dX6_put_27 : decode cX6_put 27 = .ok (.istore 4, 2) := by decide +kernel
theorem dX6_put_29 : decode cX6_put 29 = .ok (.aload_n 0, 1) := by decide +kernel
theorem dX6_put_30 : decode cX6_put 30 = .ok (.getfield 11, 3) := by decide +kernel
theorem dX6_put_33 : decode cX6_put 33 = .ok (.iload_n 1, 1) := by decide +kernel
theorem dX6_put_34 : decode cX6_put 34 = .ok (.aaload, 1) := by decide +kernel
theorem dX6_put_35 : decode cX6_put 35 = .ok (.arraylength, 1) := by decide +kernel
theorem dX6_put_36 : decode cX6_put 36 = .ok (.istore 5, 2) := by decide +kernel
theorem dX6_put_38 : decode cX6_put 38 = .ok (.iload 4, 2) := by decide +kernel
theorem dX6_put_40 : decode cX6_put 40 = .ok (.iload 5, 2) := by decide +kernel
theorem dX6_put_42 : decode cX6_put 42 = .ok (.if_icmp .lt 29, 3) := by decide +kernel
theorem dX6_put_45 : decode cX6_put 45 = .ok (.aload_n 0, 1) := by decide +kernel
theorem dX6_put_46 : decode cX6_put 46 = .ok (.getfield 11, 3) := by decide +kernel
theorem dX6_put_49 : decode cX6_put 49 = .ok (.iload_n 1, 1) := by decide +kernel
theorem dX6_put_50 : decode cX6_put 50 = .ok (.aload_n 0, 1) := by decide +kernel
theorem dX6_put_51 : decode cX6_put 51 = .ok (.getfield 11, 3) := by decide +kernel
theorem dX6_put_54 : decode cX6_put 54 = .ok (.iload_n 1, 1) := by decide +kernel
theorem dX6_put_55 : decode cX6_put 55 = .ok (.aaload, 1) := by decide +kernel
theorem dX6_put_56 : decode cX6_put 56 = .ok (.iload 4, 2) := by decide +kernel
theorem dX6_put_58 : decode cX6_put 58 = .ok (.iconst 1, 1) := by decide +kernel
theorem dX6_put_59 : decode cX6_put 59 = .ok (.iadd, 1) := by decide +kernel
theorem dX6_put_60 : decode cX6_put 60 = .ok (.iconst 2, 1) := by decide +kernel
theorem dX6_put_61 : decode cX6_put 61 = .ok (.iload 5, 2) := by decide +kernel
theorem dX6_put_63 : decode cX6_put 63 = .ok (.imul, 1) := by decide +kernel
theorem dX6_put_64 : decode cX6_put 64 = .ok (.invokestatic 20, 3) := by decide +kernel
theorem dX6_put_67 : decode cX6_put 67 = .ok (.invokestatic 26, 3) := by decide +kernel
theorem dX6_put_70 : decode cX6_put 70 = .ok (.aastore, 1) := by decide +kernel
theorem dX6_put_71 : decode cX6_put 71 = .ok (.aload_n 0, 1) := by decide +kernel
theorem dX6_put_72 : decode cX6_put 72 = .ok (.getfield 11, 3) := by decide +kernel
theorem dX6_put_75 : decode cX6_put 75 = .ok (.iload_n 1, 1) := by decide +kernel
theorem dX6_put_76 : decode cX6_put 76 = .ok (.aaload, 1) := by decide +kernel
theorem dX6_put_77 : decode cX6_put 77 = .ok (.iload 4, 2) := by decide +kernel
theorem dX6_put_79 : decode cX6_put 79 = .ok (.dup2, 1) := by decide +kernel
theorem dX6_put_80 : decode cX6_put 80 = .ok (.laload, 1) := by decide +kernel
theorem dX6_put_81 : decode cX6_put 81 = .ok (.iload_n 3, 1) := by decide +kernel
theorem dX6_put_82 : decode cX6_put 82 = .ok (.i2l, 1) := by decide +kernel
theorem dX6_put_83 : decode cX6_put 83 = .ok (.iload_n 2, 1) := by decide +kernel
theorem dX6_put_84 : decode cX6_put 84 = .ok (.bipush 12, 2) := by decide +kernel
theorem dX6_put_86 : decode cX6_put 86 = .ok (.irem, 1) := by decide +kernel
theorem dX6_put_87 : decode cX6_put 87 = .ok (.iconst 5, 1) := by decide +kernel
theorem dX6_put_88 : decode cX6_put 88 = .ok (.imul, 1) := by decide +kernel
theorem dX6_put_89 : decode cX6_put 89 = .ok (.lshl, 1) := by decide +kernel
theorem dX6_put_90 : decode cX6_put 90 = .ok (.lor, 1) := by decide +kernel
theorem dX6_put_91 : decode cX6_put 91 = .ok (.lastore, 1) := by decide +kernel
theorem dX6_put_92 : decode cX6_put 92 = .ok (.return_, 1) := by decide +kernel
set_option maxRecDepth 100000 in
set_option maxHeartbeats 4000000 in
/-- Trails.put -/
theorem c_Trails_put (l : Launch) (dC : Nat → ClassId) (dI : Nat → Nat → Nat) (cy : Nat → ClassId) (L : Lay) (t0 : Nat) (a : St) (κ : Kap) (τ : Tau) (v : Nat) (vn : Int32) (pl : Int32) (nx : Int32) (x : Nat) (Bd : Nat) (gn : Nat → Nat) (lk : Nat → Nat → Nat) (sz : Nat) (hT : TL L (some t0) τ) (hv : v < 200) (hvn : vn = nI v) (hpl : pl = nI (gn v)) (hB : gn v ≤ Bd) (hB2 : Bd < 30000) (hnx : nx = nI x) (hx32 : x < 32) (hg : TRg gn lk τ) : Met l yX6_put (tp_w yX6_put cX6_put 6 none) ({ frames := 2, cells := 1, slots := 2 * (Bd / 12) + 1, locals := 40 }) (va_Pc [.ref t0, .int vn, .int pl, .int nx] (mPre dC dI cy (TW cy L ((some t0)) a κ τ) sz)) (va_Qv (fun _ : Unit => True) (fun (_ : Unit) (t : State) => ∃ (τ2 : Tau), (TL L (some t0) τ2) ∧ (TRg (fun u => if u = v then gn v + 1 else gn u) (fun u j => if u = v ∧ j = gn v then x else lk u j) τ2) ∧ mw (dC, dI) vwCl (mA (TW cy L ((some t0)) a κ τ) sz) (TW cy L ((some t0)) a κ τ2) t.heap) (mA (TW cy L ((some t0)) a κ τ) sz)) (1) (2 * (Bd / 12) + 1) (mA (TW cy L ((some t0)) a κ τ) sz) := by
  refine Met.ofW (cc := cX6_put) (maxL := 6) (ret := none) (by decide) rfl ?_
  intro p e s m args below meth c s₁ B hml hv
  obtain ⟨rfl, hsz, hP, hK, hE⟩ := hv
  have hx := B.exec
  have hb := B.bytes
  have hr := B.returns
  have hts0 := atoms_spec (ws := tp_w yX6_put cX6_put 6 none) B.pre
  have hts : ∀ w ∈ tp_all, w.before _ s = true := fun w h => hts0 w (List.mem_cons_of_mem _ h)
  have hown : s.vm.findClass RX6 = some m.cls := findClass_of_methodNamed B.named
  have hlocks := B.notSynchronized
  subst hsz
  have hP := hP.self s.heap.size
  generalize hAe : mA (TW cy L ((some t0)) a κ τ) s.heap.size = A at hP ⊢
  have hA : ∀ q : Nat, s.heap.size ≤ q → A q := fun q h => by rw [← hAe]; exact Or.inr h
  have hS : va_S A s.heap s.heap [] := va_S.rf
  have hl9 := lv_entry ([.ref t0, .int vn, .int pl, .int nx]) (n := 6) (Nat.le_of_ble_eq_true rfl)
  rw [lg_entry_eq]
  generalize (lg_sl ([.ref t0, .int vn, .int pl, .int nx]) ++ List.replicate (6 - (lg_sl ([.ref t0, .int vn, .int pl, .int nx])).length) Slot.unset).toArray = ls at hl9 ⊢
  have hl : lv_has ls 6 [(0, .ref t0), (1, .int vn), (2, .int pl), (3, .int nx)] := hl9
  have hcl : vn.toNatClampNeg = v := m_cl hvn hv (by decide)
  refine lv_iload_n hx hb dX6_put_0 rfl (lv_at hl 1 rfl) ?_
  refine lv_iconst (v := 0) hx hb dX6_put_1 (by decide) ?_
  refine lv_sipush (v := 199) hx hb dX6_put_2 (by decide) ?_
  have hFc := m_free (C := (TW cy L ((some t0)) a κ τ)) hP hS hA (fun _ _ h => h)
  refine va_calli (va_runSN (As := [.int vn, .int 0, .int 199]) (rest := []) ⟨hx, hb, hml, hown, hts⟩ (c_isWithin l dC dI cy ((TW cy L ((some t0)) a κ τ)) vn 0 199 s.heap.size) ⟨tp_cnB 3 hts (te_m0 hE) tw_20 tw_44 rfl rfl (by decide +kernel) ⟨Nat.le_of_ble_eq_true rfl, Nat.le_of_ble_eq_true rfl⟩, hts _ tw_43, trivial⟩ ⟨m_blind, fun U hU hW => ⟨rfl, m_pay hK hP hE (fun _ _ h => h) U hU hW⟩⟩ rfl rfl hl.1 rfl (lv_room (Nat.le_of_ble_eq_true rfl)) dX6_put_5 ⟨(Nat.le_of_ble_eq_true rfl), (by show 0 + 0 ≤ 2 * (Bd / 12) + 1; omega)⟩) hS (fun q _ h => hFc q h) hFc (fun r_1 u t H1 locs ht hvm hpo hB hz1 hk1 hS => ?_)
  obtain rfl := hpo
  obtain ⟨f_1, hP1⟩ := hB
  subst f_1
  rw [ht] at hP1
  have hP : mw (dC, dI) vwCl A (TW cy L ((some t0)) a κ τ) H1 := hP.join (fun _ _ h => h) hk1 hFc hP1 (fun _ _ h => Or.inl h)
  generalize H1 = H at hP hS ⊢
  clear hP1 hk1 hFc
  refine W.eq (g2 := F0 m 8 ls [.int 1]) (by rw [W_in_1 (by rw [hvn]; exact nI_pos (by omega)) (by rw [hvn]; exact nI_nlt (a := 199) (b := v) (by omega) (by decide))]) ?_
  refine lv_if_eq (tgt := 22) hx hb dX6_put_8 (by decide) (fun c_1 => absurd c_1 (by decide)) (fun _ => ?_)
  refine lv_iload_n hx hb dX6_put_11 rfl (lv_at hl 2 rfl) ?_
  refine lv_iconst (v := 0) hx hb dX6_put_12 (by decide) ?_
  refine lv_sipush (v := 30719) hx hb dX6_put_13 (by decide) ?_
  have hFc := m_free (C := (TW cy L ((some t0)) a κ τ)) hP hS hA (fun _ _ h => h)
  refine va_calli (va_runSN (As := [.int pl, .int 0, .int 30719]) (rest := []) ⟨hx, hb, hml, hown, hts⟩ (c_isWithin l dC dI cy ((TW cy L ((some t0)) a κ τ)) pl 0 30719 H.size) ⟨tp_cnB 3 hts (te_m0 hE) tw_20 tw_44 rfl rfl (by decide +kernel) ⟨Nat.le_of_ble_eq_true rfl, Nat.le_of_ble_eq_true rfl⟩, hts _ tw_43, trivial⟩ ⟨m_blind, fun U hU hW => ⟨rfl, m_pay hK hP hE (fun _ _ h => h) U hU hW⟩⟩ rfl rfl hl.1 rfl (lv_room (Nat.le_of_ble_eq_true rfl)) dX6_put_16 ⟨(Nat.le_of_ble_eq_true rfl), (by show 0 + 0 + 0 ≤ 2 * (Bd / 12) + 1; omega)⟩) hS (fun q _ h => hFc q h) hFc (fun r_2 u t H1 locs ht hvm hpo hB hz1 hk1 hS => ?_)
  obtain rfl := hpo
  obtain ⟨f_2, hP1⟩ := hB
  subst f_2
  rw [ht] at hP1
  have hP : mw (dC, dI) vwCl A (TW cy L ((some t0)) a κ τ) H1 := hP.join (fun _ _ h => h) hk1 hFc hP1 (fun _ _ h => Or.inl h)
  generalize H1 = H at hP hS ⊢
  clear hP1 hk1 hFc
  refine W.eq (g2 := F0 m 19 ls [.int 1]) (by rw [W_in_1 (by rw [hpl]; exact nI_pos (by omega)) (by rw [hpl]; exact nI_nlt (a := 30719) (b := gn v) (by omega) (by decide))]) ?_
  refine lv_if_ne (tgt := 23) hx hb dX6_put_19 (by decide) (fun _ => ?_) (fun c_2 => absurd c_2 (by decide))
  refine lv_iload_n hx hb dX6_put_23 rfl (lv_at hl 2 rfl) ?_
  refine lv_bipush (v := 12) hx hb dX6_put_24 (by decide) ?_
  refine lv_idiv hx hb dX6_put_26 (by decide) ?_
  refine W.eq (g2 := F0 m 27 ls [.int (nI (gn v / 12))]) (by rw [hpl]; exact congrArg (fun z => F0 m _ ls [Value.int z]) (pk_div (a := gn v) (d := 12) (by omega) (by decide) (by decide))) ?_
  refine lv_istore (lv' := [(4, .int (nI (gn v / 12))), (0, .ref t0), (1, .int vn), (2, .int pl), (3, .int nx)]) hx hb dX6_put_27 hl (by decide) rfl (fun ls hl => ?_)
  refine lv_aload_n hx hb dX6_put_29 rfl (lv_at hl 1 rfl) ?_
  refine va_get (D := (dC, dI)) (ws := [(t0, .inr (6, [.ref τ.1]))]) (ci := 6) (v := .ref τ.1) (C := RX6) (T := TX6) (N := 1) hx hb hts tl_X6 hown hK (hP.one tr_t) 0 rfl rfl 0 (by decide) (hts _ tw_727) (fun _ h9 => h9) rfl dX6_put_30 ?_
  refine lv_iload_n hx hb dX6_put_33 rfl (lv_at hl 2 rfl) ?_
  refine m_aldA hx hb hK (ws := [(τ.1, .inl (cy 9, 200, .inr (.inr (.inr (.inr (fun v => some (τ.2.1 v)))))))]) (hP.one tr_w) 0 9 rfl rfl (m_in hvn hv (by decide)) dX6_put_34 ?_
  refine W.eq (g2 := F0 m 35 ls [.ref (τ.2.1 v)]) (by rw [hcl]; rfl) ?_
  refine va_alen hx hb hK (ws := [(τ.2.1 v, .inl (cy 1, (τ.2.2.1 v), .inr (.inl (τ.2.2.2 v))))]) (hP.one (tr_r hv)) 0 1 rfl rfl (v := nI (τ.2.2.1 v)) rfl dX6_put_35 ?_
  refine lv_istore (lv' := [(5, .int (nI (τ.2.2.1 v))), (4, .int (nI (gn v / 12))), (0, .ref t0), (1, .int vn), (2, .int pl), (3, .int nx)]) hx hb dX6_put_36 hl (by decide) rfl (fun ls hl => ?_)
  obtain ⟨g1, g2, g3, g4⟩ := hg v hv
  suffices htail : ∀ (τ1 : Tau), TL L (some t0) τ1 → TRg gn lk τ1 → gn v / 12 < τ1.2.2.1 v → ∀ ls : Array Slot, lv_has ls 6 [(4, .int (nI (gn v / 12))), (0, .ref t0), (1, .int vn), (2, .int pl), (3, .int nx)] → ∀ (H : Heap) (locs : List Loc), mw (dC, dI) vwCl A (TW cy L (some t0) a κ τ1) H → va_S A s.heap H locs → W p l e _ s m _ below meth c H locs 1 (2 * (Bd / 12) + 1) _ (F0 m 71 ls []) by
    refine lv_iload hx hb dX6_put_38 (lv_at hl 1 rfl) ?_
    refine lv_iload hx hb dX6_put_40 (lv_at hl 0 rfl) ?_
    refine lv_icmp_lt (tgt := 71) hx hb dX6_put_42 (by decide) (fun c_3 => ?_) (fun c_3 => ?_)
    · refine W.widen (k := 1) (n := 2 * (Bd / 12) + 1) (by omega) (by omega) ?_
      exact htail τ hT hg ((nI_ltI (by omega) (by omega)).mp c_3) ls (lv_sub hl [1, 2, 3, 4, 5] rfl) _ _ hP hS
    · have hlen : τ.2.2.1 v ≤ gn v / 12 := Nat.le_of_not_lt fun h9 => c_3 ((nI_ltI (by omega) (by omega)).mpr h9)
      refine lv_aload_n hx hb dX6_put_45 rfl (lv_at hl 2 rfl) ?_
      refine va_get (D := (dC, dI)) (ws := [(t0, .inr (6, [.ref τ.1]))]) (ci := 6) (v := .ref τ.1) (C := RX6) (T := TX6) (N := 1) hx hb hts tl_X6 hown hK (hP.one tr_t) 0 rfl rfl 0 (by decide) (hts _ tw_727) (fun _ h9 => h9) rfl dX6_put_46 ?_
      refine lv_iload_n hx hb dX6_put_49 rfl (lv_at hl 3 rfl) ?_
      refine lv_aload_n hx hb dX6_put_50 rfl (lv_at hl 2 rfl) ?_
      refine va_get (D := (dC, dI)) (ws := [(t0, .inr (6, [.ref τ.1]))]) (ci := 6) (v := .ref τ.1) (C := RX6) (T := TX6) (N := 1) hx hb hts tl_X6 hown hK (hP.one tr_t) 0 rfl rfl 0 (by decide) (hts _ tw_727) (fun _ h9 => h9) rfl dX6_put_51 ?_
      refine lv_iload_n hx hb dX6_put_54 rfl (lv_at hl 3 rfl) ?_
      refine m_aldA hx hb hK (ws := [(τ.1, .inl (cy 9, 200, .inr (.inr (.inr (.inr (fun v => some (τ.2.1 v)))))))]) (hP.one tr_w) 0 9 rfl rfl (m_in hvn hv (by decide)) dX6_put_55 ?_
      refine W.eq (g2 := F0 m 56 ls [.ref (τ.2.1 v), .int vn, .ref τ.1]) (by rw [hcl]; rfl) ?_
      refine lv_iload hx hb dX6_put_56 (lv_at hl 1 rfl) ?_
      refine lv_iconst (v := 1) hx hb dX6_put_58 (by decide) ?_
      refine lv_iadd hx hb dX6_put_59 ?_
      refine lv_iconst (v := 2) hx hb dX6_put_60 (by decide) ?_
      refine lv_iload hx hb dX6_put_61 (lv_at hl 0 rfl) ?_
      refine lv_imul hx hb dX6_put_63 ?_
      refine va_mmax hx hb (hml.trans hl.1.symm) hown (hts _ tw_326) (hts _ tw_292) (hts _ tw_25) (hts _ tw_293) (Nat.le_of_ble_eq_true rfl) (Nat.le_of_ble_eq_true rfl) (Nat.le_of_ble_eq_true rfl) (by show 0 + 0 + 0 + 0 ≤ 2 * (Bd / 12) + 1; omega) dX6_put_64 ?_
      obtain ⟨n9, hn9, hn1, hn2⟩ : ∃ n9 : Nat, (if ((nI (gn v / 12)) + 1) < (2 * (nI (τ.2.2.1 v))) then (2 * (nI (τ.2.2.1 v))) else ((nI (gn v / 12)) + 1)) = nI n9 ∧ τ.2.2.1 v < n9 ∧ n9 ≤ 2 * (gn v / 12) + 1 := by
        rw [nI_1, show (2 : Int32) * nI (τ.2.2.1 v) = nI (2 * τ.2.2.1 v) from pk_mul 2 _]
        split
        · exact ⟨_, rfl, by omega, by omega⟩
        · exact ⟨_, rfl, by omega, by omega⟩
      refine W.eq (g2 := F0 m 67 ls [.int (nI n9), .ref (τ.2.1 v), .int vn, .ref τ.1]) (by rw [hn9]) ?_
      have hFc := m_free (C := (TW cy L ((some t0)) a κ τ)) hP hS hA (fun _ _ h => h)
      refine va_callr (va_runS (As := [.ref (τ.2.1 v), .int (nI n9)]) (rest := [.int vn, .ref τ.1]) ⟨hx, hb, hml, hown, hts⟩ (c_copyOf l dC dI cy ((TW cy L ((some t0)) a κ τ)) (τ.2.1 v) (τ.2.2.1 v) (τ.2.2.2 v) (nI n9) H.size (tr_r hv) (by omega) (nI_pos (by omega)) (by rw [nI_clamp (by omega)]; exact hn1) (by rw [nI_clamp (by omega)]; omega)) (tp_cwS 2 hts tw_327 tw_328 tw_37 tw_329 rfl rfl (by decide +kernel) ⟨Nat.le_of_ble_eq_true rfl, Nat.le_of_ble_eq_true rfl⟩) ⟨m_blind, fun U hU hW => ⟨rfl, m_pay hK hP hE (fun _ _ h => h) U hU hW⟩⟩ rfl rfl hl.1 rfl (lv_room (Nat.le_of_ble_eq_true rfl)) dX6_put_67 ⟨(Nat.le_of_ble_eq_true rfl), (by show 0 + 0 + 0 + ((nI n9).toNatClampNeg) ≤ 2 * (Bd / 12) + 1; rw [nI_clamp (by omega)]; omega)⟩) hS (fun q _ h => hFc q h) hFc (fun u r_3 t H1 locs ht hvm hpo hB hz1 hk1 hS => ?_)
      obtain ⟨f_3, hP1⟩ := hB
      rw [ht] at hP1
      have hP : mw (dC, dI) vwCl A (madd ((TW cy L ((some t0)) a κ τ)) r_3 (.inl (cy 1, (nI n9).toNatClampNeg, .inr (.inl (va_cpy (τ.2.2.2 v) (fun _ => 0) 0 0 (τ.2.2.1 v)))))) H1 := hP.join (fun _ _ h => h) hk1 hFc hP1 (fun _ _ h => Or.inl h)
      generalize H1 = H at hP hS ⊢
      clear hP1 hk1 hFc
      rw [nI_clamp (by omega)] at hP
      obtain ⟨ws9, k9, hPw, hDw, hk9, hin9, hbk⟩ := hP.cut (e := .inl (cy 9, 200, .inr (.inr (.inr (.inr (fun v => some (τ.2.1 v))))))) (Or.inl tr_w)
      obtain ⟨k8, hk8⟩ := hin9 r_3 (.inl (cy 1, n9, .inr (.inl (va_cpy (τ.2.2.2 v) (fun _ => 0) 0 0 (τ.2.2.1 v))))) (Or.inr ⟨rfl, rfl⟩)
      refine m_astA hx hb hK hPw hDw hS k9 9 k8 1 hk9 rfl hk8 rfl (hE.2.2.2 _ (List.mem_of_getElem? (i := 1) rfl)) (by decide +kernel) (fun h => h) (m_in hvn hv (by decide)) dX6_put_70 (fun H locs hPw hDw hS => ?_)
      rw [hcl] at hPw hDw
      obtain ⟨τ1, hτ1⟩ : ∃ y : Tau, y = (τ.1, (fun u => if u = v then r_3 else τ.2.1 u), (fun u => if u = v then n9 else τ.2.2.1 u), fun u => if u = v then va_cpy (τ.2.2.2 v) (fun _ => 0) 0 0 (τ.2.2.1 v) else τ.2.2.2 u) := ⟨_, rfl⟩
      obtain ⟨hP, hT1⟩ := tr_setR hT hv f_3 hτ1 (hbk _ _ hPw hDw)
      have hg1 := hg.grow hτ1 (by omega) hn2 (fun j hj => (pk_cpy_in (Nat.zero_le j) (by rw [Nat.zero_add]; exact hj)).trans (by rw [Nat.zero_add, Nat.sub_zero])) (fun j hj _ => pk_cpy_out (Or.inr (by rw [Nat.zero_add]; exact hj)))
      refine W.widen (k := 1) (n := 2 * (Bd / 12) + 1) (by omega) (by show 0 + 0 + 0 + ((nI n9).toNatClampNeg) ≤ _; rw [nI_clamp (by omega)]; omega) ?_
      exact htail τ1 hT1 hg1 (by rw [hτ1]; show gn v / 12 < if v = v then n9 else _; rw [if_pos rfl]; omega) ls (lv_sub hl [1, 2, 3, 4, 5] rfl) _ _ hP hS
  clear hP hS hl ls hl9 g1 g2 g3 g4
  intro τ1 hT1 hg1 hj ls hl H locs hP hS
  obtain ⟨g1, g2, g3, g4⟩ := hg1 v hv
  obtain ⟨W9, hW1, hW2, hW3⟩ := g4 _ hj
  rw [show min 12 (gn v - 12 * (gn v / 12)) = gn v % 12 by omega] at hW2
  refine lv_aload_n hx hb dX6_put_71 rfl (lv_at hl 1 rfl) ?_
  refine va_get (D := (dC, dI)) (ws := [(t0, .inr (6, [.ref τ1.1]))]) (ci := 6) (v := .ref τ1.1) (C := RX6) (T := TX6) (N := 1) hx hb hts tl_X6 hown hK (hP.one tr_t) 0 rfl rfl 0 (by decide) (hts _ tw_727) (fun _ h9 => h9) rfl dX6_put_72 ?_
  refine lv_iload_n hx hb dX6_put_75 rfl (lv_at hl 2 rfl) ?_
  refine m_aldA hx hb hK (ws := [(τ1.1, .inl (cy 9, 200, .inr (.inr (.inr (.inr (fun v => some (τ1.2.1 v)))))))]) (hP.one tr_w) 0 9 rfl rfl (m_in hvn hv (by decide)) dX6_put_76 ?_
  refine W.eq (g2 := F0 m 77 ls [.ref (τ1.2.1 v)]) (by rw [hcl]; rfl) ?_
  refine lv_iload hx hb dX6_put_77 (lv_at hl 0 rfl) ?_
  refine lv_dup2_11 hx hb dX6_put_79 rfl rfl ?_
  have hcj : (nI (gn v / 12)).toNatClampNeg = gn v / 12 := nI_clamp (by omega)
  refine va_lald hx hb hK (ws := [(τ1.2.1 v, .inl (cy 1, (τ1.2.2.1 v), .inr (.inl (τ1.2.2.2 v))))]) (hP.one (tr_r hv)) 0 1 rfl rfl (vp_in_nI hj (by omega)) dX6_put_80 ?_
  refine W.eq (g2 := F0 m 81 ls [.long (lN W9), .int (nI (gn v / 12)), .ref (τ1.2.1 v)]) (by rw [hcj, hW1]) ?_
  refine lv_iload_n hx hb dX6_put_81 rfl (lv_at hl 4 rfl) ?_
  refine lv_i2l (v := lN x) hx hb dX6_put_82 (by rw [hnx]; exact nI_l (by omega)) ?_
  refine lv_iload_n hx hb dX6_put_83 rfl (lv_at hl 3 rfl) ?_
  refine lv_bipush (v := 12) hx hb dX6_put_84 (by decide) ?_
  refine lv_irem hx hb dX6_put_86 (by decide) ?_
  refine W.eq (g2 := F0 m 87 ls [.int (nI (gn v % 12)), .long (lN x), .long (lN W9), .int (nI (gn v / 12)), .ref (τ1.2.1 v)]) (by rw [hpl, show nI (gn v) - nI (gn v) / 12 * 12 = nI (gn v % 12) from pk_rem (a := gn v) (d := 12) (by omega) (by decide) (by decide)]) ?_
  refine lv_iconst (v := 5) hx hb dX6_put_87 (by decide) ?_
  refine lv_imul hx hb dX6_put_88 ?_
  refine W.eq (g2 := F0 m 89 ls [.int (nI (gn v % 12 * 5)), .long (lN x), .long (lN W9), .int (nI (gn v / 12)), .ref (τ1.2.1 v)]) (by rw [show nI (gn v % 12) * 5 = nI (gn v % 12 * 5) from pk_mul _ 5]) ?_
  refine lv_lshl (v := lN (x * 2 ^ (gn v % 12 * 5))) hx hb dX6_put_89 (wb_shl x (by omega)) ?_
  refine lv_lor hx hb dX6_put_90 ?_
  have hb60 : W9 + x * 32 ^ (gn v % 12) < 2 ^ 64 := by
    have h1 := W_put hW2 hx32
    have h2 := p32_60 (show gn v % 12 + 1 ≤ 12 by omega)
    omega
  refine W.eq (g2 := F0 m 91 ls [.long (lN (W9 + x * 32 ^ (gn v % 12))), .int (nI (gn v / 12)), .ref (τ1.2.1 v)]) (by rw [p32_5, g_or' (p32_5 _) hW2 hb60]) ?_
  obtain ⟨ws9, k9, hPw, hDw, hk9, -, hbk⟩ := hP.cut (e := .inl (cy 1, (τ1.2.2.1 v), .inr (.inl (τ1.2.2.2 v)))) (tr_r hv)
  refine va_last hx hb hK hPw hDw hS k9 1 hk9 rfl (vp_in_nI hj (by omega)) dX6_put_91 (fun H locs hPw hDw hS => ?_)
  rw [hcj] at hPw hDw
  obtain ⟨τ2, hτ2⟩ : ∃ y : Tau, y = (τ1.1, τ1.2.1, τ1.2.2.1, fun u => if u = v then vp_updL (τ1.2.2.2 v) (gn v / 12) (lN (W9 + x * 32 ^ (gn v % 12))) else τ1.2.2.2 u) := ⟨_, rfl⟩
  have hP : mw (dC, dI) vwCl A (TW cy L (some t0) a κ τ2) H := (hbk _ _ hPw hDw).sub (tr_setW hT1 hv hτ2)
  have hT2 : TL L (some t0) τ2 := by rw [hτ2]; exact hT1
  have hg2 := hg1.put hx32 hj hW1 hW2 hW3 hτ2
  exact W.vret hx hb hr (fun t9 ht hW => ⟨⟨(), rfl, trivial, τ2, hT2, hg2, by show mw _ _ _ _ t9.heap; rw [ht]; exact hP⟩, hS.F ht⟩) hS.2.2 dX6_put_92

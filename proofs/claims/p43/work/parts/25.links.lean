theorem tw_263 : Cond.code yJ9_floorMod_7cf53 cJ9_floorMod_7cf53 3 (some .int) ∈ tp_all := tp_mem 263 (by decide +kernel) rfl
theorem tw_261 : Cond.methodLink RX5 149 yJ9_floorMod_7cf53 ∈ tp_all := tp_mem 261 (by decide +kernel) rfl
theorem tw_262 : Cond.static yJ9_floorMod_7cf53 ∈ tp_all := tp_mem 262 (by decide +kernel) rfl
theorem tw_267 : Cond.code yX4_isGreen cX4_isGreen 2 (some .boolean) ∈ tp_all := tp_mem 267 (by decide +kernel) rfl
theorem tw_264 : Cond.methodLink RX5 162 yX4_isGreen ∈ tp_all := tp_mem 264 (by decide +kernel) rfl
theorem tw_265 : Cond.instanceMethod yX4_isGreen ∈ tp_all := tp_mem 265 (by decide +kernel) rfl
theorem tw_266 : Cond.selects RX4 yX4_isGreen yX4_isGreen ∈ tp_all := tp_mem 266 (by decide +kernel) rfl
theorem tw_272 : Cond.code yX5_firstGoesOn cX5_firstGoesOn 5 (some .boolean) ∈ tp_all := tp_mem 272 (by decide +kernel) rfl
theorem tw_269 : Cond.methodLink RX5 168 yX5_firstGoesOn ∈ tp_all := tp_mem 269 (by decide +kernel) rfl
theorem tw_271 : Cond.instanceMethod yX5_firstGoesOn ∈ tp_all := tp_mem 271 (by decide +kernel) rfl
theorem tw_7 : Cond.selects RX5 yX5_firstGoesOn yX5_firstGoesOn ∈ tp_all := tp_mem 7 (by decide +kernel) rfl
theorem te_f26 {U : State} (h : tp_E U) : va_Nw (.fieldLinkNest "Turnpike$Traffic" 146 "Turnpike$Roads" "links" "I" "Turnpike") U := h.1 _ (List.mem_of_getElem? (i := 26) rfl)
theorem te_f24 {U : State} (h : tp_E U) : va_Nw (.fieldLinkNest "Turnpike$Traffic" 155 "Turnpike$Roads" "link" "[LTurnpike$Link;" "Turnpike") U := h.1 _ (List.mem_of_getElem? (i := 24) rfl)
theorem te_f10 {U : State} (h : tp_E U) : va_Nw (.fieldLinkNest "Turnpike$Traffic" 165 "Turnpike$Link" "rate" "I" "Turnpike") U := h.1 _ (List.mem_of_getElem? (i := 10) rfl)
theorem dX5_driveOnLinks_0 : decode cX5_driveOnLinks 0 = .ok (.aload_n 0, 1) := by decide +kernel
theorem dX5_driveOnLinks_1 : decode cX5_driveOnLinks 1 = .ok (.getfield 12, 3) := by decide +kernel
theorem dX5_driveOnLinks_4 : decode cX5_driveOnLinks 4 = .ok (.getfield 146, 3) := by decide +kernel
theorem dX5_driveOnLinks_7 : decode cX5_driveOnLinks 7 = .ok (.istore_n 1, 1) := by decide +kernel
theorem dX5_driveOnLinks_8 : decode cX5_driveOnLinks 8 = .ok (.iload_n 1, 1) := by decide +kernel
theorem dX5_driveOnLinks_9 : decode cX5_driveOnLinks 9 = .ok (.iconst 1, 1) := by decide +kernel
theorem dX5_driveOnLinks_10 : decode cX5_driveOnLinks 10 = .ok (.if_icmp .ge 4, 3) := by decide +kernel
theorem dX5_driveOnLinks_14 : decode cX5_driveOnLinks 14 = .ok (.aload_n 0, 1) := by decide +kernel
theorem dX5_driveOnLinks_15 : decode cX5_driveOnLinks 15 = .ok (.getfield 65, 3) := by decide +kernel
theorem dX5_driveOnLinks_18 : decode cX5_driveOnLinks 18 = .ok (.iload_n 1, 1) := by decide +kernel
theorem dX5_driveOnLinks_19 : decode cX5_driveOnLinks 19 = .ok (.invokestatic 149, 3) := by decide +kernel
theorem dX5_driveOnLinks_22 : decode cX5_driveOnLinks 22 = .ok (.istore_n 2, 1) := by decide +kernel
theorem dX5_driveOnLinks_23 : decode cX5_driveOnLinks 23 = .ok (.iconst 0, 1) := by decide +kernel
theorem dX5_driveOnLinks_24 : decode cX5_driveOnLinks 24 = .ok (.istore_n 3, 1) := by decide +kernel
theorem dX5_driveOnLinks_25 : decode cX5_driveOnLinks 25 = .ok (.iload_n 3, 1) := by decide +kernel
theorem dX5_driveOnLinks_26 : decode cX5_driveOnLinks 26 = .ok (.iload_n 1, 1) := by decide +kernel
theorem dX5_driveOnLinks_27 : decode cX5_driveOnLinks 27 = .ok (.if_icmp .ge 102, 3) := by decide +kernel
theorem dX5_driveOnLinks_129 : decode cX5_driveOnLinks 129 = .ok (.return_, 1) := by decide +kernel
theorem dX5_driveOnLinks_30 : decode cX5_driveOnLinks 30 = .ok (.iload_n 2, 1) := by decide +kernel
theorem dX5_driveOnLinks_31 : decode cX5_driveOnLinks 31 = .ok (.iload_n 3, 1) := by decide +kernel
theorem dX5_driveOnLinks_32 : decode cX5_driveOnLinks 32 = .ok (.iadd, 1) := by decide +kernel
theorem dX5_driveOnLinks_33 : decode cX5_driveOnLinks 33 = .ok (.iload_n 1, 1) := by decide +kernel
theorem dX5_driveOnLinks_34 : decode cX5_driveOnLinks 34 = .ok (.if_icmp .ge 9, 3) := by decide +kernel
theorem dX5_driveOnLinks_43 : decode cX5_driveOnLinks 43 = .ok (.iload_n 2, 1) := by decide +kernel
theorem dX5_driveOnLinks_44 : decode cX5_driveOnLinks 44 = .ok (.iload_n 3, 1) := by decide +kernel
theorem dX5_driveOnLinks_45 : decode cX5_driveOnLinks 45 = .ok (.iadd, 1) := by decide +kernel
theorem dX5_driveOnLinks_46 : decode cX5_driveOnLinks 46 = .ok (.iload_n 1, 1) := by decide +kernel
theorem dX5_driveOnLinks_47 : decode cX5_driveOnLinks 47 = .ok (.isub, 1) := by decide +kernel
theorem dX5_driveOnLinks_48 : decode cX5_driveOnLinks 48 = .ok (.istore 4, 2) := by decide +kernel
theorem dX5_driveOnLinks_37 : decode cX5_driveOnLinks 37 = .ok (.iload_n 2, 1) := by decide +kernel
theorem dX5_driveOnLinks_38 : decode cX5_driveOnLinks 38 = .ok (.iload_n 3, 1) := by decide +kernel
theorem dX5_driveOnLinks_39 : decode cX5_driveOnLinks 39 = .ok (.iadd, 1) := by decide +kernel
theorem dX5_driveOnLinks_40 : decode cX5_driveOnLinks 40 = .ok (.goto 8, 3) := by decide +kernel
theorem dX5_driveOnLinks_50 : decode cX5_driveOnLinks 50 = .ok (.aload_n 0, 1) := by decide +kernel
theorem dX5_driveOnLinks_51 : decode cX5_driveOnLinks 51 = .ok (.getfield 12, 3) := by decide +kernel
theorem dX5_driveOnLinks_54 : decode cX5_driveOnLinks 54 = .ok (.getfield 155, 3) := by decide +kernel
theorem dX5_driveOnLinks_57 : decode cX5_driveOnLinks 57 = .ok (.iload 4, 2) := by decide +kernel
theorem dX5_driveOnLinks_59 : decode cX5_driveOnLinks 59 = .ok (.aaload, 1) := by decide +kernel
theorem dX5_driveOnLinks_60 : decode cX5_driveOnLinks 60 = .ok (.astore 5, 2) := by decide +kernel
theorem dX5_driveOnLinks_62 : decode cX5_driveOnLinks 62 = .ok (.aload_n 0, 1) := by decide +kernel
theorem dX5_driveOnLinks_63 : decode cX5_driveOnLinks 63 = .ok (.getfield 20, 3) := by decide +kernel
theorem dX5_driveOnLinks_66 : decode cX5_driveOnLinks 66 = .ok (.aload 5, 2) := by decide +kernel
theorem dX5_driveOnLinks_68 : decode cX5_driveOnLinks 68 = .ok (.getfield 159, 3) := by decide +kernel
theorem dX5_driveOnLinks_71 : decode cX5_driveOnLinks 71 = .ok (.aaload, 1) := by decide +kernel
theorem dX5_driveOnLinks_72 : decode cX5_driveOnLinks 72 = .ok (.iload 4, 2) := by decide +kernel
theorem dX5_driveOnLinks_74 : decode cX5_driveOnLinks 74 = .ok (.invokevirtual 162, 3) := by decide +kernel
theorem dX5_driveOnLinks_77 : decode cX5_driveOnLinks 77 = .ok (.ifCond .eq 11, 3) := by decide +kernel
theorem dX5_driveOnLinks_88 : decode cX5_driveOnLinks 88 = .ok (.iconst 0, 1) := by decide +kernel
theorem dX5_driveOnLinks_89 : decode cX5_driveOnLinks 89 = .ok (.istore 6, 2) := by decide +kernel
theorem dX5_driveOnLinks_80 : decode cX5_driveOnLinks 80 = .ok (.aload 5, 2) := by decide +kernel
theorem dX5_driveOnLinks_82 : decode cX5_driveOnLinks 82 = .ok (.getfield 165, 3) := by decide +kernel
theorem dX5_driveOnLinks_85 : decode cX5_driveOnLinks 85 = .ok (.goto 4, 3) := by decide +kernel
theorem dX5_driveOnLinks_91 : decode cX5_driveOnLinks 91 = .ok (.iconst 1, 1) := by decide +kernel
theorem dX5_driveOnLinks_92 : decode cX5_driveOnLinks 92 = .ok (.istore 7, 2) := by decide +kernel
theorem dX5_driveOnLinks_94 : decode cX5_driveOnLinks 94 = .ok (.iconst 0, 1) := by decide +kernel
theorem dX5_driveOnLinks_95 : decode cX5_driveOnLinks 95 = .ok (.istore 8, 2) := by decide +kernel
theorem dX5_driveOnLinks_97 : decode cX5_driveOnLinks 97 = .ok (.iload 7, 2) := by decide +kernel
theorem dX5_driveOnLinks_99 : decode cX5_driveOnLinks 99 = .ok (.ifCond .eq 24, 3) := by decide +kernel
theorem dX5_driveOnLinks_123 : decode cX5_driveOnLinks 123 = .ok (.iinc 3 1, 3) := by decide +kernel
theorem dX5_driveOnLinks_126 : decode cX5_driveOnLinks 126 = .ok (.goto (-101), 3) := by decide +kernel
theorem dX5_driveOnLinks_102 : decode cX5_driveOnLinks 102 = .ok (.iload 8, 2) := by decide +kernel
theorem dX5_driveOnLinks_104 : decode cX5_driveOnLinks 104 = .ok (.iload 6, 2) := by decide +kernel
theorem dX5_driveOnLinks_106 : decode cX5_driveOnLinks 106 = .ok (.if_icmp .ge 17, 3) := by decide +kernel
theorem dX5_driveOnLinks_109 : decode cX5_driveOnLinks 109 = .ok (.aload_n 0, 1) := by decide +kernel
theorem dX5_driveOnLinks_110 : decode cX5_driveOnLinks 110 = .ok (.aload 5, 2) := by decide +kernel
theorem dX5_driveOnLinks_112 : decode cX5_driveOnLinks 112 = .ok (.invokevirtual 168, 3) := by decide +kernel
theorem dX5_driveOnLinks_115 : decode cX5_driveOnLinks 115 = .ok (.istore 7, 2) := by decide +kernel
theorem dX5_driveOnLinks_117 : decode cX5_driveOnLinks 117 = .ok (.iinc 8 1, 3) := by decide +kernel
theorem dX5_driveOnLinks_120 : decode cX5_driveOnLinks 120 = .ok (.goto (-23), 3) := by decide +kernel
theorem dX5_driveOnLinks_13 : decode cX5_driveOnLinks 13 = .ok (.return_, 1) := by decide +kernel
set_option maxRecDepth 100000 in
set_option maxHeartbeats 4000000 in
/-- Traffic.driveOnLinks -/
theorem c_Traffic_driveOnLinks (l : Launch) (dC : Nat → ClassId) (dI : Nat → Nat → Nat) (cy : Nat → ClassId) (L : Lay) (tr : Option Nat) (a : St) (κ : Kap) (τ : Tau) (M : Nat) (Bd : Nat) (sz : Nat) (hT : TL L tr τ) (hw : Wf M a) (hh : Hid L tr a κ τ) (hMB : M + 72 ≤ Bd) (hck : 0 ≤ (a 0 0 0).toInt) (hB2 : Bd < 30000) : Met l yX5_driveOnLinks (tp_w yX5_driveOnLinks cX5_driveOnLinks 9 none) ({ frames := 5, cells := 72 * cT tr, slots := 72 * pB tr Bd, locals := 123 }) (va_Pc [.ref (L 0 0)] (mPre dC dI cy (TW cy L tr a κ τ) sz)) (va_Qv (fun _ : Unit => True) (fun (_ : Unit) (t : State) => ∃ (κ2 : Kap), ∃ (τ2 : Tau), (Hid L tr (T_links a) κ2 τ2) ∧ mw (dC, dI) vwCl (mA (TW cy L tr a κ τ) sz) (TW cy L tr (T_links a) κ2 τ2) t.heap) (mA (TW cy L tr a κ τ) sz)) (72 * cT tr) (72 * pB tr Bd) (mA (TW cy L tr a κ τ) sz) := by
  refine Met.ofW (cc := cX5_driveOnLinks) (maxL := 9) (ret := none) (by decide) rfl ?_
  intro p e s m args below meth c s₁ B hml hv
  obtain ⟨rfl, hsz, hP, hK, hE⟩ := hv
  have hx := B.exec
  have hb := B.bytes
  have hr := B.returns
  have hts0 := atoms_spec (ws := tp_w yX5_driveOnLinks cX5_driveOnLinks 9 none) B.pre
  have hts : ∀ w ∈ tp_all, w.before _ s = true := fun w h => hts0 w (List.mem_cons_of_mem _ h)
  have hown : s.vm.findClass RX5 = some m.cls := findClass_of_methodNamed B.named
  have hlocks := B.notSynchronized
  subst hsz
  have hP := hP.self s.heap.size
  generalize hAe : mA (TW cy L tr a κ τ) s.heap.size = A at hP ⊢
  have hA : ∀ q : Nat, s.heap.size ≤ q → A q := fun q h => by rw [← hAe]; exact Or.inr h
  have hS : va_S A s.heap s.heap [] := va_S.rf
  have hl9 := lv_entry ([.ref (L 0 0)]) (n := 9) (Nat.le_of_ble_eq_true rfl)
  rw [lg_entry_eq]
  generalize (lg_sl ([.ref (L 0 0)]) ++ List.replicate (9 - (lg_sl ([.ref (L 0 0)])).length) Slot.unset).toArray = ls at hl9 ⊢
  have hl : lv_has ls 9 [(0, .ref (L 0 0))] := hl9
  refine lv_aload_n hx hb dX5_driveOnLinks_0 rfl (lv_at hl 0 rfl) ?_
  refine va_get (D := (dC, dI)) (ws := [(L 0 0, .inr (5, [.ref (L 1 0), .ref (L 20 0), .ref (L 21 0), .ref (L 22 0), .ref (L 23 0), va_rf tr, .int ((a 0 0) 0), .int ((a 0 0) 1), .int ((a 0 0) 2), .int ((a 0 0) 3), .int ((a 0 0) 4), .int ((a 0 0) 5)]))]) (ci := 5) (v := .ref (L 1 0)) (C := RX5) (T := TX5) (N := 12) hx hb hts tl_X5 hown hK (hP.one (tw_mem (f := 0) (i := 0) (by decide) rfl)) 0 rfl rfl 0 (by decide) (hts _ tw_873) (fun _ h9 => h9) rfl dX5_driveOnLinks_1 ?_
  refine va_getN (D := (dC, dI)) (ws := [(L 1 0, .inr (2, [.ref (L 24 0), .int ((a 1 0) 0), .ref (L 25 0), .int κ.1]))]) (ci := 2) (v := .int ((a 1 0) 0)) (C := RX2) (T := TX2) (N := 4) hx hb hts tl_X2 hown hK (hP.one (tw_mem (f := 1) (i := 0) (by decide) rfl)) 0 rfl rfl 1 (by decide) (va_Nw.use rfl (te_f26 hE)) (fun _ h9 => h9) rfl dX5_driveOnLinks_4 ?_
  refine lv_istore_n (lv' := [(1, .int ((a 1 0) 0)), (0, .ref (L 0 0))]) hx hb dX5_driveOnLinks_7 rfl hl (by decide) rfl (fun ls hl => ?_)
  refine lv_iload_n hx hb dX5_driveOnLinks_8 rfl (lv_at hl 0 rfl) ?_
  refine lv_iconst (v := 1) hx hb dX5_driveOnLinks_9 (by decide) ?_
  refine lv_icmp_ge (tgt := 14) hx hb dX5_driveOnLinks_10 (by decide) (fun c_1 => ?_) (fun c_1 => ?_)
  · refine lv_aload_n hx hb dX5_driveOnLinks_14 rfl (lv_at hl 1 rfl) ?_
    refine va_get (D := (dC, dI)) (ws := [(L 0 0, .inr (5, [.ref (L 1 0), .ref (L 20 0), .ref (L 21 0), .ref (L 22 0), .ref (L 23 0), va_rf tr, .int ((a 0 0) 0), .int ((a 0 0) 1), .int ((a 0 0) 2), .int ((a 0 0) 3), .int ((a 0 0) 4), .int ((a 0 0) 5)]))]) (ci := 5) (v := .int ((a 0 0) 0)) (C := RX5) (T := TX5) (N := 12) hx hb hts tl_X5 hown hK (hP.one (tw_mem (f := 0) (i := 0) (by decide) rfl)) 0 rfl rfl 6 (by decide) (hts _ tw_885) (fun _ h9 => h9) rfl dX5_driveOnLinks_15 ?_
    refine lv_iload_n hx hb dX5_driveOnLinks_18 rfl (lv_at hl 0 rfl) ?_
    have hFc := m_free (C := (TW cy L tr a κ τ)) hP hS hA (fun _ _ h => h)
    refine va_calli (va_runS (As := [.int ((a 0 0) 0), .int ((a 1 0) 0)]) (rest := []) ⟨hx, hb, hml, hown, hts⟩ (c_floorMod l dC dI cy ((TW cy L tr a κ τ)) ((a 0 0) 0) ((a 1 0) 0) s.heap.size (fun h => by rw [h] at c_1; exact absurd c_1 (by decide))) (tp_cwS 2 hts tw_261 tw_262 tw_25 tw_263 rfl rfl (by decide +kernel) ⟨Nat.le_of_ble_eq_true rfl, Nat.le_of_ble_eq_true rfl⟩) ⟨m_blind, fun U hU hW => ⟨rfl, m_pay hK hP hE (fun _ _ h => h) U hU hW⟩⟩ rfl rfl hl.1 rfl (lv_room (Nat.le_of_ble_eq_true rfl)) dX5_driveOnLinks_19 ⟨(by show 0 + 0 ≤ 72 * cT tr; omega), (by show 0 + 0 ≤ 72 * pB tr Bd; omega)⟩) hS (fun q _ h => hFc q h) hFc (fun r_1 u t H1 locs ht hvm hpo hB hz1 hk1 hS => ?_)
    obtain rfl := hpo
    obtain ⟨f_1, hP1⟩ := hB
    subst f_1
    rw [ht] at hP1
    have hP : mw (dC, dI) vwCl A (TW cy L tr a κ τ) H1 := hP.join (fun _ _ h => h) hk1 hFc hP1 (fun _ _ h => Or.inl h)
    generalize H1 = H at hP hS ⊢
    clear hP1 hk1 hFc
    refine lv_istore_n (lv' := [(2, .int (fmod ((a 0 0) 0) ((a 1 0) 0))), (1, .int ((a 1 0) 0)), (0, .ref (L 0 0))]) hx hb dX5_driveOnLinks_22 rfl hl (by decide) rfl (fun ls hl => ?_)
    refine lv_iconst (v := 0) hx hb dX5_driveOnLinks_23 (by decide) ?_
    refine lv_istore_n (lv' := [(3, .int 0), (2, .int (fmod ((a 0 0) 0) ((a 1 0) 0))), (1, .int ((a 1 0) 0)), (0, .ref (L 0 0))]) hx hb dX5_driveOnLinks_24 rfl hl (by decide) rfl (fun ls hl => ?_)
    have h0 : 0 < nL a := by
      have h2 : (1 : Int32).toInt ≤ (a 1 0 0).toInt := Int32.le_iff_toInt_le.mp c_1
      have h3 : ((nL a : Nat) : Int) = (a 1 0 0).toInt := m_tn hw.1.1.1
      have h4 : (1 : Int32).toInt = 1 := rfl
      omega
    have hNL : nL a ≤ 24 := in_le hw.1.1
    obtain ⟨f9, hf9, ef9⟩ := fmod_in (N := nL a) hck (in_nI hw.1.1) h0 hNL
    have hln : ∀ j, j < nL a → ∃ r, T_lnum (fmod (a 0 0 0) (a 1 0 0)) (a 1 0 0) j = nI r ∧ r < nL a := fun j hj => by
      obtain ⟨r, e, hr⟩ := lnum_in hf9 hj hNL
      exact ⟨r, by rw [ef9, in_nI hw.1.1]; exact e, hr⟩
    have hN : nL a ≤ 24 := hNL
    refine W.widen (k := (fun i => (0 + 0) + 3 * cT tr * i) 0) (n := (fun i => (0 + 0) + 3 * pB tr Bd * i) 0) (Nat.le_refl _) (Nat.le_refl _) ?_
    refine tp_for (σ := Kap × Tau) (nL a) (fun i => (0 + 0) + 3 * cT tr * i) (fun i => (0 + 0) + 3 * pB tr Bd * i) (fun (i : Nat) (x : Kap × Tau) (H : Heap) (locs : List Loc) (ls : Array Slot) => Hid L tr (itN (T_link (fmod (a 0 0 0) (a 1 0 0)) (a 1 0 0)) i a) x.1 x.2 ∧ mw (dC, dI) vwCl A (TW cy L tr (itN (T_link (fmod (a 0 0 0) (a 1 0 0)) (a 1 0 0)) i a) x.1 x.2) H ∧ va_S A s.heap H locs ∧ lv_has ls 9 [(3, .int (nI i)), (2, .int (fmod ((a 0 0) 0) ((a 1 0) 0))), (1, .int ((a 1 0) 0)), (0, .ref (L 0 0))]) ?_ ?_ (nL a) 0 (Nat.zero_add _) (κ, τ) _ _ ls ⟨hh, hP, hS, lv_sub hl [0, 1, 2, 3] rfl⟩
    · rintro ⟨κ9, τ9⟩ H locs ls ⟨hh9, hP, hS, hl⟩
      have hl : lv_has ls 9 [(3, .int (nI (nL a))), (2, .int (fmod ((a 0 0) 0) ((a 1 0) 0))), (1, .int ((a 1 0) 0)), (0, .ref (L 0 0))] := hl
      have hP : mw (dC, dI) vwCl A (TW cy L tr (itN (T_link (fmod (a 0 0 0) (a 1 0 0)) (a 1 0 0)) (nL a) a) κ9 τ9) H := hP
      have hh9 : Hid L tr (itN (T_link (fmod (a 0 0 0) (a 1 0 0)) (a 1 0 0)) (nL a) a) κ9 τ9 := hh9
      show W _ _ _ _ _ _ _ _ _ _ _ _ ((0 + 0) + 3 * cT tr * (nL a)) ((0 + 0) + 3 * pB tr Bd * (nL a)) _ _
      obtain ⟨b1, eb1⟩ : ∃ z : St, z = itN (T_link (fmod (a 0 0 0) (a 1 0 0)) (a 1 0 0)) (nL a) a := ⟨_, rfl⟩
      rw [← eb1] at hP
      rw [← eb1] at hh9
      have q3 : 3 * cT tr * (nL a) ≤ 72 * cT tr := m_tot72 hN
      have q4 : 3 * pB tr Bd * (nL a) ≤ 72 * pB tr Bd := m_tot72 hN
      refine lv_iload_n hx hb dX5_driveOnLinks_25 rfl (lv_at hl 0 rfl) ?_
      refine lv_iload_n hx hb dX5_driveOnLinks_26 rfl (lv_at hl 2 rfl) ?_
      refine W.eq (g2 := F0 m 27 ls [.int (nI (nL a)), .int (nI (nL a))]) (by rw [in_nI hw.1.1]) ?_
      refine lv_icmp_ge (tgt := 129) hx hb dX5_driveOnLinks_27 (by decide) (fun _ => ?_) (fun c_2 => absurd (Int32.le_refl _) c_2)
      refine W.widen (k := 72 * cT tr) (n := 72 * pB tr Bd) (by show (0 + 0) + 3 * cT tr * (nL a) + 0 ≤ 72 * cT tr; omega) (by show (0 + 0) + 3 * pB tr Bd * (nL a) + 0 ≤ 72 * pB tr Bd; omega) ?_
      have s_1 : b1 = T_links a := by
        unfold T_links
        rw [if_pos c_1, eb1]
      rw [s_1] at hP
      have g_1 : Hid L tr (T_links a) κ9 τ9 := by
        rw [← s_1]
        exact hh9
      exact W.vret hx hb hr (fun t ht hW => ⟨⟨(), rfl, trivial, ⟨κ9, τ9, g_1, by show mw _ _ _ _ t.heap; rw [ht]; exact hP⟩⟩, hS.F ht⟩) hS.2.2 dX5_driveOnLinks_129
    · rintro i ⟨κ9, τ9⟩ H locs ls hi ⟨hh9, hP, hS, hl⟩ ih
      have hl : lv_has ls 9 [(3, .int (nI i)), (2, .int (fmod ((a 0 0) 0) ((a 1 0) 0))), (1, .int ((a 1 0) 0)), (0, .ref (L 0 0))] := hl
      have hP : mw (dC, dI) vwCl A (TW cy L tr (itN (T_link (fmod (a 0 0 0) (a 1 0 0)) (a 1 0 0)) i a) κ9 τ9) H := hP
      have hh9 : Hid L tr (itN (T_link (fmod (a 0 0 0) (a 1 0 0)) (a 1 0 0)) i a) κ9 τ9 := hh9
      show W _ _ _ _ _ _ _ _ _ _ _ _ ((0 + 0) + 3 * cT tr * i) ((0 + 0) + 3 * pB tr Bd * i) _ _
      obtain ⟨b1, eb1⟩ : ∃ z : St, z = itN (T_link (fmod (a 0 0 0) (a 1 0 0)) (a 1 0 0)) i a := ⟨_, rfl⟩
      rw [← eb1] at hP
      rw [← eb1] at hh9
      have q1 : 3 * cT tr * i + 3 * cT tr = 3 * cT tr * (i + 1) := (Nat.mul_succ _ _).symm
      have q2 : 3 * pB tr Bd * i + 3 * pB tr Bd = 3 * pB tr Bd * (i + 1) := (Nat.mul_succ _ _).symm
      have q3 : 3 * cT tr * (i + 1) ≤ 72 * cT tr := m_tot72 (by omega)
      have q4 : 3 * pB tr Bd * (i + 1) ≤ 72 * pB tr Bd := m_tot72 (by omega)
      have hwb1 : Wf (M + 3 * i) b1 := by rw [eb1]; exact itN_up (k := 3) (N := nL a) hw (fun j K b hj hK hb => T_link_Wf (by obtain ⟨r, e, hr⟩ := hln j hj; rw [e, nI_clamp (by omega)]; omega) (by omega) hb) i (Nat.le_of_lt hi)
      obtain ⟨r9, hr9, hrN⟩ := hln i hi
      have hr24 : r9 < 24 := by omega
      refine lv_iload_n hx hb dX5_driveOnLinks_25 rfl (lv_at hl 0 rfl) ?_
      refine lv_iload_n hx hb dX5_driveOnLinks_26 rfl (lv_at hl 2 rfl) ?_
      refine W.eq (g2 := F0 m 27 ls [.int (nI (nL a)), .int (nI i)]) (by rw [in_nI hw.1.1]) ?_
      refine lv_icmp_ge (tgt := 129) hx hb dX5_driveOnLinks_27 (by decide) (fun c_3 => absurd c_3 (nI_ge hi (by omega))) (fun _ => ?_)
      suffices h50 : ∀ ls : Array Slot, lv_has ls 9 [(4, .int (nI r9)), (3, .int (nI i)), (2, .int (fmod ((a 0 0) 0) ((a 1 0) 0))), (1, .int ((a 1 0) 0)), (0, .ref (L 0 0))] → W p l e _ s m _ below meth c H locs ((0 + 0) + 3 * cT tr * i) ((0 + 0) + 3 * pB tr Bd * i) _ (F0 m 50 ls []) by
        refine lv_iload_n hx hb dX5_driveOnLinks_30 rfl (lv_at hl 1 rfl) ?_
        refine lv_iload_n hx hb dX5_driveOnLinks_31 rfl (lv_at hl 0 rfl) ?_
        refine lv_iadd hx hb dX5_driveOnLinks_32 ?_
        refine lv_iload_n hx hb dX5_driveOnLinks_33 rfl (lv_at hl 2 rfl) ?_
        refine lv_icmp_ge (tgt := 43) hx hb dX5_driveOnLinks_34 (by decide) (fun c_4 => ?_) (fun c_4 => ?_)
        · refine lv_iload_n hx hb dX5_driveOnLinks_43 rfl (lv_at hl 1 rfl) ?_
          refine lv_iload_n hx hb dX5_driveOnLinks_44 rfl (lv_at hl 0 rfl) ?_
          refine lv_iadd hx hb dX5_driveOnLinks_45 ?_
          refine lv_iload_n hx hb dX5_driveOnLinks_46 rfl (lv_at hl 2 rfl) ?_
          refine lv_isub hx hb dX5_driveOnLinks_47 ?_
          have e48 : ((fmod ((a 0 0) 0) ((a 1 0) 0)) + (nI i)) - ((a 1 0) 0) = nI r9 := by rw [← hr9]; unfold T_lnum; rw [if_pos c_4]
          refine W.eq (g2 := F0 m 48 ls [.int (nI r9)]) (by rw [e48]) ?_
          refine lv_istore (lv' := [(4, .int (nI r9)), (3, .int (nI i)), (2, .int (fmod ((a 0 0) 0) ((a 1 0) 0))), (1, .int ((a 1 0) 0)), (0, .ref (L 0 0))]) hx hb dX5_driveOnLinks_48 hl (by decide) rfl (fun ls hl => ?_)
          exact h50 ls (lv_sub hl [0, 1, 2, 3, 4] rfl)
        · refine lv_iload_n hx hb dX5_driveOnLinks_37 rfl (lv_at hl 1 rfl) ?_
          refine lv_iload_n hx hb dX5_driveOnLinks_38 rfl (lv_at hl 0 rfl) ?_
          refine lv_iadd hx hb dX5_driveOnLinks_39 ?_
          refine lv_goto (tgt := 48) hx hb dX5_driveOnLinks_40 (by decide) ?_
          have e48 : (fmod ((a 0 0) 0) ((a 1 0) 0)) + (nI i) = nI r9 := by rw [← hr9]; unfold T_lnum; rw [if_neg c_4]
          refine W.eq (g2 := F0 m 48 ls [.int (nI r9)]) (by rw [e48]) ?_
          refine lv_istore (lv' := [(4, .int (nI r9)), (3, .int (nI i)), (2, .int (fmod ((a 0 0) 0) ((a 1 0) 0))), (1, .int ((a 1 0) 0)), (0, .ref (L 0 0))]) hx hb dX5_driveOnLinks_48 hl (by decide) rfl (fun ls hl => ?_)
          exact h50 ls (lv_sub hl [0, 1, 2, 3, 4] rfl)
      clear hl
      intro ls hl
      refine lv_aload_n hx hb dX5_driveOnLinks_50 rfl (lv_at hl 4 rfl) ?_
      refine va_get (D := (dC, dI)) (ws := [(L 0 0, .inr (5, [.ref (L 1 0), .ref (L 20 0), .ref (L 21 0), .ref (L 22 0), .ref (L 23 0), va_rf tr, .int ((b1 0 0) 0), .int ((b1 0 0) 1), .int ((b1 0 0) 2), .int ((b1 0 0) 3), .int ((b1 0 0) 4), .int ((b1 0 0) 5)]))]) (ci := 5) (v := .ref (L 1 0)) (C := RX5) (T := TX5) (N := 12) hx hb hts tl_X5 hown hK (hP.one (tw_mem (f := 0) (i := 0) (by decide) rfl)) 0 rfl rfl 0 (by decide) (hts _ tw_873) (fun _ h9 => h9) rfl dX5_driveOnLinks_51 ?_
      refine va_getN (D := (dC, dI)) (ws := [(L 1 0, .inr (2, [.ref (L 24 0), .int ((b1 1 0) 0), .ref (L 25 0), .int κ9.1]))]) (ci := 2) (v := .ref (L 24 0)) (C := RX2) (T := TX2) (N := 4) hx hb hts tl_X2 hown hK (hP.one (tw_mem (f := 1) (i := 0) (by decide) rfl)) 0 rfl rfl 0 (by decide) (va_Nw.use rfl (te_f24 hE)) (fun _ h9 => h9) rfl dX5_driveOnLinks_54 ?_
      refine lv_iload hx hb dX5_driveOnLinks_57 (lv_at hl 0 rfl) ?_
      have j_1 : (nI r9 : Int32).toNatClampNeg = r9 := m_cl rfl hr24 (by decide)
      refine va_aldq hx hb hK (ws := [(L 24 0, .inl (cy 3, 24, .inr (.inr (.inr (.inr (fun j => some (L 2 j)))))))]) (hP.one (tw_mem (f := 24) (i := 0) (by decide) rfl)) 0 3 rfl rfl (m_in rfl hr24 (by decide)) dX5_driveOnLinks_59 ?_
      refine W.eq (g2 := F0 m 60 ls [.ref (L 2 r9)]) (by first | (rw [j_1]; done) | (rw [j_1]; rfl)) ?_
      refine lv_astore (lv' := [(5, .ref (L 2 r9)), (4, .int (nI r9)), (3, .int (nI i)), (2, .int (fmod ((a 0 0) 0) ((a 1 0) 0))), (1, .int ((a 1 0) 0)), (0, .ref (L 0 0))]) hx hb dX5_driveOnLinks_60 hl (by decide) rfl (fun ls hl => ?_)
      refine lv_aload_n hx hb dX5_driveOnLinks_62 rfl (lv_at hl 5 rfl) ?_
      refine va_get (D := (dC, dI)) (ws := [(L 0 0, .inr (5, [.ref (L 1 0), .ref (L 20 0), .ref (L 21 0), .ref (L 22 0), .ref (L 23 0), va_rf tr, .int ((b1 0 0) 0), .int ((b1 0 0) 1), .int ((b1 0 0) 2), .int ((b1 0 0) 3), .int ((b1 0 0) 4), .int ((b1 0 0) 5)]))]) (ci := 5) (v := .ref (L 20 0)) (C := RX5) (T := TX5) (N := 12) hx hb hts tl_X5 hown hK (hP.one (tw_mem (f := 0) (i := 0) (by decide) rfl)) 0 rfl rfl 1 (by decide) (hts _ tw_875) (fun _ h9 => h9) rfl dX5_driveOnLinks_63 ?_
      refine lv_aload hx hb dX5_driveOnLinks_66 (lv_at hl 0 rfl) ?_
      refine va_getN (D := (dC, dI)) (ws := [(L 2 r9, .inr (1, [.int ((b1 2 r9) 0), .int ((b1 2 r9) 1), .int ((b1 2 r9) 2), .int ((b1 2 r9) 3), .int ((b1 2 r9) 4), .int ((b1 2 r9) 5), .int ((b1 2 r9) 6), .int ((b1 2 r9) 7), .int ((b1 2 r9) 8), .ref (L 3 r9), .ref (L 5 r9), .int ((b1 2 r9) 9), .int ((b1 2 r9) 10), .int ((b1 2 r9) 11), .int ((b1 2 r9) 12), .ref (L 7 r9)]))]) (ci := 1) (v := .int ((b1 2 r9) 1)) (C := RX1) (T := TX1) (N := 16) hx hb hts tl_X1 hown hK (hP.one (tw_mem (f := 2) (i := r9) hr24 rfl)) 0 rfl rfl 1 (by decide) (va_Nw.use rfl (te_f4 hE)) (fun _ h9 => h9) rfl dX5_driveOnLinks_68 ?_
      have j_2 : ((b1 2 r9) 1 : Int32).toNatClampNeg = (b1 2 r9 1).toNatClampNeg := m_cl (in_nI (hwb1.2.1 r9 hr24).2.1) (in_lt (hwb1.2.1 r9 hr24).2.1) (by decide)
      refine va_aldq hx hb hK (ws := [(L 20 0, .inl (cy 4, 12, .inr (.inr (.inr (.inr (fun j => some (L 8 j)))))))]) (hP.one (tw_mem (f := 20) (i := 0) (by decide) rfl)) 0 4 rfl rfl (m_in (in_nI (hwb1.2.1 r9 hr24).2.1) (in_lt (hwb1.2.1 r9 hr24).2.1) (by decide)) dX5_driveOnLinks_71 ?_
      refine W.eq (g2 := F0 m 72 ls [.ref (L 8 ((b1 2 r9 1).toNatClampNeg))]) (by first | (rw [j_2]; done) | (rw [j_2]; rfl)) ?_
      refine lv_iload hx hb dX5_driveOnLinks_72 (lv_at hl 1 rfl) ?_
      have hFc := m_free (C := (TW cy L tr b1 κ9 τ9)) hP hS hA (fun _ _ h => h)
      refine va_calli (va_runV (As := [.int (nI r9)]) (rest := []) ⟨hx, hb, hml, hown, hts⟩ (c_Signal_isGreen l dC dI cy L tr b1 κ9 τ9 ((b1 2 r9 1).toNatClampNeg) (nI r9) H.size hh9.1 (in_lt (hwb1.2.1 r9 hr24).2.1) (hwb1.2.2.1 _ (in_lt (hwb1.2.1 r9 hr24).2.1)).1.2) (tp_cwV 1 hts tw_264 tw_265 tw_266 tw_27 tw_267 rfl rfl (by decide +kernel) ⟨Nat.le_of_ble_eq_true rfl, Nat.le_of_ble_eq_true rfl⟩) ⟨m_blind, va_recv hK (hP.one (e := .inr (4, [.ref (L 9 ((b1 2 r9 1).toNatClampNeg)), .ref (L 10 ((b1 2 r9 1).toNatClampNeg)), .ref (L 11 ((b1 2 r9 1).toNatClampNeg)), .int ((b1 8 ((b1 2 r9 1).toNatClampNeg)) 0), .int ((b1 8 ((b1 2 r9 1).toNatClampNeg)) 1), .int ((b1 8 ((b1 2 r9 1).toNatClampNeg)) 2)])) (tw_mem (f := 8) (i := (b1 2 r9 1).toNatClampNeg) (in_lt (hwb1.2.1 r9 hr24).2.1) rfl)) (ci := 4) (q0 := 0) rfl rfl, fun U hU hW => ⟨rfl, m_pay hK hP hE (fun _ _ h => h) U hU hW⟩⟩ rfl rfl hl.1 rfl (lv_room (Nat.le_of_ble_eq_true rfl)) dX5_driveOnLinks_74 ⟨(by show (0 + 0) + 3 * cT tr * i + 0 ≤ 72 * cT tr; omega), (by show (0 + 0) + 3 * pB tr Bd * i + 0 ≤ 72 * pB tr Bd; omega)⟩) hS (fun q _ h => hFc q h) hFc (fun r_2 u t H1 locs ht hvm hpo hB hz1 hk1 hS => ?_)
      obtain rfl := hpo
      obtain ⟨f_2, hP1⟩ := hB
      subst f_2
      rw [ht] at hP1
      have hP : mw (dC, dI) vwCl A (TW cy L tr b1 κ9 τ9) H1 := hP.join (fun _ _ h => h) hk1 hFc hP1 (fun _ _ h => Or.inl h)
      generalize H1 = H at hP hS ⊢
      clear hP1 hk1 hFc
      suffices h91 : ∀ ls : Array Slot, lv_has ls 9 [(6, .int (T_most b1 r9)), (5, .ref (L 2 r9)), (4, .int (nI r9)), (3, .int (nI i)), (2, .int (fmod ((a 0 0) 0) ((a 1 0) 0))), (1, .int ((a 1 0) 0)), (0, .ref (L 0 0))] → W p l e _ s m _ below meth c H locs ((0 + 0) + 3 * cT tr * i + 0) ((0 + 0) + 3 * pB tr Bd * i + 0) _ (F0 m 91 ls []) by
        refine lv_if_eq (tgt := 88) hx hb dX5_driveOnLinks_77 (by decide) (fun c_5 => ?_) (fun c_5 => ?_)
        · refine lv_iconst (v := 0) hx hb dX5_driveOnLinks_88 (by decide) ?_
          have e89 : (0 : Int32) = T_most b1 r9 := by unfold T_most; rw [if_pos c_5]
          refine W.eq (g2 := F0 m 89 ls [.int (T_most b1 r9)]) (by rw [e89]) ?_
          refine lv_istore (lv' := [(6, .int (T_most b1 r9)), (5, .ref (L 2 r9)), (4, .int (nI r9)), (3, .int (nI i)), (2, .int (fmod ((a 0 0) 0) ((a 1 0) 0))), (1, .int ((a 1 0) 0)), (0, .ref (L 0 0))]) hx hb dX5_driveOnLinks_89 hl (by decide) rfl (fun ls hl => ?_)
          exact h91 ls (lv_sub hl [0, 1, 2, 3, 4, 5, 6] rfl)
        · refine lv_aload hx hb dX5_driveOnLinks_80 (lv_at hl 0 rfl) ?_
          refine va_getN (D := (dC, dI)) (ws := [(L 2 r9, .inr (1, [.int ((b1 2 r9) 0), .int ((b1 2 r9) 1), .int ((b1 2 r9) 2), .int ((b1 2 r9) 3), .int ((b1 2 r9) 4), .int ((b1 2 r9) 5), .int ((b1 2 r9) 6), .int ((b1 2 r9) 7), .int ((b1 2 r9) 8), .ref (L 3 r9), .ref (L 5 r9), .int ((b1 2 r9) 9), .int ((b1 2 r9) 10), .int ((b1 2 r9) 11), .int ((b1 2 r9) 12), .ref (L 7 r9)]))]) (ci := 1) (v := .int ((b1 2 r9) 5)) (C := RX1) (T := TX1) (N := 16) hx hb hts tl_X1 hown hK (hP.one (tw_mem (f := 2) (i := r9) hr24 rfl)) 0 rfl rfl 5 (by decide) (va_Nw.use rfl (te_f10 hE)) (fun _ h9 => h9) rfl dX5_driveOnLinks_82 ?_
          refine lv_goto (tgt := 89) hx hb dX5_driveOnLinks_85 (by decide) ?_
          have e89 : ((b1 2 r9) 5 : Int32) = T_most b1 r9 := by unfold T_most; rw [if_neg c_5]
          refine W.eq (g2 := F0 m 89 ls [.int (T_most b1 r9)]) (by rw [e89]) ?_
          refine lv_istore (lv' := [(6, .int (T_most b1 r9)), (5, .ref (L 2 r9)), (4, .int (nI r9)), (3, .int (nI i)), (2, .int (fmod ((a 0 0) 0) ((a 1 0) 0))), (1, .int ((a 1 0) 0)), (0, .ref (L 0 0))]) hx hb dX5_driveOnLinks_89 hl (by decide) rfl (fun ls hl => ?_)
          exact h91 ls (lv_sub hl [0, 1, 2, 3, 4, 5, 6] rfl)
      clear hl
      intro ls hl
      refine lv_iconst (v := 1) hx hb dX5_driveOnLinks_91 (by decide) ?_
      refine lv_istore (lv' := [(7, .int 1), (6, .int (T_most b1 r9)), (5, .ref (L 2 r9)), (4, .int (nI r9)), (3, .int (nI i)), (2, .int (fmod ((a 0 0) 0) ((a 1 0) 0))), (1, .int ((a 1 0) 0)), (0, .ref (L 0 0))]) hx hb dX5_driveOnLinks_92 hl (by decide) rfl (fun ls hl => ?_)
      refine lv_iconst (v := 0) hx hb dX5_driveOnLinks_94 (by decide) ?_
      refine lv_istore (lv' := [(8, .int 0), (7, .int 1), (6, .int (T_most b1 r9)), (5, .ref (L 2 r9)), (4, .int (nI r9)), (3, .int (nI i)), (2, .int (fmod ((a 0 0) 0) ((a 1 0) 0))), (1, .int ((a 1 0) 0)), (0, .ref (L 0 0))]) hx hb dX5_driveOnLinks_95 hl (by decide) rfl (fun ls hl => ?_)
      have hmo := T_most_3 hr24 hwb1
      obtain ⟨n9, hn9⟩ : ∃ y : Nat, y = (T_most b1 r9).toNatClampNeg := ⟨_, rfl⟩
      rw [← hn9] at hmo
      refine W.widen (k := ((0 + 0) + 3 * cT tr * i + 0) + cT tr * 0) (n := ((0 + 0) + 3 * pB tr Bd * i + 0) + pB tr Bd * 0) (Nat.le_refl _) (Nat.le_refl _) ?_
      suffices hin : ∀ (d k : Nat), k + d = n9 → ∀ (bb : St) (κb : Kap) (τb : Tau) (gg : Int32), (if gg = 0 then bb else T_many r9 d bb) = T_many r9 n9 b1 → Hid L tr bb κb τb → Wf (M + 3 * i + k) bb → ∀ ls : Array Slot, lv_has ls 9 [(8, .int (nI k)), (7, .int gg), (6, .int (T_most b1 r9)), (5, .ref (L 2 r9)), (4, .int (nI r9)), (3, .int (nI i)), (2, .int (fmod ((a 0 0) 0) ((a 1 0) 0))), (1, .int ((a 1 0) 0)), (0, .ref (L 0 0))] → ∀ (H : Heap) (locs : List Loc), mw (dC, dI) vwCl A (TW cy L tr bb κb τb) H → va_S A s.heap H locs → W p l e _ s m _ below meth c H locs (((0 + 0) + 3 * cT tr * i + 0) + cT tr * k) (((0 + 0) + 3 * pB tr Bd * i + 0) + pB tr Bd * k) _ (F0 m 97 ls []) from hin n9 0 (by omega) b1 κ9 τ9 1 (by rw [if_neg (by decide)]) hh9 hwb1 ls (lv_sub hl [0, 1, 2, 3, 4, 5, 6, 7, 8] rfl) _ _ hP hS
      clear hP hS hl ls
      intro d
      induction d with
      | zero =>
        intro k hk bb κb τb gg hq hhb hwbb ls hl H locs hP hS
        have q5 : cT tr * k ≤ 3 * cT tr := m_tot3 (by omega)
        have q6 : pB tr Bd * k ≤ 3 * pB tr Bd := m_tot3 (by omega)
        refine lv_iload hx hb dX5_driveOnLinks_97 (lv_at hl 1 rfl) ?_
        refine lv_if_eq (tgt := 123) hx hb dX5_driveOnLinks_99 (by decide) (fun c_6 => ?_) (fun c_6 => ?_)
        · have hq9 : bb = T_many r9 n9 b1 := by rw [if_pos c_6] at hq; exact hq
          refine lv_iinc (v := nI (i + 1)) (lv' := [(3, .int (nI (i + 1))), (8, .int (nI k)), (7, .int gg), (6, .int (T_most b1 r9)), (5, .ref (L 2 r9)), (4, .int (nI r9)), (2, .int (fmod ((a 0 0) 0) ((a 1 0) 0))), (1, .int ((a 1 0) 0)), (0, .ref (L 0 0))]) hx hb dX5_driveOnLinks_123 hl (k := 5) rfl (nI_1 i) (by decide) rfl (fun ls hl => ?_)
          refine lv_goto (tgt := 25) hx hb dX5_driveOnLinks_126 (by decide) ?_
          have e9 : bb = itN (T_link (fmod (a 0 0 0) (a 1 0 0)) (a 1 0 0)) (i + 1) a := by
            rw [show itN (T_link (fmod (a 0 0 0) (a 1 0 0)) (a 1 0 0)) (i + 1) a = T_link (fmod (a 0 0 0) (a 1 0 0)) (a 1 0 0) i b1 from by rw [eb1]; rfl]
            unfold T_link
            rw [hr9, nI_clamp (by omega), ← hn9]
            exact hq9
          have hh8 : Hid L tr (itN (T_link (fmod (a 0 0 0) (a 1 0 0)) (a 1 0 0)) (i + 1) a) κb τb := by rw [← e9]; exact hhb
          rw [e9] at hP
          refine W.widen (k := (fun i => (0 + 0) + 3 * cT tr * i) (i + 1)) (n := (fun i => (0 + 0) + 3 * pB tr Bd * i) (i + 1)) (by show ((0 + 0) + 3 * cT tr * i + 0) + cT tr * k ≤ (0 + 0) + 3 * cT tr * (i + 1); omega) (by show ((0 + 0) + 3 * pB tr Bd * i + 0) + pB tr Bd * k ≤ (0 + 0) + 3 * pB tr Bd * (i + 1); omega) ?_
          exact ih (κb, τb) _ _ ls ⟨hh8, hP, hS, lv_sub hl [0, 6, 7, 8] rfl⟩
        · refine lv_iload hx hb dX5_driveOnLinks_102 (lv_at hl 0 rfl) ?_
          refine lv_iload hx hb dX5_driveOnLinks_104 (lv_at hl 2 rfl) ?_
          have hq9 : bb = T_many r9 n9 b1 := by rw [if_neg c_6] at hq; exact hq
          refine lv_icmp_ge (tgt := 123) hx hb dX5_driveOnLinks_106 (by decide) (fun _ => ?_) (fun c_7 => absurd (m_leN (by omega) (by omega)) c_7)
          refine lv_iinc (v := nI (i + 1)) (lv' := [(3, .int (nI (i + 1))), (8, .int (nI k)), (7, .int gg), (6, .int (T_most b1 r9)), (5, .ref (L 2 r9)), (4, .int (nI r9)), (2, .int (fmod ((a 0 0) 0) ((a 1 0) 0))), (1, .int ((a 1 0) 0)), (0, .ref (L 0 0))]) hx hb dX5_driveOnLinks_123 hl (k := 5) rfl (nI_1 i) (by decide) rfl (fun ls hl => ?_)
          refine lv_goto (tgt := 25) hx hb dX5_driveOnLinks_126 (by decide) ?_
          have e9 : bb = itN (T_link (fmod (a 0 0 0) (a 1 0 0)) (a 1 0 0)) (i + 1) a := by
            rw [show itN (T_link (fmod (a 0 0 0) (a 1 0 0)) (a 1 0 0)) (i + 1) a = T_link (fmod (a 0 0 0) (a 1 0 0)) (a 1 0 0) i b1 from by rw [eb1]; rfl]
            unfold T_link
            rw [hr9, nI_clamp (by omega), ← hn9]
            exact hq9
          have hh8 : Hid L tr (itN (T_link (fmod (a 0 0 0) (a 1 0 0)) (a 1 0 0)) (i + 1) a) κb τb := by rw [← e9]; exact hhb
          rw [e9] at hP
          refine W.widen (k := (fun i => (0 + 0) + 3 * cT tr * i) (i + 1)) (n := (fun i => (0 + 0) + 3 * pB tr Bd * i) (i + 1)) (by show ((0 + 0) + 3 * cT tr * i + 0) + cT tr * k ≤ (0 + 0) + 3 * cT tr * (i + 1); omega) (by show ((0 + 0) + 3 * pB tr Bd * i + 0) + pB tr Bd * k ≤ (0 + 0) + 3 * pB tr Bd * (i + 1); omega) ?_
          exact ih (κb, τb) _ _ ls ⟨hh8, hP, hS, lv_sub hl [0, 6, 7, 8] rfl⟩
      | succ d ihd =>
        intro k hk bb κb τb gg hq hhb hwbb ls hl H locs hP hS
        have q5 : cT tr * k ≤ 3 * cT tr := m_tot3 (by omega)
        have q6 : pB tr Bd * k ≤ 3 * pB tr Bd := m_tot3 (by omega)
        refine lv_iload hx hb dX5_driveOnLinks_97 (lv_at hl 1 rfl) ?_
        refine lv_if_eq (tgt := 123) hx hb dX5_driveOnLinks_99 (by decide) (fun c_8 => ?_) (fun c_8 => ?_)
        · have hq9 : bb = T_many r9 n9 b1 := by rw [if_pos c_8] at hq; exact hq
          refine lv_iinc (v := nI (i + 1)) (lv' := [(3, .int (nI (i + 1))), (8, .int (nI k)), (7, .int gg), (6, .int (T_most b1 r9)), (5, .ref (L 2 r9)), (4, .int (nI r9)), (2, .int (fmod ((a 0 0) 0) ((a 1 0) 0))), (1, .int ((a 1 0) 0)), (0, .ref (L 0 0))]) hx hb dX5_driveOnLinks_123 hl (k := 5) rfl (nI_1 i) (by decide) rfl (fun ls hl => ?_)
          refine lv_goto (tgt := 25) hx hb dX5_driveOnLinks_126 (by decide) ?_
          have e9 : bb = itN (T_link (fmod (a 0 0 0) (a 1 0 0)) (a 1 0 0)) (i + 1) a := by
            rw [show itN (T_link (fmod (a 0 0 0) (a 1 0 0)) (a 1 0 0)) (i + 1) a = T_link (fmod (a 0 0 0) (a 1 0 0)) (a 1 0 0) i b1 from by rw [eb1]; rfl]
            unfold T_link
            rw [hr9, nI_clamp (by omega), ← hn9]
            exact hq9
          have hh8 : Hid L tr (itN (T_link (fmod (a 0 0 0) (a 1 0 0)) (a 1 0 0)) (i + 1) a) κb τb := by rw [← e9]; exact hhb
          rw [e9] at hP
          refine W.widen (k := (fun i => (0 + 0) + 3 * cT tr * i) (i + 1)) (n := (fun i => (0 + 0) + 3 * pB tr Bd * i) (i + 1)) (by show ((0 + 0) + 3 * cT tr * i + 0) + cT tr * k ≤ (0 + 0) + 3 * cT tr * (i + 1); omega) (by show ((0 + 0) + 3 * pB tr Bd * i + 0) + pB tr Bd * k ≤ (0 + 0) + 3 * pB tr Bd * (i + 1); omega) ?_
          exact ih (κb, τb) _ _ ls ⟨hh8, hP, hS, lv_sub hl [0, 6, 7, 8] rfl⟩
        · refine lv_iload hx hb dX5_driveOnLinks_102 (lv_at hl 0 rfl) ?_
          refine lv_iload hx hb dX5_driveOnLinks_104 (lv_at hl 2 rfl) ?_
          refine lv_icmp_ge (tgt := 123) hx hb dX5_driveOnLinks_106 (by decide) (fun c_9 => absurd c_9 (m_ltN (by omega) (by omega))) (fun _ => ?_)
          have q7 : cT tr * k + cT tr = cT tr * (k + 1) := (Nat.mul_succ _ _).symm
          have q8 : pB tr Bd * k + pB tr Bd = pB tr Bd * (k + 1) := (Nat.mul_succ _ _).symm
          have q9 : cT tr * (k + 1) ≤ 3 * cT tr := m_tot3 (by omega)
          have q10 : pB tr Bd * (k + 1) ≤ 3 * pB tr Bd := m_tot3 (by omega)
          refine lv_aload_n hx hb dX5_driveOnLinks_109 rfl (lv_at hl 8 rfl) ?_
          refine lv_aload hx hb dX5_driveOnLinks_110 (lv_at hl 3 rfl) ?_
          have hFc := m_free (C := (TW cy L tr bb κb τb)) hP hS hA (fun _ _ h => h)
          refine va_calli (va_runV (As := [.ref (L 2 r9)]) (rest := []) ⟨hx, hb, hml, hown, hts⟩ (c_Traffic_firstGoesOn l dC dI cy L tr bb κb τb ((M + 3 * i + k)) Bd r9 H.size hhb.1 hwbb hhb hr24 (by omega) hB2) (tp_cwV 1 hts tw_269 tw_271 tw_7 tw_21 tw_272 rfl rfl (by decide +kernel) ⟨Nat.le_of_ble_eq_true rfl, Nat.le_of_ble_eq_true rfl⟩) ⟨m_blind, va_recv hK (hP.one (e := .inr (5, [.ref (L 1 0), .ref (L 20 0), .ref (L 21 0), .ref (L 22 0), .ref (L 23 0), va_rf tr, .int ((bb 0 0) 0), .int ((bb 0 0) 1), .int ((bb 0 0) 2), .int ((bb 0 0) 3), .int ((bb 0 0) 4), .int ((bb 0 0) 5)])) (tw_mem (f := 0) (i := 0) (by decide) rfl)) (ci := 5) (q0 := 0) rfl rfl, fun U hU hW => ⟨rfl, m_pay hK hP hE (fun _ _ h => h) U hU hW⟩⟩ rfl rfl hl.1 rfl (lv_room (Nat.le_of_ble_eq_true rfl)) dX5_driveOnLinks_112 ⟨(by show ((0 + 0) + 3 * cT tr * i + 0) + cT tr * k + (cT tr) ≤ 72 * cT tr; omega), (by show ((0 + 0) + 3 * pB tr Bd * i + 0) + pB tr Bd * k + (pB tr Bd) ≤ 72 * pB tr Bd; omega)⟩) hS (fun q _ h => hFc q h) hFc (fun r_3 u t H1 locs ht hvm hpo hB hz1 hk1 hS => ?_)
          obtain rfl := hpo
          obtain ⟨z_1, z_2, f_3, f_4, hP1⟩ := hB
          subst f_3
          rw [ht] at hP1
          have hP : mw (dC, dI) vwCl A (TW cy L tr ((T_first bb r9).1) z_1 z_2) H1 := hP.join (fun _ _ h => h) hk1 hFc hP1 (fun _ _ h => Or.inl h)
          generalize H1 = H at hP hS ⊢
          clear hP1 hk1 hFc
          obtain ⟨b2, eb2⟩ : ∃ z : St, z = (T_first bb r9).1 := ⟨_, rfl⟩
          rw [← eb2] at hP
          refine lv_istore (lv' := [(7, .int ((T_first bb r9).2)), (8, .int (nI k)), (6, .int (T_most b1 r9)), (5, .ref (L 2 r9)), (4, .int (nI r9)), (3, .int (nI i)), (2, .int (fmod ((a 0 0) 0) ((a 1 0) 0))), (1, .int ((a 1 0) 0)), (0, .ref (L 0 0))]) hx hb dX5_driveOnLinks_115 hl (by decide) rfl (fun ls hl => ?_)
          refine lv_iinc (v := nI (k + 1)) (lv' := [(8, .int (nI (k + 1))), (7, .int ((T_first bb r9).2)), (6, .int (T_most b1 r9)), (5, .ref (L 2 r9)), (4, .int (nI r9)), (3, .int (nI i)), (2, .int (fmod ((a 0 0) 0) ((a 1 0) 0))), (1, .int ((a 1 0) 0)), (0, .ref (L 0 0))]) hx hb dX5_driveOnLinks_117 hl (k := 1) rfl (nI_1 k) (by decide) rfl (fun ls hl => ?_)
          refine lv_goto (tgt := 97) hx hb dX5_driveOnLinks_120 (by decide) ?_
          refine W.widen (k := ((0 + 0) + 3 * cT tr * i + 0) + cT tr * (k + 1)) (n := ((0 + 0) + 3 * pB tr Bd * i + 0) + pB tr Bd * (k + 1)) (by omega) (by omega) ?_
          exact ihd (k + 1) (by omega) b2 z_1 z_2 (T_first bb r9).2 (by rw [← hq, if_neg c_8, eb2]; rfl) (by rw [eb2]; exact f_4) (by rw [eb2]; exact T_first_Wf (M := M + 3 * i + k) hr24 (by omega) hwbb) ls (lv_sub hl [0, 1, 2, 3, 4, 5, 6, 7, 8] rfl) H locs hP hS
  · refine W.widen (k := 72 * cT tr) (n := 72 * pB tr Bd) (by show 0 + 0 ≤ 72 * cT tr; omega) (by show 0 + 0 ≤ 72 * pB tr Bd; omega) ?_
    have s_2 : a = T_links a := by
      unfold T_links
      rw [if_neg c_1]
    rw [s_2] at hP
    have g_2 : Hid L tr (T_links a) κ τ := by
      rw [← s_2]
      exact hh
    exact W.vret hx hb hr (fun t ht hW => ⟨⟨(), rfl, trivial, ⟨κ, τ, g_2, by show mw _ _ _ _ t.heap; rw [ht]; exact hP⟩⟩, hS.F ht⟩) hS.2.2 dX5_driveOnLinks_13

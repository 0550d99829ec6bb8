theorem tw_360 : Cond.methodLink RX5 205 yX3_dropFirst ∈ tp_all := tp_mem 360 (by decide +kernel) rfl
theorem dX5_driveFromNodes_0 : decode cX5_driveFromNodes 0 = .ok (.iconst 0, 1) := by decide +kernel
theorem dX5_driveFromNodes_1 : decode cX5_driveFromNodes 1 = .ok (.istore_n 1, 1) := by decide +kernel
theorem dX5_driveFromNodes_2 : decode cX5_driveFromNodes 2 = .ok (.iload_n 1, 1) := by decide +kernel
theorem dX5_driveFromNodes_3 : decode cX5_driveFromNodes 3 = .ok (.aload_n 0, 1) := by decide +kernel
theorem dX5_driveFromNodes_4 : decode cX5_driveFromNodes 4 = .ok (.getfield 128, 3) := by decide +kernel
theorem dX5_driveFromNodes_7 : decode cX5_driveFromNodes 7 = .ok (.if_icmp .ge 54, 3) := by decide +kernel
theorem dX5_driveFromNodes_61 : decode cX5_driveFromNodes 61 = .ok (.return_, 1) := by decide +kernel
theorem dX5_driveFromNodes_10 : decode cX5_driveFromNodes 10 = .ok (.aload_n 0, 1) := by decide +kernel
theorem dX5_driveFromNodes_11 : decode cX5_driveFromNodes 11 = .ok (.getfield 26, 3) := by decide +kernel
theorem dX5_driveFromNodes_14 : decode cX5_driveFromNodes 14 = .ok (.iload_n 1, 1) := by decide +kernel
theorem dX5_driveFromNodes_15 : decode cX5_driveFromNodes 15 = .ok (.aaload, 1) := by decide +kernel
theorem dX5_driveFromNodes_16 : decode cX5_driveFromNodes 16 = .ok (.iconst 0, 1) := by decide +kernel
theorem dX5_driveFromNodes_17 : decode cX5_driveFromNodes 17 = .ok (.invokevirtual 175, 3) := by decide +kernel
theorem dX5_driveFromNodes_20 : decode cX5_driveFromNodes 20 = .ok (.istore_n 2, 1) := by decide +kernel
theorem dX5_driveFromNodes_21 : decode cX5_driveFromNodes 21 = .ok (.aload_n 0, 1) := by decide +kernel
theorem dX5_driveFromNodes_22 : decode cX5_driveFromNodes 22 = .ok (.iload_n 2, 1) := by decide +kernel
theorem dX5_driveFromNodes_23 : decode cX5_driveFromNodes 23 = .ok (.invokevirtual 179, 3) := by decide +kernel
theorem dX5_driveFromNodes_26 : decode cX5_driveFromNodes 26 = .ok (.astore_n 3, 1) := by decide +kernel
theorem dX5_driveFromNodes_27 : decode cX5_driveFromNodes 27 = .ok (.aload_n 3, 1) := by decide +kernel
theorem dX5_driveFromNodes_28 : decode cX5_driveFromNodes 28 = .ok (.ifnull 27, 3) := by decide +kernel
theorem dX5_driveFromNodes_55 : decode cX5_driveFromNodes 55 = .ok (.iinc 1 1, 3) := by decide +kernel
theorem dX5_driveFromNodes_58 : decode cX5_driveFromNodes 58 = .ok (.goto (-56), 3) := by decide +kernel
theorem dX5_driveFromNodes_31 : decode cX5_driveFromNodes 31 = .ok (.aload_n 0, 1) := by decide +kernel
theorem dX5_driveFromNodes_32 : decode cX5_driveFromNodes 32 = .ok (.iload_n 2, 1) := by decide +kernel
theorem dX5_driveFromNodes_33 : decode cX5_driveFromNodes 33 = .ok (.aload_n 3, 1) := by decide +kernel
theorem dX5_driveFromNodes_34 : decode cX5_driveFromNodes 34 = .ok (.aload_n 0, 1) := by decide +kernel
theorem dX5_driveFromNodes_35 : decode cX5_driveFromNodes 35 = .ok (.aload_n 3, 1) := by decide +kernel
theorem dX5_driveFromNodes_36 : decode cX5_driveFromNodes 36 = .ok (.iload_n 1, 1) := by decide +kernel
theorem dX5_driveFromNodes_37 : decode cX5_driveFromNodes 37 = .ok (.invokevirtual 191, 3) := by decide +kernel
theorem dX5_driveFromNodes_40 : decode cX5_driveFromNodes 40 = .ok (.invokevirtual 195, 3) := by decide +kernel
theorem dX5_driveFromNodes_43 : decode cX5_driveFromNodes 43 = .ok (.ifCond .eq 12, 3) := by decide +kernel
theorem dX5_driveFromNodes_46 : decode cX5_driveFromNodes 46 = .ok (.aload_n 0, 1) := by decide +kernel
theorem dX5_driveFromNodes_47 : decode cX5_driveFromNodes 47 = .ok (.getfield 26, 3) := by decide +kernel
theorem dX5_driveFromNodes_50 : decode cX5_driveFromNodes 50 = .ok (.iload_n 1, 1) := by decide +kernel
theorem dX5_driveFromNodes_51 : decode cX5_driveFromNodes 51 = .ok (.aaload, 1) := by decide +kernel
theorem dX5_driveFromNodes_52 : decode cX5_driveFromNodes 52 = .ok (.invokevirtual 205, 3) := by decide +kernel
theorem dJ9_floorMod_7cf53_0 : decode cJ9_floorMod_7cf53 0 = .ok (.iload_n 0, 1) := by decide +kernel
theorem dJ9_floorMod_7cf53_1 : decode cJ9_floorMod_7cf53 1 = .ok (.iload_n 1, 1) := by decide +kernel
theorem dJ9_floorMod_7cf53_2 : decode cJ9_floorMod_7cf53 2 = .ok (.irem, 1) := by decide +kernel
theorem dJ9_floorMod_7cf53_3 : decode cJ9_floorMod_7cf53 3 = .ok (.istore_n 2, 1) := by decide +kernel
theorem dJ9_floorMod_7cf53_4 : decode cJ9_floorMod_7cf53 4 = .ok (.iload_n 0, 1) := by decide +kernel
theorem dJ9_floorMod_7cf53_5 : decode cJ9_floorMod_7cf53 5 = .ok (.iload_n 1, 1) := by decide +kernel
theorem dJ9_floorMod_7cf53_6 : decode cJ9_floorMod_7cf53 6 = .ok (.ixor, 1) := by decide +kernel
theorem dJ9_floorMod_7cf53_7 : decode cJ9_floorMod_7cf53 7 = .ok (.ifCond .ge 11, 3) := by decide +kernel
theorem dJ9_floorMod_7cf53_18 : decode cJ9_floorMod_7cf53 18 = .ok (.iload_n 2, 1) := by decide +kernel
theorem dJ9_floorMod_7cf53_19 : decode cJ9_floorMod_7cf53 19 = .ok (.ireturn, 1) := by decide +kernel
theorem dJ9_floorMod_7cf53_10 : decode cJ9_floorMod_7cf53 10 = .ok (.iload_n 2, 1) := by decide +kernel
theorem dJ9_floorMod_7cf53_11 : decode cJ9_floorMod_7cf53 11 = .ok (.ifCond .eq 7, 3) := by decide +kernel
theorem dJ9_floorMod_7cf53_14 : decode cJ9_floorMod_7cf53 14 = .ok (.iload_n 2, 1) := by decide +kernel
theorem dJ9_floorMod_7cf53_15 : decode cJ9_floorMod_7cf53 15 = .ok (.iload_n 1, 1) := by decide +kernel
theorem dJ9_floorMod_7cf53_16 : decode cJ9_floorMod_7cf53 16 = .ok (.iadd, 1) := by decide +kernel
theorem dJ9_floorMod_7cf53_17 : decode cJ9_floorMod_7cf53 17 = .ok (.ireturn, 1) := by decide +kernel
set_option maxRecDepth 100000 in
set_option maxHeartbeats 4000000 in
/-- Traffic.driveFromNodes -/
theorem c_Traffic_driveFromNodes (l : Launch) (dC : Nat → ClassId) (dI : Nat → Nat → Nat) (cy : Nat → ClassId) (L : Lay) (tr : Option Nat) (a : St) (κ : Kap) (τ : Tau) (M : Nat) (Bd : Nat) (sz : Nat) (hT : TL L tr τ) (hw : Wf M a) (hh : Hid L tr a κ τ) (hMB : M + 12 ≤ Bd) (hB2 : Bd < 30000) : Met l yX5_driveFromNodes (tp_w yX5_driveFromNodes cX5_driveFromNodes 4 none) ({ frames := 4, cells := 12 * cT tr, slots := 12 * pB tr Bd, locals := 99 }) (va_Pc [.ref (L 0 0)] (mPre dC dI cy (TW cy L tr a κ τ) sz)) (va_Qv (fun _ : Unit => True) (fun (_ : Unit) (t : State) => ∃ (κ2 : Kap), ∃ (τ2 : Tau), (Hid L tr (T_nodes a) κ2 τ2) ∧ mw (dC, dI) vwCl (mA (TW cy L tr a κ τ) sz) (TW cy L tr (T_nodes a) κ2 τ2) t.heap) (mA (TW cy L tr a κ τ) sz)) (12 * cT tr) (12 * pB tr Bd) (mA (TW cy L tr a κ τ) sz) := by
  refine Met.ofW (cc := cX5_driveFromNodes) (maxL := 4) (ret := none) (by decide) rfl ?_
  intro p e s m args below meth c s₁ B hml hv
  obtain ⟨rfl, hsz, hP, hK, hE⟩ := hv
  have hx := B.exec
  have hb := B.bytes
  have hr := B.returns
  have hts0 := atoms_spec (ws := tp_w yX5_driveFromNodes cX5_driveFromNodes 4 none) B.pre
  have hts : ∀ w ∈ tp_all, w.before _ s = true := fun w h => hts0 w (List.mem_cons_of_mem _ h)
  have hown : s.vm.findClass RX5 = some m.cls := findClass_of_methodNamed B.named
  have hlocks := B.notSynchronized
  subst hsz
  have hP := hP.self s.heap.size
  generalize hAe : mA (TW cy L tr a κ τ) s.heap.size = A at hP ⊢
  have hA : ∀ q : Nat, s.heap.size ≤ q → A q := fun q h => by rw [← hAe]; exact Or.inr h
  have hS : va_S A s.heap s.heap [] := va_S.rf
  have hl9 := lv_entry ([.ref (L 0 0)]) (n := 4) (Nat.le_of_ble_eq_true rfl)
  rw [lg_entry_eq]
  generalize (lg_sl ([.ref (L 0 0)]) ++ List.replicate (4 - (lg_sl ([.ref (L 0 0)])).length) Slot.unset).toArray = ls at hl9 ⊢
  have hl : lv_has ls 4 [(0, .ref (L 0 0))] := hl9
  refine lv_iconst (v := 0) hx hb dX5_driveFromNodes_0 (by decide) ?_
  refine lv_istore_n (lv' := [(1, .int 0), (0, .ref (L 0 0))]) hx hb dX5_driveFromNodes_1 rfl hl (by decide) rfl (fun ls hl => ?_)
  have hN : nN a ≤ 12 := in_le hw.1.2.1
  refine W.widen (k := (fun i => 0 + cT tr * i) 0) (n := (fun i => 0 + pB tr Bd * i) 0) (Nat.le_refl _) (Nat.le_refl _) ?_
  refine tp_for (σ := Kap × Tau) (nN a) (fun i => 0 + cT tr * i) (fun i => 0 + pB tr Bd * i) (fun (i : Nat) (x : Kap × Tau) (H : Heap) (locs : List Loc) (ls : Array Slot) => Hid L tr (itN (T_node) i a) x.1 x.2 ∧ mw (dC, dI) vwCl A (TW cy L tr (itN (T_node) i a) x.1 x.2) H ∧ va_S A s.heap H locs ∧ lv_has ls 4 [(1, .int (nI i)), (0, .ref (L 0 0))]) ?_ ?_ (nN a) 0 (Nat.zero_add _) (κ, τ) _ _ ls ⟨hh, hP, hS, lv_sub hl [0, 1] rfl⟩
  · rintro ⟨κ9, τ9⟩ H locs ls ⟨hh9, hP, hS, hl⟩
    have hl : lv_has ls 4 [(1, .int (nI (nN a))), (0, .ref (L 0 0))] := hl
    have hP : mw (dC, dI) vwCl A (TW cy L tr (itN (T_node) (nN a) a) κ9 τ9) H := hP
    have hh9 : Hid L tr (itN (T_node) (nN a) a) κ9 τ9 := hh9
    show W _ _ _ _ _ _ _ _ _ _ _ _ (0 + cT tr * (nN a)) (0 + pB tr Bd * (nN a)) _ _
    obtain ⟨b1, eb1⟩ : ∃ z : St, z = itN (T_node) (nN a) a := ⟨_, rfl⟩
    rw [← eb1] at hP
    rw [← eb1] at hh9
    have q3 : cT tr * (nN a) ≤ 12 * cT tr := m_tot hN
    have q4 : pB tr Bd * (nN a) ≤ 12 * pB tr Bd := m_tot hN
    have h0b1 : b1 0 0 2 = a 0 0 2 := by rw [eb1]; exact itN_keep (P := fun b => b 0 0 2 = a 0 0 2) rfl (fun i b h => by rw [T_node_off (by decide) (by decide) (by decide) (by decide) (by decide) (by decide) (by decide) (by decide) (by decide)]; exact h) _
    refine lv_iload_n hx hb dX5_driveFromNodes_2 rfl (lv_at hl 0 rfl) ?_
    refine lv_aload_n hx hb dX5_driveFromNodes_3 rfl (lv_at hl 1 rfl) ?_
    refine va_get (D := (dC, dI)) (ws := [(L 0 0, .inr (5, [.ref (L 1 0), .ref (L 20 0), .ref (L 21 0), .ref (L 22 0), .ref (L 23 0), va_rf tr, .int ((b1 0 0) 0), .int ((b1 0 0) 1), .int ((b1 0 0) 2), .int ((b1 0 0) 3), .int ((b1 0 0) 4), .int ((b1 0 0) 5)]))]) (ci := 5) (v := .int ((b1 0 0) 2)) (C := RX5) (T := TX5) (N := 12) hx hb hts tl_X5 hown hK (hP.one (tw_mem (f := 0) (i := 0) (by decide) rfl)) 0 rfl rfl 8 (by decide) (hts _ tw_890) (fun _ h9 => h9) rfl dX5_driveFromNodes_4 ?_
    refine W.eq (g2 := F0 m 7 ls [.int (nI (nN a)), .int (nI (nN a))]) (by rw [h0b1, in_nI hw.1.2.1]) ?_
    refine lv_icmp_ge (tgt := 61) hx hb dX5_driveFromNodes_7 (by decide) (fun _ => ?_) (fun c_1 => absurd (Int32.le_refl _) c_1)
    refine W.widen (k := 12 * cT tr) (n := 12 * pB tr Bd) (by show 0 + cT tr * (nN a) + 0 ≤ 12 * cT tr; omega) (by show 0 + pB tr Bd * (nN a) + 0 ≤ 12 * pB tr Bd; omega) ?_
    have s_1 : b1 = T_nodes a := by
      rw [eb1]
      rfl
    rw [s_1] at hP
    have g_1 : Hid L tr (T_nodes a) κ9 τ9 := by
      rw [← s_1]
      exact hh9
    exact W.vret hx hb hr (fun t ht hW => ⟨⟨(), rfl, trivial, ⟨κ9, τ9, g_1, by show mw _ _ _ _ t.heap; rw [ht]; exact hP⟩⟩, hS.F ht⟩) hS.2.2 dX5_driveFromNodes_61
  · rintro i ⟨κ9, τ9⟩ H locs ls hi ⟨hh9, hP, hS, hl⟩ ih
    have hl : lv_has ls 4 [(1, .int (nI i)), (0, .ref (L 0 0))] := hl
    have hP : mw (dC, dI) vwCl A (TW cy L tr (itN (T_node) i a) κ9 τ9) H := hP
    have hh9 : Hid L tr (itN (T_node) i a) κ9 τ9 := hh9
    show W _ _ _ _ _ _ _ _ _ _ _ _ (0 + cT tr * i) (0 + pB tr Bd * i) _ _
    obtain ⟨b1, eb1⟩ : ∃ z : St, z = itN (T_node) i a := ⟨_, rfl⟩
    rw [← eb1] at hP
    rw [← eb1] at hh9
    have q1 : cT tr * i + cT tr = cT tr * (i + 1) := (Nat.mul_succ _ _).symm
    have q2 : pB tr Bd * i + pB tr Bd = pB tr Bd * (i + 1) := (Nat.mul_succ _ _).symm
    have q3 : cT tr * (i + 1) ≤ 12 * cT tr := m_tot (by omega)
    have q4 : pB tr Bd * (i + 1) ≤ 12 * pB tr Bd := m_tot (by omega)
    have h0b1 : b1 0 0 2 = a 0 0 2 := by rw [eb1]; exact itN_keep (P := fun b => b 0 0 2 = a 0 0 2) rfl (fun i b h => by rw [T_node_off (by decide) (by decide) (by decide) (by decide) (by decide) (by decide) (by decide) (by decide) (by decide)]; exact h) _
    have hwb1 : Wf (M + 1 * i) b1 := by rw [eb1]; exact itN_up (k := 1) (N := nN a) hw (fun j K b hj hK hb => T_node_Wf (Nat.lt_of_lt_of_le hj (in_le hw.1.2.1)) (by omega) hb) i (Nat.le_of_lt hi)
    refine lv_iload_n hx hb dX5_driveFromNodes_2 rfl (lv_at hl 0 rfl) ?_
    refine lv_aload_n hx hb dX5_driveFromNodes_3 rfl (lv_at hl 1 rfl) ?_
    refine va_get (D := (dC, dI)) (ws := [(L 0 0, .inr (5, [.ref (L 1 0), .ref (L 20 0), .ref (L 21 0), .ref (L 22 0), .ref (L 23 0), va_rf tr, .int ((b1 0 0) 0), .int ((b1 0 0) 1), .int ((b1 0 0) 2), .int ((b1 0 0) 3), .int ((b1 0 0) 4), .int ((b1 0 0) 5)]))]) (ci := 5) (v := .int ((b1 0 0) 2)) (C := RX5) (T := TX5) (N := 12) hx hb hts tl_X5 hown hK (hP.one (tw_mem (f := 0) (i := 0) (by decide) rfl)) 0 rfl rfl 8 (by decide) (hts _ tw_890) (fun _ h9 => h9) rfl dX5_driveFromNodes_4 ?_
    refine W.eq (g2 := F0 m 7 ls [.int (nI (nN a)), .int (nI i)]) (by rw [h0b1, in_nI hw.1.2.1]) ?_
    refine lv_icmp_ge (tgt := 61) hx hb dX5_driveFromNodes_7 (by decide) (fun c_2 => absurd c_2 (nI_ge hi (by omega))) (fun _ => ?_)
    refine lv_aload_n hx hb dX5_driveFromNodes_10 rfl (lv_at hl 1 rfl) ?_
    refine va_get (D := (dC, dI)) (ws := [(L 0 0, .inr (5, [.ref (L 1 0), .ref (L 20 0), .ref (L 21 0), .ref (L 22 0), .ref (L 23 0), va_rf tr, .int ((b1 0 0) 0), .int ((b1 0 0) 1), .int ((b1 0 0) 2), .int ((b1 0 0) 3), .int ((b1 0 0) 4), .int ((b1 0 0) 5)]))]) (ci := 5) (v := .ref (L 21 0)) (C := RX5) (T := TX5) (N := 12) hx hb hts tl_X5 hown hK (hP.one (tw_mem (f := 0) (i := 0) (by decide) rfl)) 0 rfl rfl 2 (by decide) (hts _ tw_877) (fun _ h9 => h9) rfl dX5_driveFromNodes_11 ?_
    refine lv_iload_n hx hb dX5_driveFromNodes_14 rfl (lv_at hl 0 rfl) ?_
    have j_1 : (nI i : Int32).toNatClampNeg = i := m_cl rfl (Nat.lt_of_lt_of_le hi hN) (by decide)
    refine va_aldq hx hb hK (ws := [(L 21 0, .inl (cy 5, 12, .inr (.inr (.inr (.inr (fun j => some (L 12 j)))))))]) (hP.one (tw_mem (f := 21) (i := 0) (by decide) rfl)) 0 5 rfl rfl (m_in rfl (Nat.lt_of_lt_of_le hi hN) (by decide)) dX5_driveFromNodes_15 ?_
    refine W.eq (g2 := F0 m 16 ls [.ref (L 12 i)]) (by first | (rw [j_1]; done) | (rw [j_1]; rfl)) ?_
    refine lv_iconst (v := 0) hx hb dX5_driveFromNodes_16 (by decide) ?_
    have hFc := m_free (C := (TW cy L tr b1 κ9 τ9)) hP hS hA (fun _ _ h => h)
    refine va_calli (va_runV (As := [.int 0]) (rest := []) ⟨hx, hb, hml, hown, hts⟩ (c_Row_get_wait l dC dI cy L tr b1 κ9 τ9 i 0 H.size hh9.1 (Nat.lt_of_lt_of_le hi hN) (hwb1.2.2.1 i (Nat.lt_of_lt_of_le hi hN)).2.2) (tp_cwV 1 hts tw_273 tw_187 tw_188 tw_24 tw_189 rfl rfl (by decide +kernel) ⟨Nat.le_of_ble_eq_true rfl, Nat.le_of_ble_eq_true rfl⟩) ⟨m_blind, va_recv hK (hP.one (e := .inr (3, [.ref (L 13 i), .int ((b1 12 i) 0)])) (tw_mem (f := 12) (i := i) (Nat.lt_of_lt_of_le hi hN) rfl)) (ci := 3) (q0 := 0) rfl rfl, fun U hU hW => ⟨rfl, m_pay hK hP hE (fun _ _ h => h) U hU hW⟩⟩ rfl rfl hl.1 rfl (lv_room (Nat.le_of_ble_eq_true rfl)) dX5_driveFromNodes_17 ⟨(by show 0 + cT tr * i + 0 ≤ 12 * cT tr; omega), (by show 0 + pB tr Bd * i + 0 ≤ 12 * pB tr Bd; omega)⟩) hS (fun q _ h => hFc q h) hFc (fun r_1 u t H1 locs ht hvm hpo hB hz1 hk1 hS => ?_)
    obtain rfl := hpo
    obtain ⟨f_1, hP1⟩ := hB
    subst f_1
    rw [ht] at hP1
    have hP : mw (dC, dI) vwCl A (TW cy L tr b1 κ9 τ9) H1 := hP.join (fun _ _ h => h) hk1 hFc hP1 (fun _ _ h => Or.inl h)
    generalize H1 = H at hP hS ⊢
    clear hP1 hk1 hFc
    refine lv_istore_n (lv' := [(2, .int (R_get (b1 12 i 0) (b1 13 i) 0)), (1, .int (nI i)), (0, .ref (L 0 0))]) hx hb dX5_driveFromNodes_20 rfl hl (by decide) rfl (fun ls hl => ?_)
    refine lv_aload_n hx hb dX5_driveFromNodes_21 rfl (lv_at hl 2 rfl) ?_
    refine lv_iload_n hx hb dX5_driveFromNodes_22 rfl (lv_at hl 0 rfl) ?_
    by_cases c_3 : T_no b1 (R_get (b1 12 i 0) (b1 13 i) 0)
    · have hFc := m_free (C := (TW cy L tr b1 κ9 τ9)) hP hS hA (fun _ _ h => h)
      refine va_callq (va_runV (As := [.int (R_get (b1 12 i 0) (b1 13 i) 0)]) (rest := []) ⟨hx, hb, hml, hown, hts⟩ (c_Traffic_find_none l dC dI cy L tr b1 κ9 τ9 (R_get (b1 12 i 0) (b1 13 i) 0) H.size hh9.1 c_3) (tp_cwV 1 hts tw_274 tw_275 tw_276 tw_21 tw_277 rfl rfl (by decide +kernel) ⟨Nat.le_of_ble_eq_true rfl, Nat.le_of_ble_eq_true rfl⟩) ⟨m_blind, va_recv hK (hP.one (e := .inr (5, [.ref (L 1 0), .ref (L 20 0), .ref (L 21 0), .ref (L 22 0), .ref (L 23 0), va_rf tr, .int ((b1 0 0) 0), .int ((b1 0 0) 1), .int ((b1 0 0) 2), .int ((b1 0 0) 3), .int ((b1 0 0) 4), .int ((b1 0 0) 5)])) (tw_mem (f := 0) (i := 0) (by decide) rfl)) (ci := 5) (q0 := 0) rfl rfl, fun U hU hW => ⟨rfl, m_pay hK hP hE (fun _ _ h => h) U hU hW⟩⟩ rfl rfl hl.1 rfl (lv_room (Nat.le_of_ble_eq_true rfl)) dX5_driveFromNodes_23 ⟨(by show 0 + cT tr * i + 0 + 0 ≤ 12 * cT tr; omega), (by show 0 + pB tr Bd * i + 0 + 0 ≤ 12 * pB tr Bd; omega)⟩) hS (fun q _ h => hFc q h) hFc (fun r_2 u t H1 locs ht hvm hpo hB hz1 hk1 hS => ?_)
      obtain rfl := hpo
      obtain ⟨f_2, hP1⟩ := hB
      subst f_2
      rw [ht] at hP1
      have hP : mw (dC, dI) vwCl A (TW cy L tr b1 κ9 τ9) H1 := hP.join (fun _ _ h => h) hk1 hFc hP1 (fun _ _ h => Or.inl h)
      generalize H1 = H at hP hS ⊢
      clear hP1 hk1 hFc
      refine W.eq (g2 := F0 m 26 ls [.null]) rfl ?_
      refine lv_astore_nN (lv' := [(3, .null), (2, .int (R_get (b1 12 i 0) (b1 13 i) 0)), (1, .int (nI i)), (0, .ref (L 0 0))]) hx hb dX5_driveFromNodes_26 rfl hl (by decide) rfl (fun ls hl => ?_)
      refine lv_aload_nN hx hb dX5_driveFromNodes_27 rfl (lv_at hl 0 rfl) ?_
      refine lv_ifnullN (tgt := 55) hx hb dX5_driveFromNodes_28 (by decide) ?_
      refine lv_iinc (v := nI (i + 1)) (lv' := [(1, .int (nI (i + 1))), (3, .null), (2, .int (R_get (b1 12 i 0) (b1 13 i) 0)), (0, .ref (L 0 0))]) hx hb dX5_driveFromNodes_55 hl (k := 2) rfl (nI_1 i) (by decide) rfl (fun ls hl => ?_)
      refine lv_goto (tgt := 2) hx hb dX5_driveFromNodes_58 (by decide) ?_
      have e9 : b1 = itN (T_node) (i + 1) a := by
        rw [show itN T_node (i + 1) a = T_node i b1 from by rw [eb1]; rfl]
        unfold T_node
        rw [if_pos c_3]
      have hh8 : Hid L tr (itN (T_node) (i + 1) a) κ9 τ9 := by rw [← e9]; exact hh9
      rw [e9] at hP
      refine W.widen (k := (fun i => 0 + cT tr * i) (i + 1)) (n := (fun i => 0 + pB tr Bd * i) (i + 1)) (by show 0 + cT tr * i + 0 + 0 ≤ 0 + cT tr * (i + 1); omega) (by show 0 + pB tr Bd * i + 0 + 0 ≤ 0 + pB tr Bd * (i + 1); omega) ?_
      exact ih (κ9, τ9) _ _ ls ⟨hh8, hP, hS, lv_sub hl [0, 3] rfl⟩
    · have hFc := m_free (C := (TW cy L tr b1 κ9 τ9)) hP hS hA (fun _ _ h => h)
      refine va_callr (va_runV (As := [.int (R_get (b1 12 i 0) (b1 13 i) 0)]) (rest := []) ⟨hx, hb, hml, hown, hts⟩ (c_Traffic_find_some l dC dI cy L tr b1 κ9 τ9 ((M + 1 * i)) (R_get (b1 12 i 0) (b1 13 i) 0) H.size hh9.1 hwb1 c_3) (tp_cwV 1 hts tw_274 tw_275 tw_276 tw_21 tw_277 rfl rfl (by decide +kernel) ⟨Nat.le_of_ble_eq_true rfl, Nat.le_of_ble_eq_true rfl⟩) ⟨m_blind, va_recv hK (hP.one (e := .inr (5, [.ref (L 1 0), .ref (L 20 0), .ref (L 21 0), .ref (L 22 0), .ref (L 23 0), va_rf tr, .int ((b1 0 0) 0), .int ((b1 0 0) 1), .int ((b1 0 0) 2), .int ((b1 0 0) 3), .int ((b1 0 0) 4), .int ((b1 0 0) 5)])) (tw_mem (f := 0) (i := 0) (by decide) rfl)) (ci := 5) (q0 := 0) rfl rfl, fun U hU hW => ⟨rfl, m_pay hK hP hE (fun _ _ h => h) U hU hW⟩⟩ rfl rfl hl.1 rfl (lv_room (Nat.le_of_ble_eq_true rfl)) dX5_driveFromNodes_23 ⟨(by show 0 + cT tr * i + 0 + 0 ≤ 12 * cT tr; omega), (by show 0 + pB tr Bd * i + 0 + 0 ≤ 12 * pB tr Bd; omega)⟩) hS (fun q _ h => hFc q h) hFc (fun u r_3 t H1 locs ht hvm hpo hB hz1 hk1 hS => ?_)
      obtain ⟨f_3, hP1⟩ := hB
      subst f_3
      rw [ht] at hP1
      have hP : mw (dC, dI) vwCl A (TW cy L tr b1 κ9 τ9) H1 := hP.join (fun _ _ h => h) hk1 hFc hP1 (fun _ _ h => Or.inl h)
      generalize H1 = H at hP hS ⊢
      clear hP1 hk1 hFc
      obtain ⟨hvv, hv, hvn⟩ := T_no_in hwb1 c_3
      refine lv_astore_n (lv' := [(3, .ref (L 15 (R_get (b1 12 i 0) (b1 13 i) 0).toNatClampNeg)), (2, .int (R_get (b1 12 i 0) (b1 13 i) 0)), (1, .int (nI i)), (0, .ref (L 0 0))]) hx hb dX5_driveFromNodes_26 rfl hl (by decide) rfl (fun ls hl => ?_)
      refine lv_aload_n hx hb dX5_driveFromNodes_27 rfl (lv_at hl 0 rfl) ?_
      refine lv_ifnull hx hb dX5_driveFromNodes_28 ?_
      refine lv_aload_n hx hb dX5_driveFromNodes_31 rfl (lv_at hl 3 rfl) ?_
      refine lv_iload_n hx hb dX5_driveFromNodes_32 rfl (lv_at hl 1 rfl) ?_
      refine lv_aload_n hx hb dX5_driveFromNodes_33 rfl (lv_at hl 0 rfl) ?_
      refine lv_aload_n hx hb dX5_driveFromNodes_34 rfl (lv_at hl 3 rfl) ?_
      refine lv_aload_n hx hb dX5_driveFromNodes_35 rfl (lv_at hl 0 rfl) ?_
      refine lv_iload_n hx hb dX5_driveFromNodes_36 rfl (lv_at hl 2 rfl) ?_
      have hFc := m_free (C := (TW cy L tr b1 κ9 τ9)) hP hS hA (fun _ _ h => h)
      refine va_calli (va_runV (As := [.ref (L 15 (R_get (b1 12 i 0) (b1 13 i) 0).toNatClampNeg), .int (nI i)]) (rest := [.ref (L 15 (R_get (b1 12 i 0) (b1 13 i) 0).toNatClampNeg), .int (R_get (b1 12 i 0) (b1 13 i) 0), .ref (L 0 0)]) ⟨hx, hb, hml, hown, hts⟩ (c_Traffic_nextOf l dC dI cy L tr b1 κ9 τ9 ((M + 1 * i)) ((R_get (b1 12 i 0) (b1 13 i) 0).toNatClampNeg) (nI i) H.size hh9.1 hwb1 hv (in_nat (by omega) (by decide)) hh9.2.1) (tp_cwV 2 hts tw_294 tw_296 tw_9 tw_21 tw_297 rfl rfl (by decide +kernel) ⟨Nat.le_of_ble_eq_true rfl, Nat.le_of_ble_eq_true rfl⟩) ⟨m_blind, va_recv hK (hP.one (e := .inr (5, [.ref (L 1 0), .ref (L 20 0), .ref (L 21 0), .ref (L 22 0), .ref (L 23 0), va_rf tr, .int ((b1 0 0) 0), .int ((b1 0 0) 1), .int ((b1 0 0) 2), .int ((b1 0 0) 3), .int ((b1 0 0) 4), .int ((b1 0 0) 5)])) (tw_mem (f := 0) (i := 0) (by decide) rfl)) (ci := 5) (q0 := 0) rfl rfl, fun U hU hW => ⟨rfl, m_pay hK hP hE (fun _ _ h => h) U hU hW⟩⟩ rfl rfl hl.1 rfl (lv_room (Nat.le_of_ble_eq_true rfl)) dX5_driveFromNodes_37 ⟨(by show 0 + cT tr * i + 0 + 0 + 0 ≤ 12 * cT tr; omega), (by show 0 + pB tr Bd * i + 0 + 0 + 0 ≤ 12 * pB tr Bd; omega)⟩) hS (fun q _ h => hFc q h) hFc (fun r_4 u t H1 locs ht hvm hpo hB hz1 hk1 hS => ?_)
      obtain rfl := hpo
      obtain ⟨z_1, f_4, f_5, hP1⟩ := hB
      subst f_4
      rw [ht] at hP1
      have hP : mw (dC, dI) vwCl A (TW cy L tr b1 z_1 τ9) H1 := hP.join (fun _ _ h => h) hk1 hFc hP1 (fun _ _ h => Or.inl h)
      generalize H1 = H at hP hS ⊢
      clear hP1 hk1 hFc
      have hh1 : Hid L tr b1 z_1 τ9 := ⟨hh9.1, f_5, hh9.2.2⟩
      have hFc := m_free (C := (TW cy L tr b1 z_1 τ9)) hP hS hA (fun _ _ h => h)
      refine va_calli (va_runV (As := [.int (R_get (b1 12 i 0) (b1 13 i) 0), .ref (L 15 (R_get (b1 12 i 0) (b1 13 i) 0).toNatClampNeg), .int (T_next b1 ((R_get (b1 12 i 0) (b1 13 i) 0).toNatClampNeg) (nI i))]) (rest := []) ⟨hx, hb, hml, hown, hts⟩ (c_Traffic_comesOnto l dC dI cy L tr b1 z_1 τ9 ((M + 1 * i)) Bd ((R_get (b1 12 i 0) (b1 13 i) 0).toNatClampNeg) (R_get (b1 12 i 0) (b1 13 i) 0) (T_next b1 ((R_get (b1 12 i 0) (b1 13 i) 0).toNatClampNeg) (nI i)) H.size hh9.1 hwb1 hh1 hvn hvv (by omega) hB2) (tp_cwV 3 hts tw_303 tw_305 tw_10 tw_21 tw_306 rfl rfl (by decide +kernel) ⟨Nat.le_of_ble_eq_true rfl, Nat.le_of_ble_eq_true rfl⟩) ⟨m_blind, va_recv hK (hP.one (e := .inr (5, [.ref (L 1 0), .ref (L 20 0), .ref (L 21 0), .ref (L 22 0), .ref (L 23 0), va_rf tr, .int ((b1 0 0) 0), .int ((b1 0 0) 1), .int ((b1 0 0) 2), .int ((b1 0 0) 3), .int ((b1 0 0) 4), .int ((b1 0 0) 5)])) (tw_mem (f := 0) (i := 0) (by decide) rfl)) (ci := 5) (q0 := 0) rfl rfl, fun U hU hW => ⟨rfl, m_pay hK hP hE (fun _ _ h => h) U hU hW⟩⟩ rfl rfl hl.1 rfl (lv_room (Nat.le_of_ble_eq_true rfl)) dX5_driveFromNodes_40 ⟨(by show 0 + cT tr * i + 0 + 0 + 0 + (cT tr) ≤ 12 * cT tr; omega), (by show 0 + pB tr Bd * i + 0 + 0 + 0 + (pB tr Bd) ≤ 12 * pB tr Bd; omega)⟩) hS (fun q _ h => hFc q h) hFc (fun r_5 u t H1 locs ht hvm hpo hB hz1 hk1 hS => ?_)
      obtain rfl := hpo
      obtain ⟨z_2, f_6, f_7, hP1⟩ := hB
      subst f_6
      rw [ht] at hP1
      have hP : mw (dC, dI) vwCl A (TW cy L tr ((T_comes b1 ((R_get (b1 12 i 0) (b1 13 i) 0).toNatClampNeg) (R_get (b1 12 i 0) (b1 13 i) 0) (T_next b1 ((R_get (b1 12 i 0) (b1 13 i) 0).toNatClampNeg) (nI i))).1) z_1 z_2) H1 := hP.join (fun _ _ h => h) hk1 hFc hP1 (fun _ _ h => Or.inl h)
      generalize H1 = H at hP hS ⊢
      clear hP1 hk1 hFc
      obtain ⟨b2, eb2⟩ : ∃ z : St, z = (T_comes b1 ((R_get (b1 12 i 0) (b1 13 i) 0).toNatClampNeg) (R_get (b1 12 i 0) (b1 13 i) 0) (T_next b1 ((R_get (b1 12 i 0) (b1 13 i) 0).toNatClampNeg) (nI i))).1 := ⟨_, rfl⟩
      rw [← eb2] at hP
      refine lv_if_eq (tgt := 55) hx hb dX5_driveFromNodes_43 (by decide) (fun c_4 => ?_) (fun c_4 => ?_)
      · refine lv_iinc (v := nI (i + 1)) (lv' := [(1, .int (nI (i + 1))), (3, .ref (L 15 (R_get (b1 12 i 0) (b1 13 i) 0).toNatClampNeg)), (2, .int (R_get (b1 12 i 0) (b1 13 i) 0)), (0, .ref (L 0 0))]) hx hb dX5_driveFromNodes_55 hl (k := 2) rfl (nI_1 i) (by decide) rfl (fun ls hl => ?_)
        refine lv_goto (tgt := 2) hx hb dX5_driveFromNodes_58 (by decide) ?_
        have e9 : b2 = itN (T_node) (i + 1) a := by
          rw [eb2]
          rw [show itN T_node (i + 1) a = T_node i b1 from by rw [eb1]; rfl]
          unfold T_node
          rw [if_neg c_3]
          unfold T_nodeV
          rw [if_pos c_4]
        have hh8 : Hid L tr (itN (T_node) (i + 1) a) z_1 z_2 := by rw [← e9]; exact (by rw [eb2]; exact f_7)
        rw [e9] at hP
        refine W.widen (k := (fun i => 0 + cT tr * i) (i + 1)) (n := (fun i => 0 + pB tr Bd * i) (i + 1)) (by show 0 + cT tr * i + 0 + 0 + 0 + (cT tr) ≤ 0 + cT tr * (i + 1); omega) (by show 0 + pB tr Bd * i + 0 + 0 + 0 + (pB tr Bd) ≤ 0 + pB tr Bd * (i + 1); omega) ?_
        exact ih (z_1, z_2) _ _ ls ⟨hh8, hP, hS, lv_sub hl [0, 3] rfl⟩
      · refine lv_aload_n hx hb dX5_driveFromNodes_46 rfl (lv_at hl 3 rfl) ?_
        refine va_get (D := (dC, dI)) (ws := [(L 0 0, .inr (5, [.ref (L 1 0), .ref (L 20 0), .ref (L 21 0), .ref (L 22 0), .ref (L 23 0), va_rf tr, .int ((b2 0 0) 0), .int ((b2 0 0) 1), .int ((b2 0 0) 2), .int ((b2 0 0) 3), .int ((b2 0 0) 4), .int ((b2 0 0) 5)]))]) (ci := 5) (v := .ref (L 21 0)) (C := RX5) (T := TX5) (N := 12) hx hb hts tl_X5 hown hK (hP.one (tw_mem (f := 0) (i := 0) (by decide) rfl)) 0 rfl rfl 2 (by decide) (hts _ tw_877) (fun _ h9 => h9) rfl dX5_driveFromNodes_47 ?_
        refine lv_iload_n hx hb dX5_driveFromNodes_50 rfl (lv_at hl 2 rfl) ?_
        have j_2 : (nI i : Int32).toNatClampNeg = i := m_cl rfl (Nat.lt_of_lt_of_le hi hN) (by decide)
        refine va_aldq hx hb hK (ws := [(L 21 0, .inl (cy 5, 12, .inr (.inr (.inr (.inr (fun j => some (L 12 j)))))))]) (hP.one (tw_mem (f := 21) (i := 0) (by decide) rfl)) 0 5 rfl rfl (m_in rfl (Nat.lt_of_lt_of_le hi hN) (by decide)) dX5_driveFromNodes_51 ?_
        refine W.eq (g2 := F0 m 52 ls [.ref (L 12 i)]) (by first | (rw [j_2]; done) | (rw [j_2]; rfl)) ?_
        have hFc := m_free (C := (TW cy L tr b2 z_1 z_2)) hP hS hA (fun _ _ h => h)
        refine va_callv (va_runV (As := []) (rest := []) ⟨hx, hb, hml, hown, hts⟩ (c_Row_dropFirst_wait l dC dI cy L tr b2 z_1 z_2 i H.size f_7.1 (Nat.lt_of_lt_of_le hi hN) (by rw [eb2]; exact ((T_comes_Wf hv (by omega) hwb1).2.2.1 i (Nat.lt_of_lt_of_le hi hN)).2.2)) (tp_cwV 0 hts tw_360 tw_352 tw_353 tw_24 tw_354 rfl rfl (by decide +kernel) ⟨Nat.le_of_ble_eq_true rfl, Nat.le_of_ble_eq_true rfl⟩) ⟨m_blind, va_recv hK (hP.one (e := .inr (3, [.ref (L 13 i), .int ((b2 12 i) 0)])) (tw_mem (f := 12) (i := i) (Nat.lt_of_lt_of_le hi hN) rfl)) (ci := 3) (q0 := 0) rfl rfl, fun U hU hW => ⟨rfl, m_pay hK hP hE (fun _ _ h => h) U hU hW⟩⟩ rfl rfl hl.1 rfl (lv_room (Nat.le_of_ble_eq_true rfl)) dX5_driveFromNodes_52 ⟨(by show 0 + cT tr * i + 0 + 0 + 0 + (cT tr) + 0 ≤ 12 * cT tr; omega), (by show 0 + pB tr Bd * i + 0 + 0 + 0 + (pB tr Bd) + 0 ≤ 12 * pB tr Bd; omega)⟩) hS (fun q _ h => hFc q h) hFc (fun u t H1 locs ht hvm hpo hB hz1 hk1 hS => ?_)
        have hP1 := hB
        rw [ht] at hP1
        have hP : mw (dC, dI) vwCl A (TW cy L tr (R_drop 12 13 b2 i) z_1 z_2) H1 := hP.join (fun _ _ h => h) hk1 hFc hP1 (fun _ _ h => Or.inl h)
        generalize H1 = H at hP hS ⊢
        clear hP1 hk1 hFc
        obtain ⟨b3, eb3⟩ : ∃ z : St, z = R_drop 12 13 b2 i := ⟨_, rfl⟩
        rw [← eb3] at hP
        refine lv_iinc (v := nI (i + 1)) (lv' := [(1, .int (nI (i + 1))), (3, .ref (L 15 (R_get (b1 12 i 0) (b1 13 i) 0).toNatClampNeg)), (2, .int (R_get (b1 12 i 0) (b1 13 i) 0)), (0, .ref (L 0 0))]) hx hb dX5_driveFromNodes_55 hl (k := 2) rfl (nI_1 i) (by decide) rfl (fun ls hl => ?_)
        refine lv_goto (tgt := 2) hx hb dX5_driveFromNodes_58 (by decide) ?_
        have e9 : b3 = itN (T_node) (i + 1) a := by
          rw [eb3, eb2]
          rw [show itN T_node (i + 1) a = T_node i b1 from by rw [eb1]; rfl]
          unfold T_node
          rw [if_neg c_3]
          unfold T_nodeV
          rw [if_neg c_4]
        have hh8 : Hid L tr (itN (T_node) (i + 1) a) z_1 z_2 := by rw [← e9]; exact (by rw [eb3, eb2]; exact Hid.same (T_comes_Wf hv (by omega) hwb1) (R_drop_sameR (by decide) (by decide) (by decide) (by decide)) (R_drop_sameT (by decide) (by decide) (by decide) (by decide) (by decide) (by decide)) f_7)
        rw [e9] at hP
        refine W.widen (k := (fun i => 0 + cT tr * i) (i + 1)) (n := (fun i => 0 + pB tr Bd * i) (i + 1)) (by show 0 + cT tr * i + 0 + 0 + 0 + (cT tr) + 0 ≤ 0 + cT tr * (i + 1); omega) (by show 0 + pB tr Bd * i + 0 + 0 + 0 + (pB tr Bd) + 0 ≤ 0 + pB tr Bd * (i + 1); omega) ?_
        exact ih (z_1, z_2) _ _ ls ⟨hh8, hP, hS, lv_sub hl [0, 3] rfl⟩
set_option maxRecDepth 100000 in
set_option maxHeartbeats 4000000 in
/-- Math.floorMod -/
theorem c_floorMod (l : Launch) (dC : Nat → ClassId) (dI : Nat → Nat → Nat) (cy : Nat → ClassId) (P9 : mP) (x : Int32) (y : Int32) (sz : Nat) (hy : ¬ y = 0) : Met l yJ9_floorMod_7cf53 (tp_w yJ9_floorMod_7cf53 cJ9_floorMod_7cf53 3 (some .int)) ({ frames := 0, cells := 0, slots := 0, locals := 0 }) (va_Pc [.int x, .int y] (mPre dC dI cy P9 sz)) (va_Qi (fun (r u : Int32) => r = u) (fun (u : Int32) (t : State) => (u = fmod x y) ∧ mw (dC, dI) vwCl (mA P9 sz) P9 t.heap) (mA P9 sz)) (0) (0) (mA P9 sz) := by
  refine m_ofWF (cc := cJ9_floorMod_7cf53) (maxL := 3) (ret := (some .int)) (by decide +kernel) rfl ?_
  intro p e s m args below meth c s₁ B hml hv
  obtain ⟨rfl, hsz, hP, hK, hE⟩ := hv
  have hx := B.exec
  have hb := B.bytes
  have hr := B.returns
  have hts0 := atoms_spec (ws := tp_w yJ9_floorMod_7cf53 cJ9_floorMod_7cf53 3 (some .int)) B.pre
  have hts : ∀ w ∈ tp_all, w.before _ s = true := fun w h => hts0 w (List.mem_cons_of_mem _ h)
  have hown : s.vm.findClass RJ9 = some m.cls := findClass_of_methodNamed B.named
  have hlocks := B.notSynchronized
  subst hsz
  have hP := hP.self s.heap.size
  generalize hAe : mA P9 s.heap.size = A at hP ⊢
  have hA : ∀ q : Nat, s.heap.size ≤ q → A q := fun q h => by rw [← hAe]; exact Or.inr h
  have hS : va_S A s.heap s.heap [] := va_S.rf
  have hl9 := lv_entry ([.int x, .int y]) (n := 3) (Nat.le_of_ble_eq_true rfl)
  rw [lg_entry_eq]
  generalize (lg_sl ([.int x, .int y]) ++ List.replicate (3 - (lg_sl ([.int x, .int y])).length) Slot.unset).toArray = ls at hl9 ⊢
  have hl : lv_has ls 3 [(0, .int x), (1, .int y)] := hl9
  refine lv_iload_n hx hb dJ9_floorMod_7cf53_0 rfl (lv_at hl 0 rfl) ?_
  refine lv_iload_n hx hb dJ9_floorMod_7cf53_1 rfl (lv_at hl 1 rfl) ?_
  refine lv_irem hx hb dJ9_floorMod_7cf53_2 hy ?_
  refine lv_istore_n (lv' := [(2, .int (x - x / y * y)), (0, .int x), (1, .int y)]) hx hb dJ9_floorMod_7cf53_3 rfl hl (by decide) rfl (fun ls hl => ?_)
  refine lv_iload_n hx hb dJ9_floorMod_7cf53_4 rfl (lv_at hl 1 rfl) ?_
  refine lv_iload_n hx hb dJ9_floorMod_7cf53_5 rfl (lv_at hl 2 rfl) ?_
  refine lv_ixor hx hb dJ9_floorMod_7cf53_6 ?_
  refine lv_if_ge (tgt := 18) hx hb dJ9_floorMod_7cf53_7 (by decide) (fun c_1 => ?_) (fun c_1 => ?_)
  · refine lv_iload_n hx hb dJ9_floorMod_7cf53_18 rfl (lv_at hl 0 rfl) ?_
    refine W.widen (k := 0) (n := 0) (Nat.le_of_ble_eq_true rfl) (Nat.le_of_ble_eq_true rfl) ?_
    have g_1 : (x - x / y * y) = fmod x y := by
      first | rfl | assumption | (simp only [fmod, if_pos c_1])
    exact W.iret (v := x - x / y * y) hx hb hr (fun t ht hW => ⟨⟨(x - x / y * y), (x - x / y * y), rfl, rfl, ⟨g_1, by show mw _ _ _ _ t.heap; rw [ht]; exact hP⟩⟩, hS.F ht⟩) hS.2.2 dJ9_floorMod_7cf53_19
  · refine lv_iload_n hx hb dJ9_floorMod_7cf53_10 rfl (lv_at hl 0 rfl) ?_
    refine lv_if_eq (tgt := 18) hx hb dJ9_floorMod_7cf53_11 (by decide) (fun c_2 => ?_) (fun c_2 => ?_)
    · refine lv_iload_n hx hb dJ9_floorMod_7cf53_18 rfl (lv_at hl 0 rfl) ?_
      refine W.widen (k := 0) (n := 0) (Nat.le_of_ble_eq_true rfl) (Nat.le_of_ble_eq_true rfl) ?_
      have g_2 : (x - x / y * y) = fmod x y := by
        first | rfl | assumption | (simp only [fmod, if_neg c_1, if_pos c_2])
      exact W.iret (v := x - x / y * y) hx hb hr (fun t ht hW => ⟨⟨(x - x / y * y), (x - x / y * y), rfl, rfl, ⟨g_2, by show mw _ _ _ _ t.heap; rw [ht]; exact hP⟩⟩, hS.F ht⟩) hS.2.2 dJ9_floorMod_7cf53_19
    · refine lv_iload_n hx hb dJ9_floorMod_7cf53_14 rfl (lv_at hl 0 rfl) ?_
      refine lv_iload_n hx hb dJ9_floorMod_7cf53_15 rfl (lv_at hl 2 rfl) ?_
      refine lv_iadd hx hb dJ9_floorMod_7cf53_16 ?_
      refine W.widen (k := 0) (n := 0) (Nat.le_of_ble_eq_true rfl) (Nat.le_of_ble_eq_true rfl) ?_
      have g_3 : ((x - x / y * y) + y) = fmod x y := by
        first | rfl | assumption | (simp only [fmod, if_neg c_1, if_neg c_2])
      exact W.iret (v := (x - x / y * y) + y) hx hb hr (fun t ht hW => ⟨⟨((x - x / y * y) + y), ((x - x / y * y) + y), rfl, rfl, ⟨g_3, by show mw _ _ _ _ t.heap; rw [ht]; exact hP⟩⟩, hS.F ht⟩) hS.2.2 dJ9_floorMod_7cf53_17

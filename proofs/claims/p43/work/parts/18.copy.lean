theorem tw_370 : Cond.arrayClass .long ∈ tp_all := tp_mem 370 (by decide +kernel) rfl
theorem tw_337 : Cond.methodLink RJ7 304 yJ9_min_7cf53 ∈ tp_all := tp_mem 337 (by decide +kernel) rfl
theorem tw_338 : Cond.static yJ9_min_7cf53 ∈ tp_all := tp_mem 338 (by decide +kernel) rfl
theorem tw_339 : Cond.code yJ9_min_7cf53 cJ9_min_7cf53 2 (some .int) ∈ tp_all := tp_mem 339 (by decide +kernel) rfl
theorem tw_340 : Cond.methodLink RJ7 150 ⟨"java/lang/System", "arraycopy", "(Ljava/lang/Object;ILjava/lang/Object;II)V"⟩ ∈ tp_all := tp_mem 340 (by decide +kernel) rfl
theorem dX8_isWithin_0 : decode cX8_isWithin 0 = .ok (.iload_n 0, 1) := by decide +kernel
theorem dX8_isWithin_1 : decode cX8_isWithin 1 = .ok (.iload_n 1, 1) := by decide +kernel
theorem dX8_isWithin_2 : decode cX8_isWithin 2 = .ok (.if_icmp .lt 12, 3) := by decide +kernel
theorem dX8_isWithin_14 : decode cX8_isWithin 14 = .ok (.iconst 0, 1) := by decide +kernel
theorem dX8_isWithin_15 : decode cX8_isWithin 15 = .ok (.ireturn, 1) := by decide +kernel
theorem dX8_isWithin_5 : decode cX8_isWithin 5 = .ok (.iload_n 0, 1) := by decide +kernel
theorem dX8_isWithin_6 : decode cX8_isWithin 6 = .ok (.iload_n 2, 1) := by decide +kernel
theorem dX8_isWithin_7 : decode cX8_isWithin 7 = .ok (.if_icmp .gt 7, 3) := by decide +kernel
theorem dX8_isWithin_10 : decode cX8_isWithin 10 = .ok (.iconst 1, 1) := by decide +kernel
theorem dX8_isWithin_11 : decode cX8_isWithin 11 = .ok (.goto 4, 3) := by decide +kernel
theorem dJ7_copyOf_c38d5_0 : decode cJ7_copyOf_c38d5 0 = .ok (.iload_n 1, 1) := by decide +kernel
theorem dJ7_copyOf_c38d5_1 : decode cJ7_copyOf_c38d5 1 = .ok (.aload_n 0, 1) := by decide +kernel
theorem dJ7_copyOf_c38d5_2 : decode cJ7_copyOf_c38d5 2 = .ok (.arraylength, 1) := by decide +kernel
theorem dJ7_copyOf_c38d5_3 : decode cJ7_copyOf_c38d5 3 = .ok (.if_icmp .ne 11, 3) := by decide +kernel
theorem dJ7_copyOf_c38d5_14 : decode cJ7_copyOf_c38d5 14 = .ok (.iload_n 1, 1) := by decide +kernel
theorem dJ7_copyOf_c38d5_15 : decode cJ7_copyOf_c38d5 15 = .ok (.newarray .long, 2) := by decide +kernel
theorem dJ7_copyOf_c38d5_17 : decode cJ7_copyOf_c38d5 17 = .ok (.astore_n 2, 1) := by decide +kernel
theorem dJ7_copyOf_c38d5_18 : decode cJ7_copyOf_c38d5 18 = .ok (.aload_n 0, 1) := by decide +kernel
theorem dJ7_copyOf_c38d5_19 : decode cJ7_copyOf_c38d5 19 = .ok (.iconst 0, 1) := by decide +kernel
theorem dJ7_copyOf_c38d5_20 : decode cJ7_copyOf_c38d5 20 = .ok (.aload_n 2, 1) := by decide +kernel
theorem dJ7_copyOf_c38d5_21 : decode cJ7_copyOf_c38d5 21 = .ok (.iconst 0, 1) := by decide +kernel
theorem dJ7_copyOf_c38d5_22 : decode cJ7_copyOf_c38d5 22 = .ok (.aload_n 0, 1) := by decide +kernel
theorem dJ7_copyOf_c38d5_23 : decode cJ7_copyOf_c38d5 23 = .ok (.arraylength, 1) := by decide +kernel
theorem dJ7_copyOf_c38d5_24 : decode cJ7_copyOf_c38d5 24 = .ok (.iload_n 1, 1) := by decide +kernel
theorem dJ7_copyOf_c38d5_25 : decode cJ7_copyOf_c38d5 25 = .ok (.invokestatic 304, 3) := by decide +kernel
theorem dJ7_copyOf_c38d5_28 : decode cJ7_copyOf_c38d5 28 = .ok (.invokestatic 150, 3) := by decide +kernel
theorem dJ7_copyOf_c38d5_31 : decode cJ7_copyOf_c38d5 31 = .ok (.aload_n 2, 1) := by decide +kernel
theorem dJ7_copyOf_c38d5_32 : decode cJ7_copyOf_c38d5 32 = .ok (.areturn, 1) := by decide +kernel
set_option maxRecDepth 100000 in
set_option maxHeartbeats 4000000 in
/-- Turnpike.isWithin -/
theorem c_isWithin (l : Launch) (dC : Nat → ClassId) (dI : Nat → Nat → Nat) (cy : Nat → ClassId) (P9 : mP) (x : Int32) (lo : Int32) (up : Int32) (sz : Nat) : Met l yX8_isWithin (tp_w yX8_isWithin cX8_isWithin 3 (some .boolean)) ({ frames := 0, cells := 0, slots := 0, locals := 0 }) (va_Pc [.int x, .int lo, .int up] (mPre dC dI cy P9 sz)) (va_Qi (fun (r u : Int32) => r = u) (fun (u : Int32) (t : State) => (u = W_in x lo up) ∧ mw (dC, dI) vwCl (mA P9 sz) P9 t.heap) (mA P9 sz)) (0) (0) (mA P9 sz) := by
  refine Met.ofW (cc := cX8_isWithin) (maxL := 3) (ret := (some .boolean)) (by decide) rfl ?_
  intro p e s m args below meth c s₁ B hml hv
  obtain ⟨rfl, hsz, hP, hK, hE⟩ := hv
  have hx := B.exec
  have hb := B.bytes
  have hr := B.returns
  have hts0 := atoms_spec (ws := tp_w yX8_isWithin cX8_isWithin 3 (some .boolean)) B.pre
  have hts : ∀ w ∈ tp_all, w.before _ s = true := fun w h => hts0 w (List.mem_cons_of_mem _ h)
  have hown : s.vm.findClass RX8 = some m.cls := findClass_of_methodNamed B.named
  have hlocks := B.notSynchronized
  subst hsz
  have hP := hP.self s.heap.size
  generalize hAe : mA P9 s.heap.size = A at hP ⊢
  have hA : ∀ q : Nat, s.heap.size ≤ q → A q := fun q h => by rw [← hAe]; exact Or.inr h
  have hS : va_S A s.heap s.heap [] := va_S.rf
  have hl9 := lv_entry ([.int x, .int lo, .int up]) (n := 3) (Nat.le_of_ble_eq_true rfl)
  rw [lg_entry_eq]
  generalize (lg_sl ([.int x, .int lo, .int up]) ++ List.replicate (3 - (lg_sl ([.int x, .int lo, .int up])).length) Slot.unset).toArray = ls at hl9 ⊢
  have hl : lv_has ls 3 [(0, .int x), (1, .int lo), (2, .int up)] := hl9
  refine lv_iload_n hx hb dX8_isWithin_0 rfl (lv_at hl 0 rfl) ?_
  refine lv_iload_n hx hb dX8_isWithin_1 rfl (lv_at hl 1 rfl) ?_
  refine lv_icmp_lt (tgt := 14) hx hb dX8_isWithin_2 (by decide) (fun c_1 => ?_) (fun c_1 => ?_)
  · refine lv_iconst (v := 0) hx hb dX8_isWithin_14 (by decide) ?_
    refine W.widen (k := 0) (n := 0) (Nat.le_of_ble_eq_true rfl) (Nat.le_of_ble_eq_true rfl) ?_
    have g_1 : 0 = W_in x lo up := by
      first | rfl | assumption | (simp only [W_in, if_pos c_1])
    exact W.zret (v := 0) hx hb hr rfl (fun t ht hW => ⟨⟨0, 0, rfl, rfl, ⟨g_1, by show mw _ _ _ _ t.heap; rw [ht]; exact hP⟩⟩, hS.F ht⟩) hS.2.2 dX8_isWithin_15
  · refine lv_iload_n hx hb dX8_isWithin_5 rfl (lv_at hl 0 rfl) ?_
    refine lv_iload_n hx hb dX8_isWithin_6 rfl (lv_at hl 2 rfl) ?_
    refine lv_icmp_gt (tgt := 14) hx hb dX8_isWithin_7 (by decide) (fun c_2 => ?_) (fun c_2 => ?_)
    · refine lv_iconst (v := 0) hx hb dX8_isWithin_14 (by decide) ?_
      refine W.widen (k := 0) (n := 0) (Nat.le_of_ble_eq_true rfl) (Nat.le_of_ble_eq_true rfl) ?_
      have g_2 : 0 = W_in x lo up := by
        first | rfl | assumption | (simp only [W_in, if_neg c_1, if_pos c_2])
      exact W.zret (v := 0) hx hb hr rfl (fun t ht hW => ⟨⟨0, 0, rfl, rfl, ⟨g_2, by show mw _ _ _ _ t.heap; rw [ht]; exact hP⟩⟩, hS.F ht⟩) hS.2.2 dX8_isWithin_15
    · refine lv_iconst (v := 1) hx hb dX8_isWithin_10 (by decide) ?_
      refine lv_goto (tgt := 15) hx hb dX8_isWithin_11 (by decide) ?_
      refine W.widen (k := 0) (n := 0) (Nat.le_of_ble_eq_true rfl) (Nat.le_of_ble_eq_true rfl) ?_
      have g_3 : 1 = W_in x lo up := by
        first | rfl | assumption | (simp only [W_in, if_neg c_1, if_neg c_2])
      exact W.zret (v := 1) hx hb hr rfl (fun t ht hW => ⟨⟨1, 1, rfl, rfl, ⟨g_3, by show mw _ _ _ _ t.heap; rw [ht]; exact hP⟩⟩, hS.F ht⟩) hS.2.2 dX8_isWithin_15
set_option maxRecDepth 100000 in
set_option maxHeartbeats 4000000 in
/-- Arrays.copyOf of longs, to a longer row -/
theorem c_copyOf (l : Launch) (dC : Nat → ClassId) (dI : Nat → Nat → Nat) (cy : Nat → ClassId) (P9 : mP) (a0 : Nat) (n : Nat) (fl : Nat → Int64) (nl : Int32) (sz : Nat) (hm : P9 a0 (.inl (cy 1, n, .inr (.inl (fl))))) (hn : n < 1000000) (hnl : ¬ nl < 0) (hgt : n < nl.toNatClampNeg) (hsz : nl.toNatClampNeg < 1000000) : Met l yJ7_copyOf_c38d5 (tp_w yJ7_copyOf_c38d5 cJ7_copyOf_c38d5 3 (some (.array .long))) ({ frames := 1, cells := 1, slots := nl.toNatClampNeg, locals := 18 }) (va_Pc [.ref a0, .int nl] (mPre dC dI cy P9 sz)) (va_Qr (fun _ : Unit => True) (fun (_ : Unit) (rv : Nat) (t : State) => (∀ q e, P9 q e → q ≠ rv) ∧ mw (dC, dI) vwCl (mA P9 sz) (madd P9 rv (.inl (cy 1, nl.toNatClampNeg, .inr (.inl (va_cpy fl (fun _ => 0) 0 0 n))))) t.heap) (mA P9 sz)) (1) (nl.toNatClampNeg) (mA P9 sz) := by
  refine Met.ofW (cc := cJ7_copyOf_c38d5) (maxL := 3) (ret := (some (.array .long))) (by decide) rfl ?_
  intro p e s m args below meth c s₁ B hml hv
  obtain ⟨rfl, hsz, hP, hK, hE⟩ := hv
  have hx := B.exec
  have hb := B.bytes
  have hr := B.returns
  have hts0 := atoms_spec (ws := tp_w yJ7_copyOf_c38d5 cJ7_copyOf_c38d5 3 (some (.array .long))) B.pre
  have hts : ∀ w ∈ tp_all, w.before _ s = true := fun w h => hts0 w (List.mem_cons_of_mem _ h)
  have hown : s.vm.findClass RJ7 = some m.cls := findClass_of_methodNamed B.named
  have hlocks := B.notSynchronized
  subst hsz
  have hP := hP.self s.heap.size
  generalize hAe : mA P9 s.heap.size = A at hP ⊢
  have hA : ∀ q : Nat, s.heap.size ≤ q → A q := fun q h => by rw [← hAe]; exact Or.inr h
  have hS : va_S A s.heap s.heap [] := va_S.rf
  have hl9 := lv_entry ([.ref a0, .int nl]) (n := 3) (Nat.le_of_ble_eq_true rfl)
  rw [lg_entry_eq]
  generalize (lg_sl ([.ref a0, .int nl]) ++ List.replicate (3 - (lg_sl ([.ref a0, .int nl])).length) Slot.unset).toArray = ls at hl9 ⊢
  have hl : lv_has ls 3 [(0, .ref a0), (1, .int nl)] := hl9
  refine lv_iload_n hx hb dJ7_copyOf_c38d5_0 rfl (lv_at hl 1 rfl) ?_
  refine lv_aload_n hx hb dJ7_copyOf_c38d5_1 rfl (lv_at hl 0 rfl) ?_
  have hnz : nl = nI nl.toNatClampNeg := m_nI hnl
  refine va_alen hx hb hK (ws := [(a0, .inl (cy 1, n, .inr (.inl (fl))))]) (hP.one hm) 0 1 rfl rfl (v := nI n) rfl dJ7_copyOf_c38d5_2 ?_
  refine lv_icmp_ne (tgt := 14) hx hb dJ7_copyOf_c38d5_3 (by decide) (fun _ => ?_) (fun c_1 => absurd c_1 (fun h9 => absurd (by rw [h9, nI_clamp (by omega)] at hgt; exact hgt) (Nat.lt_irrefl n)))
  refine lv_iload_n hx hb dJ7_copyOf_c38d5_14 rfl (lv_at hl 1 rfl) ?_
  obtain ⟨ws9, hPw, hDw, hin9, hbk⟩ := hP.push
  refine va_newa hx hb (atype := .long) (hts _ tw_370) (ty := .long) rfl hK hPw hDw hS hA (a0 := (nl.toNatClampNeg, .inr (.inl (fun _ => 0)))) (N' := nl.toNatClampNeg) (fun _ => rfl) hnl rfl (by show nl.toNatClampNeg * 8 ≤ 536870912; omega) (by show 0 + 1 ≤ 1; omega) (by show 0 + nl.toNatClampNeg ≤ nl.toNatClampNeg; omega) dJ7_copyOf_c38d5_15 (fun q9 k9 H hK9 hPw hDw hS => ?_)
  obtain rfl : k9 = cy 1 := tp_one hK9 11 1 rfl rfl
  obtain ⟨hP, hfr⟩ := hbk _ _ _ hPw hDw
  clear hbk hPw hDw hin9
  refine lv_astore_n (lv' := [(2, .ref q9), (0, .ref a0), (1, .int nl)]) hx hb dJ7_copyOf_c38d5_17 rfl hl (by decide) rfl (fun ls hl => ?_)
  refine lv_aload_n hx hb dJ7_copyOf_c38d5_18 rfl (lv_at hl 1 rfl) ?_
  refine lv_iconst (v := 0) hx hb dJ7_copyOf_c38d5_19 (by decide) ?_
  refine lv_aload_n hx hb dJ7_copyOf_c38d5_20 rfl (lv_at hl 0 rfl) ?_
  refine lv_iconst (v := 0) hx hb dJ7_copyOf_c38d5_21 (by decide) ?_
  refine lv_aload_n hx hb dJ7_copyOf_c38d5_22 rfl (lv_at hl 1 rfl) ?_
  have hm2 : madd P9 q9 (.inl (cy 1, nl.toNatClampNeg, .inr (.inl (fun _ => 0)))) a0 (.inl (cy 1, n, .inr (.inl (fl)))) := Or.inl hm
  have hm3 : madd P9 q9 (.inl (cy 1, nl.toNatClampNeg, .inr (.inl (fun _ => 0)))) q9 (.inl (cy 1, nl.toNatClampNeg, .inr (.inl (fun _ => 0)))) := Or.inr ⟨rfl, rfl⟩
  refine va_alen hx hb hK (ws := [(a0, .inl (cy 1, n, .inr (.inl (fl))))]) (hP.one hm2) 0 1 rfl rfl (v := nI n) rfl dJ7_copyOf_c38d5_23 ?_
  refine lv_iload_n hx hb dJ7_copyOf_c38d5_24 rfl (lv_at hl 2 rfl) ?_
  refine va_mmin hx hb (hml.trans hl.1.symm) hown (hts _ tw_337) (hts _ tw_338) (hts _ tw_25) (hts _ tw_339) (Nat.le_of_ble_eq_true rfl) (Nat.le_of_ble_eq_true rfl) (Nat.le_of_ble_eq_true rfl) (by show 0 + nl.toNatClampNeg + 0 ≤ nl.toNatClampNeg; omega) dJ7_copyOf_c38d5_25 ?_
  have hmin : (if nl < nI n then nl else nI n) = nI n := if_neg (by rw [hnz]; exact nI_nlt (by omega) (by omega))
  refine W.eq (g2 := F0 m 28 ls [.int (nI n), .int 0, .ref q9, .int 0, .ref a0]) (by rw [hmin]) ?_
  obtain ⟨ws9, k9, hPw, hDw, hk9, hin9, hbk⟩ := hP.cut hm3
  obtain ⟨k8, hk8⟩ := hin9 _ _ hm2
  refine va_copyl hx hb (hml.trans hl.1.symm) hown (hts _ tw_340) (hts _ tw_342) (hts _ tw_341) (hts _ tw_36) hK hPw hDw hS k8 k9 1 1 hk8 hk9 rfl rfl rfl (by decide) (by decide) (nI_pos (by omega)) (by rw [nI_clamp (by omega)]; show 0 + n ≤ n; omega) (by rw [nI_clamp (by omega)]; show 0 + n ≤ _; omega) (fun _ _ => rfl) (Nat.le_of_ble_eq_true rfl) (Nat.le_of_ble_eq_true rfl) dJ7_copyOf_c38d5_28 (fun H locs hPw hDw hS => ?_)
  rw [nI_clamp (by omega), show (0 : Int32).toNatClampNeg = 0 from rfl] at hPw hDw
  have hP : mw (dC, dI) vwCl A (madd P9 q9 (.inl (cy 1, nl.toNatClampNeg, .inr (.inl (va_cpy fl (fun _ => 0) 0 0 n))))) H := (hbk _ _ hPw hDw).sub (fun q e h => h.elim (fun h => Or.inr ⟨hfr q e h, Or.inl h⟩) (fun h => Or.inl h))
  refine lv_aload_n hx hb dJ7_copyOf_c38d5_31 rfl (lv_at hl 0 rfl) ?_
  refine W.widen (k := 1) (n := nl.toNatClampNeg) (by omega) (by omega) ?_
  exact W.aret (v := .ref q9) hx hb hr (Or.inr ⟨_, rfl⟩) (Or.inr ⟨_, rfl⟩) (fun t ht hW => ⟨⟨(), q9, rfl, trivial, hfr, by show mw _ _ _ _ t.heap; rw [ht]; exact hP⟩, hS.F ht⟩) hS.2.2 dJ7_copyOf_c38d5_32

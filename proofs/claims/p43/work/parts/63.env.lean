theorem tq_arr1 {args : Array Value} {s : State} {t : FieldType} (hne : ∀ C, t ≠ .object C) (h : (Cond.arrayClass t).before args s = true) : ∃ cA : ClassId, ArrOfT s cA t ∧ va_RA s cA t := by
  obtain ⟨c, k, comp, h1, h2, h3⟩ := Cond.arrayClass_spec (args := args) (first := s) (o := none) (s := s) (idx := []) h
  refine ⟨c, fun n z => ⟨(fun k9 h9 => by cases h9), k, h2, comp, h3⟩, ?_⟩
  cases t with
  | object C => exact absurd rfl (hne C)
  | _ => exact h1
theorem tq_arr2 {args : Array Value} {s : State} {C : String} (h : (Cond.arrayOver (.object C)).before args s = true) : ∃ cA : ClassId, ArrOfT s cA (.object C) ∧ va_RA s cA (.object C) := by
  obtain ⟨comp, c, k, h1, h2, h3, h4, h5⟩ := Cond.arrayOver_spec (args := args) (first := s) (o := none) (s := s) (idx := []) h
  exact ⟨c, fun n z => ⟨(fun k9 h9 => by cases h9), k, h3, comp, h4⟩, k, comp, h3, h4, h1, h5⟩
theorem tq_arr3 {args : Array Value} {s : State} {t : FieldType} (h : (Cond.arrayOver (.array t)).before args s = true) : ∃ cA : ClassId, ArrOfT s cA (.array t) ∧ va_RA s cA (.array t) := by
  obtain ⟨comp, c, k, h1, h2, h3, h4, h5⟩ := Jvm.Stand.arrayOver_specB (args := args) (first := s) (o := none) (s := s) (idx := []) h
  exact ⟨c, fun n z => ⟨(fun k9 h9 => by cases h9), k, h3, comp, h4⟩, h5⟩
theorem tq_fln : ∀ q ∈ tp_fln, Cond.fieldLinkNest q.1 q.2.1 q.2.2.1 q.2.2.2.1 q.2.2.2.2.1 q.2.2.2.2.2 ∈ lw_tbl := by decide +kernel
theorem tq_mln : ∀ q ∈ tp_mln, Cond.methodLinkNest q.1 q.2.1 q.2.2.1 q.2.2.2 ∈ lw_tbl := by decide +kernel
theorem tq_aos : ∀ x ∈ tp_aos, Cond.arrayOver (.object x) ∈ lw_tbl := by decide +kernel
theorem tq_aoa : ∀ x ∈ tp_aoa, Cond.arrayOver (.array x) ∈ lw_tbl := by decide +kernel
theorem tq_E {s : State} {args : Array Value} (hts : ∀ w ∈ lw_tbl, w.before args s = true) : tp_E s :=
  ⟨fun q m => va_Nw.of rfl (hts _ (tq_fln q m)), fun q m => va_Nw.of rfl (hts _ (tq_mln q m)), fun x m => va_AO.of (hts _ (tq_aos x m)), fun x m => va_AOA.of (hts _ (tq_aoa x m))⟩
theorem tw_577 : Cond.instantiable RX9 25 ∈ tp_all := tp_mem 577 (by decide +kernel) rfl
theorem tq_K {s : State} {args : Array Value} (hta : ∀ w ∈ tp_all, w.before args s = true) (hE : tp_E s) : ∃ (dC : Nat → ClassId) (dI : Nat → Nat → Nat) (cy : Nat → ClassId), va_K (dC, dI) vwCl (tp_ty cy) s := by
  obtain ⟨c0, i0, k0⟩ := u_known (C := RX0) (T := TX0) (N := 12) (n := 12) hta tl_X0 (hta _ tw_759)
  obtain ⟨c1, i1, k1⟩ := u_known (C := RX1) (T := TX1) (N := 16) (n := 16) hta tl_X1 (hta _ tw_602)
  obtain ⟨c2, i2, k2⟩ := u_known (C := RX2) (T := TX2) (N := 4) (n := 4) hta tl_X2 (hta _ tw_593)
  obtain ⟨c3, i3, k3⟩ := u_known (C := RX3) (T := TX3) (N := 2) (n := 2) hta tl_X3 (hta _ tw_608)
  obtain ⟨c4, i4, k4⟩ := u_known (C := RX4) (T := TX4) (N := 6) (n := 6) hta tl_X4 (hta _ tw_243)
  obtain ⟨c5, i5, k5⟩ := u_known (C := RX5) (T := TX5) (N := 12) (n := 12) hta tl_X5 (hta _ tw_194)
  obtain ⟨c6, i6, k6⟩ := u_known (C := RX6) (T := TX6) (N := 1) (n := 1) hta tl_X6 (hta _ tw_720)
  obtain ⟨c7, i7, k7⟩ := u_known (C := RX7) (T := TX7) (N := 13) (n := 13) hta tl_X7 (hta _ tw_813)
  obtain ⟨c8, i8, k8⟩ := u_known (C := RX8) (T := TX8) (N := 2) (n := 2) hta tl_X8 (hta _ tw_125)
  obtain ⟨c9, i9, k9⟩ := u_known (C := RX9) (T := TX9) (N := 25) (n := 25) hta tl_X9 (hta _ tw_577)
  obtain ⟨y0, p0, r0⟩ := tq_arr1 (t := .int) (fun _ h => by cases h) (hta _ tw_623)
  obtain ⟨y1, p1, r1⟩ := tq_arr1 (t := .long) (fun _ h => by cases h) (hta _ tw_370)
  obtain ⟨y2, p2, r2⟩ := tq_arr1 (t := .boolean) (fun _ h => by cases h) (hta _ tw_1014)
  obtain ⟨y3, p3, r3⟩ := tq_arr2 (args := #[]) (C := RX1) (va_AO.use (hE.2.2.1 _ (List.mem_of_getElem? (i := 0) rfl)))
  obtain ⟨y4, p4, r4⟩ := tq_arr2 (args := #[]) (C := RX4) (va_AO.use (hE.2.2.1 _ (List.mem_of_getElem? (i := 1) rfl)))
  obtain ⟨y5, p5, r5⟩ := tq_arr2 (args := #[]) (C := RX3) (va_AO.use (hE.2.2.1 _ (List.mem_of_getElem? (i := 2) rfl)))
  obtain ⟨y6, p6, r6⟩ := tq_arr2 (args := #[]) (C := RX0) (va_AO.use (hE.2.2.1 _ (List.mem_of_getElem? (i := 3) rfl)))
  obtain ⟨y7, p7, r7⟩ := tq_arr2 (args := #[]) (C := RX7) (va_AO.use (hE.2.2.1 _ (List.mem_of_getElem? (i := 4) rfl)))
  obtain ⟨y8, p8, r8⟩ := tq_arr3 (args := #[]) (va_AOA.use (hE.2.2.2 _ (List.mem_of_getElem? (i := 0) rfl)))
  obtain ⟨y9, p9, r9⟩ := tq_arr3 (args := #[]) (va_AOA.use (hE.2.2.2 _ (List.mem_of_getElem? (i := 1) rfl)))
  obtain ⟨y10, p10, r10⟩ := tq_arr3 (args := #[]) (va_AOA.use (hE.2.2.2 _ (List.mem_of_getElem? (i := 2) rfl)))
  refine ⟨fun k => [c0, c1, c2, c3, c4, c5, c6, c7, c8, c9].getD k c0, fun k => [i0, i1, i2, i3, i4, i5, i6, i7, i8, i9].getD k i0, fun k => [y0, y1, y2, y3, y4, y5, y6, y7, y8, y9, y10].getD k y0, ?_, ?_⟩
  · intro k q hq
    match k, hq with
    | 0, hq => cases hq; exact k0
    | 1, hq => cases hq; exact k1
    | 2, hq => cases hq; exact k2
    | 3, hq => cases hq; exact k3
    | 4, hq => cases hq; exact k4
    | 5, hq => cases hq; exact k5
    | 6, hq => cases hq; exact k6
    | 7, hq => cases hq; exact k7
    | 8, hq => cases hq; exact k8
    | 9, hq => cases hq; exact k9
    | k + 10, hq => simp [vwCl] at hq
  · intro k q hq
    match k, hq with
    | 0, hq => cases hq; exact ⟨p0, r0⟩
    | 1, hq => cases hq; exact ⟨p1, r1⟩
    | 2, hq => cases hq; exact ⟨p2, r2⟩
    | 3, hq => cases hq; exact ⟨p3, r3⟩
    | 4, hq => cases hq; exact ⟨p4, r4⟩
    | 5, hq => cases hq; exact ⟨p5, r5⟩
    | 6, hq => cases hq; exact ⟨p6, r6⟩
    | 7, hq => cases hq; exact ⟨p7, r7⟩
    | 8, hq => cases hq; exact ⟨p8, r8⟩
    | 9, hq => cases hq; exact ⟨p9, r9⟩
    | 10, hq => cases hq; exact ⟨p10, r10⟩
    | k + 11, hq => simp [tp_ty] at hq

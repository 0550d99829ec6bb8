/-! rows that the walk uses: default values, arrays of arrays, what is thrown -/
def tp_dv (N : Nat) (ty : Nat → FieldType) (fs : List Value) : Bool := (List.range N).all fun j => decide (defaultValue (ty j) = vp_V fs j)
theorem tp_dv_ok {N : Nat} {ty : Nat → FieldType} {fs : List Value} (h : tp_dv N ty fs = true) (j : Nat) (hj : j < N) : defaultValue (ty j) = vp_V fs j := of_decide_eq_true (List.all_eq_true.mp h j (List.mem_range.mpr hj))
theorem tp_s1I : (FieldType.array FieldType.int).toString = "[I" := by decide +kernel
theorem tp_s1J : (FieldType.array FieldType.long).toString = "[J" := by decide +kernel
theorem tp_s2I : "[" ++ (FieldType.array FieldType.int).toString = "[[I" := by decide +kernel
theorem tp_s2J : "[" ++ (FieldType.array FieldType.long).toString = "[[J" := by decide +kernel
theorem tp_first {D : va_G} {cl : List vw_C} {X Y : va_W} {H : Heap} (hP : va_P D cl (X ++ Y) H) : va_P D cl X H := fun k q hk => hP k q (by rw [List.getElem?_append_left (List.getElem?_eq_some_iff.mp hk).1]; exact hk)
theorem tp_firstD {A : Nat → Prop} {X Y : va_W} (hD : va_D A (X ++ Y)) : va_D A X := ⟨fun i j p q hi hj e => hD.1 i j p q (by rw [List.getElem?_append_left (List.getElem?_eq_some_iff.mp hi).1]; exact hi) (by rw [List.getElem?_append_left (List.getElem?_eq_some_iff.mp hj).1]; exact hj) e, fun k q hk => hD.2 k q (by rw [List.getElem?_append_left (List.getElem?_eq_some_iff.mp hk).1]; exact hk)⟩
section TPR
variable {dC : Nat → ClassId} {dI : Nat → Nat → Nat} {cy : Nat → ClassId} {s : State}
theorem tp_fcI (h : va_K (dC, dI) vwCl (tp_ty cy) s) : s.vm.findClass (FieldType.array FieldType.int).toString = some (cy 0) := (h.2 0 _ rfl).2
theorem tp_fcJ (h : va_K (dC, dI) vwCl (tp_ty cy) s) : s.vm.findClass (FieldType.array FieldType.long).toString = some (cy 1) := (h.2 1 _ rfl).2
theorem tp_thrown {A : Nat → Prop} {ws : va_W} {H : Heap} {locs : List Loc} {t : State} (hP : va_P (dC, dI) vwCl ws H) (hD : va_D A ws) (hS : va_S A s.heap H locs) (h1 : H.size ≤ t.heap.size) (h2 : ∀ q : Nat, q < H.size → t.heap[q]? = H[q]?) : tp_Post dC dI A ws t ∧ va_F A s t :=
  ⟨⟨hP.kept (fun k q hk => h2 q.1 ((hP k q hk).lt)), hD⟩, Nat.le_trans hS.1 h1, fun q hq ha => (h2 q (Nat.lt_of_lt_of_le hq hS.1)).trans (hS.2.1 q hq ha)⟩
end TPR
theorem tp_pass1 {P : ClassFile.ExceptionTableEntry → Prop} {a : ClassFile.ExceptionTableEntry} (h : P a) : ∀ z ∈ [a], P z := fun z hz => by
  rw [List.mem_singleton.mp hz]
  exact h
theorem tp_pass2 {P : ClassFile.ExceptionTableEntry → Prop} {a b : ClassFile.ExceptionTableEntry} (h : P a) (h' : P b) : ∀ z ∈ [a, b], P z := fun z hz => by
  rcases List.mem_cons.mp hz with e | hz
  · rw [e]; exact h
  · rw [List.mem_singleton.mp hz]; exact h'
section TPN
variable {p : Program} {l : Launch} {e : Env} {R : Room} {s : State} {m : MethodId} {args : Array Value} {below : List Frame} {meth : Method} {c : Code} {H : Heap} {locs : List Loc} {cells slots : Nat} {Q : State → Prop}
variable {cc : ByteArray} {pc : Nat} {ls : Array Slot} {rest : List Value} {D : va_G} {cl : List vw_C} {A : Nat → Prop} {tys : List (ClassId × FieldType)} {ws : va_W} {H0 : Heap}
/-- new T[n][]: a row of null rows -/
theorem tp_newqA {ty : FieldType} (hexec : p.tables.exec = Jvm.exec) (hb : c.code = cc) {own : String} {index : Nat} (hown : s.vm.findClass own = some m.cls) (hclink : (Cond.classLink own index (FieldType.array ty).toString).before args s = true) (hover : va_AOA ty s) (hK : va_K D cl tys s) (hP : va_P D cl ws H) (hD : va_D A ws) (hS : va_S A H0 H locs) (hA : ∀ q, H0.size ≤ q → A q)
    {n : Int32} {N' : Nat} (hn : ¬ n < 0) (hN : n.toNatClampNeg = N') (hbytes : N' * 4 ≤ 536870912) (hcells : cells + 1 ≤ R.cells) (hslots : slots + N' ≤ R.slots) (hdg : decode cc pc = .ok (.anewarray index, 3))
    (kk : ∀ (q : Nat) (cA : ClassId) (H1 : Heap), va_K D cl (tys ++ [(cA, .array ty)]) s → va_P D cl (ws ++ [(q, .inl (cA, N', .inr (.inr (.inr (.inr (fun _ => none))))))]) H1 → va_D A (ws ++ [(q, .inl (cA, N', .inr (.inr (.inr (.inr (fun _ => none))))))]) → va_S A H0 H1 locs →
      W p l e R s m args below meth c H1 locs (cells + 1) (slots + N') Q (F0 m (pc + 3) ls (.ref q :: rest))) : W p l e R s m args below meth c H locs cells slots Q (F0 m pc ls (.int n :: rest)) := by
  subst hN
  intro T hT X
  obtain ⟨vm₁, cA, kA, comp, hW1, f1, f2, f3, f4, X', st⟩ := X.anewarrayArrK hexec hown hclink (va_AOA.use hover) (g := F0 m pc ls (.int n :: rest)) rfl (by rw [hb]; exact hdg) rfl hn hbytes hcells hslots
  have hTh : (T.setVm vm₁).heap = H := hT
  generalize hH1 : H.push ({ cls := cA, slots := Array.replicate n.toNatClampNeg .null, vm := .none } : Cell) = H1
  have hT1 : ((T.setVm vm₁).pushCell ({ cls := cA, slots := Array.replicate n.toNatClampNeg .null, vm := .none } : Cell)).heap = H1 := by rw [← hH1, ← hTh]; rfl
  have z1 : H1.size = H.size + 1 := by rw [← hH1, Array.size_push]
  have e1 : H1[H.size]? = some (arrV cA n.toNatClampNeg (fun _ => .null)) := by rw [← hH1, Array.getElem?_push_size, ← arrV_new]
  have o1 : ∀ q : Nat, q < H.size → H1[q]? = H[q]? := fun q hq => by rw [← hH1, Array.getElem?_push, if_neg (Nat.ne_of_lt hq)]
  have hAr : ArrOfT s cA (.array ty) := fun N z => ⟨(fun k h => by cases h), kA, f2, comp, f3⟩
  have hk : ∀ (k : Nat) (x : Nat × va_E), ws[k]? = some x → H1[x.1]? = H[x.1]? := fun k x hx => o1 x.1 ((hP k x hx).lt)
  obtain ⟨t, a1, b1⟩ := kk H.size cA H1 ⟨hK.1, fun k x hx => by
    by_cases hl : k < tys.length
    · rw [List.getElem?_append_left hl] at hx
      exact hK.2 k x hx
    · rw [List.getElem?_append_right (by omega)] at hx
      have hz : k - tys.length < 1 := (List.getElem?_eq_some_iff.mp hx).1
      rw [show k - tys.length = 0 by omega] at hx
      cases hx
      exact ⟨hAr, f1⟩⟩ ((hP.kept hk).app (fun k x hx => by
    have hz : k < 1 := (List.getElem?_eq_some_iff.mp hx).1
    rw [show k = 0 by omega] at hx
    cases hx
    show H1[H.size]? = some (vp_cell _ _)
    rw [vp_cell_q]
    exact e1)) (hD.push hP rfl (hA _ hS.1)) ⟨Nat.le_trans hS.1 (by omega), fun x h1 h2 => (o1 x (Nat.lt_of_lt_of_le h1 hS.1)).trans (hS.2.1 x h1 h2), hS.2.2⟩ _ hT1 X'
  rw [← hT] at a1
  exact ⟨t, st t a1, b1⟩
end TPN
theorem tp_nlt {a b : Int32} (h : a ≤ b) : ¬ b < a := Int32.not_lt.mpr h
theorem tp_out {x lo hi : Int32} (hc : ¬ (lo ≤ x ∧ x ≤ hi)) (h : ¬ x < lo) : hi < x := Int32.not_le.mp (fun h2 => hc ⟨Int32.not_lt.mp h, h2⟩)
theorem tp_none (x : Int32) : ¬ ((0 : Int32) ≤ x ∧ x ≤ 0 - 1) := fun h => absurd (Int32.le_trans h.1 h.2) (by decide)
theorem tp_cmp (x : Int64) : lg_cmp x x = 0 := by simp [lg_cmp]
def tp_up : List String := ["java/lang/RuntimeException", "java/lang/Exception"]
theorem ta_ISE : ∀ w ∈ (vx_atS RX8 29 "java/lang/IllegalStateException" tp_up).filter goodWord, w ∈ lw_tbl := by decide +kernel
theorem tb_ISE : ∀ w ∈ (vx_atS RX8 29 "java/lang/IllegalStateException" tp_up).filter (fun w => !goodWord w), w ∈ [Cond.castable "java/lang/IllegalStateException" "java/lang/IllegalStateException", Cond.declares ⟨"java/lang/RuntimeException", "<init>", "(Ljava/lang/String;)V"⟩, Cond.declares ⟨"java/lang/Exception", "<init>", "(Ljava/lang/String;)V"⟩, Cond.declares ⟨"java/lang/Throwable", "<init>", "(Ljava/lang/String;)V"⟩] := by decide +kernel
theorem tt_ISE {args : Array Value} {s : State} (hts : ∀ w ∈ tp_all, w.before args s = true) (hE : tp_E s) : ∀ w ∈ vx_atS RX8 29 "java/lang/IllegalStateException" tp_up, w.before args s = true := vx_hat (fun w h => hts w (List.mem_filter.mpr ⟨ta_ISE w h, (List.mem_filter.mp h).2⟩)) tb_ISE (vx_c (va_Nw.use rfl (hE.2.2.2.2.2.1 _ (List.mem_of_getElem? (i := 2) rfl))) (vx_c (va_Nw.use rfl (hE.2.2.2.2.2.2.2 _ (List.mem_of_getElem? (i := 0) rfl))) (vx_c (va_Nw.use rfl (hE.2.2.2.2.2.2.2 _ (List.mem_of_getElem? (i := 1) rfl))) (vx_c (va_Nw.use rfl (hE.2.2.2.2.2.2.2 _ (List.mem_of_getElem? (i := 2) rfl))) vx_n))))
theorem tg_ISE : ∀ w ∈ Cond.classLink RX8 25 "java/lang/IllegalStateException" :: Cond.initialized "java/lang/IllegalStateException" :: vx_atS RX8 29 "java/lang/IllegalStateException" tp_up, vx_ot w = true := by decide +kernel
theorem ta_IOB : ∀ w ∈ (vx_atS RX8 172 "java/lang/IndexOutOfBoundsException" tp_up).filter goodWord, w ∈ lw_tbl := by decide +kernel
theorem tb_IOB : ∀ w ∈ (vx_atS RX8 172 "java/lang/IndexOutOfBoundsException" tp_up).filter (fun w => !goodWord w), w ∈ [Cond.castable "java/lang/IndexOutOfBoundsException" "java/lang/IndexOutOfBoundsException", Cond.declares ⟨"java/lang/RuntimeException", "<init>", "(Ljava/lang/String;)V"⟩, Cond.declares ⟨"java/lang/Exception", "<init>", "(Ljava/lang/String;)V"⟩, Cond.declares ⟨"java/lang/Throwable", "<init>", "(Ljava/lang/String;)V"⟩] := by decide +kernel
theorem tt_IOB {args : Array Value} {s : State} (hts : ∀ w ∈ tp_all, w.before args s = true) (hE : tp_E s) : ∀ w ∈ vx_atS RX8 172 "java/lang/IndexOutOfBoundsException" tp_up, w.before args s = true := vx_hat (fun w h => hts w (List.mem_filter.mpr ⟨ta_IOB w h, (List.mem_filter.mp h).2⟩)) tb_IOB (vx_c (va_Nw.use rfl (hE.2.2.2.2.2.1 _ (List.mem_of_getElem? (i := 0) rfl))) (vx_c (va_Nw.use rfl (hE.2.2.2.2.2.2.2 _ (List.mem_of_getElem? (i := 0) rfl))) (vx_c (va_Nw.use rfl (hE.2.2.2.2.2.2.2 _ (List.mem_of_getElem? (i := 1) rfl))) (vx_c (va_Nw.use rfl (hE.2.2.2.2.2.2.2 _ (List.mem_of_getElem? (i := 2) rfl))) vx_n))))
theorem tg_IOB : ∀ w ∈ Cond.classLink RX8 168 "java/lang/IndexOutOfBoundsException" :: Cond.initialized "java/lang/IndexOutOfBoundsException" :: vx_atS RX8 172 "java/lang/IndexOutOfBoundsException" tp_up, vx_ot w = true := by decide +kernel
theorem ta_IAE : ∀ w ∈ (vx_atS RX8 220 "java/lang/IllegalArgumentException" tp_up).filter goodWord, w ∈ lw_tbl := by decide +kernel
theorem tb_IAE : ∀ w ∈ (vx_atS RX8 220 "java/lang/IllegalArgumentException" tp_up).filter (fun w => !goodWord w), w ∈ [Cond.castable "java/lang/IllegalArgumentException" "java/lang/IllegalArgumentException", Cond.declares ⟨"java/lang/RuntimeException", "<init>", "(Ljava/lang/String;)V"⟩, Cond.declares ⟨"java/lang/Exception", "<init>", "(Ljava/lang/String;)V"⟩, Cond.declares ⟨"java/lang/Throwable", "<init>", "(Ljava/lang/String;)V"⟩] := by decide +kernel
theorem tt_IAE {args : Array Value} {s : State} (hts : ∀ w ∈ tp_all, w.before args s = true) (hE : tp_E s) : ∀ w ∈ vx_atS RX8 220 "java/lang/IllegalArgumentException" tp_up, w.before args s = true := vx_hat (fun w h => hts w (List.mem_filter.mpr ⟨ta_IAE w h, (List.mem_filter.mp h).2⟩)) tb_IAE (vx_c (va_Nw.use rfl (hE.2.2.2.2.2.1 _ (List.mem_of_getElem? (i := 1) rfl))) (vx_c (va_Nw.use rfl (hE.2.2.2.2.2.2.2 _ (List.mem_of_getElem? (i := 0) rfl))) (vx_c (va_Nw.use rfl (hE.2.2.2.2.2.2.2 _ (List.mem_of_getElem? (i := 1) rfl))) (vx_c (va_Nw.use rfl (hE.2.2.2.2.2.2.2 _ (List.mem_of_getElem? (i := 2) rfl))) vx_n))))
theorem tg_IAE : ∀ w ∈ Cond.classLink RX8 216 "java/lang/IllegalArgumentException" :: Cond.initialized "java/lang/IllegalArgumentException" :: vx_atS RX8 220 "java/lang/IllegalArgumentException" tp_up, vx_ot w = true := by decide +kernel

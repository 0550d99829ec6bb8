/-! arrays of arrays: made, copied; a phase more in the law's own table -/
section MNQ
variable {p : Program} {l : Launch} {e : Env} {R : Room} {s : State} {m : MethodId} {args : Array Value} {below : List Frame} {meth : Method} {c : Code} {H : Heap} {locs : List Loc} {cells slots : Nat} {Q : State → Prop}
variable {cc : ByteArray} {pc : Nat} {ls : Array Slot} {rest : List Value} {D : va_G} {cl : List vw_C} {A : Nat → Prop} {tys : List (ClassId × FieldType)} {ws : va_W} {H0 : Heap}
/-- new T[n][]: a row of null rows -/
theorem m_newqA {ty : FieldType} (hexec : p.tables.exec = Jvm.exec) (hb : c.code = cc) {own : String} {index : Nat} (hown : s.vm.findClass own = some m.cls) (hclink : (Cond.classLink own index (FieldType.array ty).toString).before args s = true) (hover : va_AOA ty s) (hK : va_K D cl tys s) (hP : va_P D cl ws H) (hD : va_D A ws) (hS : va_S A H0 H locs) (hA : ∀ q, H0.size ≤ q → A q)
    {n : Int32} {N' : Nat} (hn : ¬ n < 0) (hN : n.toNatClampNeg = N') (hbytes : N' * 4 ≤ 536870912) (hcells : cells + 1 ≤ R.cells) (hslots : slots + N' ≤ R.slots) (hdg : decode cc pc = .ok (.anewarray index, 3))
    (kk : ∀ (q : Nat) (cA : ClassId) (H1 : Heap), va_K D cl (tys ++ [(cA, .array ty)]) s → va_P D cl (ws ++ [(q, .inl (cA, N', .inr (.inr (.inr (.inr (fun _ => none))))))]) H1 → va_D A (ws ++ [(q, .inl (cA, N', .inr (.inr (.inr (.inr (fun _ => none))))))]) → va_S A H0 H1 locs →
      W p l e R s m args below meth c H1 locs (cells + 1) (slots + N') Q (F0 m (pc + 3) ls (.ref q :: rest))) : W p l e R s m args below meth c H locs cells slots Q (F0 m pc ls (.int n :: rest)) := by
  subst hN
  intro T hT X
  obtain ⟨vm₁, cA, kA, comp, hW1, f1, f2, f3, f4, X', st⟩ := X.anewarrayArrK hexec hown hclink (va_AOA.use hover) (g := F0 m pc ls (.int n :: rest)) rfl (by rw [hb]; exact hdg) rfl hn hbytes hcells hslots
  have hTh : (T.setVm vm₁).heap = H := hT
  generalize hH1 : H.push ({ cls := cA, slots := Array.replicate n.toNatClampNeg .null, vm := .none } : Cell) = H1
  have hT1 : ((T.setVm vm₁).pushCell ({ cls := cA, slots := Array.replicate n.toNatClampNeg .null, vm := .none } : Cell)).heap = H1 := by rw [← hH1, ← hTh]; rfl
  have z1 : H1.size = H.size + 1 := by rw [← hH1, Array.size_push]
  have e1 : H1[H.size]? = some (arrV cA n.toNatClampNeg (fun _ => .null)) := by rw [← hH1, Array.getElem?_push_size, ← arrV_new]
  have o1 : ∀ q : Nat, q < H.size → H1[q]? = H[q]? := fun q hq => by rw [← hH1, Array.getElem?_push, if_neg (Nat.ne_of_lt hq)]
  have hAr : ArrOfT s cA (.array ty) := fun N z => ⟨(fun k h => by cases h), kA, f2, comp, f3⟩
  have hk : ∀ (k : Nat) (x : Nat × va_E), ws[k]? = some x → H1[x.1]? = H[x.1]? := fun k x hx => o1 x.1 ((hP k x hx).lt)
  obtain ⟨t, a1, b1⟩ := kk H.size cA H1 ⟨hK.1, fun k x hx => by
    by_cases hl : k < tys.length
    · rw [List.getElem?_append_left hl] at hx
      exact hK.2 k x hx
    · rw [List.getElem?_append_right (by omega)] at hx
      have hz : k - tys.length < 1 := (List.getElem?_eq_some_iff.mp hx).1
      rw [show k - tys.length = 0 by omega] at hx
      cases hx
      exact ⟨hAr, f1⟩⟩ ((hP.kept hk).app (fun k x hx => by
    have hz : k < 1 := (List.getElem?_eq_some_iff.mp hx).1
    rw [show k = 0 by omega] at hx
    cases hx
    show H1[H.size]? = some (vp_cell _ _)
    rw [vp_cell_q]
    exact e1)) (hD.push hP rfl (hA _ hS.1)) ⟨Nat.le_trans hS.1 (by omega), fun x h1 h2 => (o1 x (Nat.lt_of_lt_of_le h1 hS.1)).trans (hS.2.1 x h1 h2), hS.2.2⟩ _ hT1 X'
  rw [← hT] at a1
  exact ⟨t, st t a1, b1⟩
end MNQ
section MCQ
variable {p : Program} {l : Launch} {e : Env} {R : Room} {s : State} {m : MethodId} {args : Array Value} {below : List Frame} {meth : Method} {c : Code} {H : Heap} {locs : List Loc} {cells slots : Nat} {Q : State → Prop}
variable {cc : ByteArray} {pc : Nat} {ls : Array Slot} {rest : List Value} {D : va_G} {cl : List vw_C} {A : Nat → Prop} {a : Nat} {tys : List (ClassId × FieldType)} {ws : va_W} {H0 : Heap}
/-- System.arraycopy between arrays of arrays of one class -/
theorem m_copyA (hexec : p.tables.exec = Jvm.exec) (hb : c.code = cc) (hml : c.maxLocals = ls.size) {own : String} {index : Nat} (hown : s.vm.findClass own = some m.cls) (hlink : (Cond.methodLink own index arraycopyName).before args s = true) (hnat : (Cond.native arraycopyName).before args s = true) (hstat : (Cond.static arraycopyName).before args s = true) (hini : (Cond.initialized "java/lang/System").before args s = true)
    (hK : va_K D cl tys s) (hP : va_P D cl ws H) (hD : va_D A ws) (hS : va_S A H0 H locs) (q0 q1 t0 t1 : Nat) {a0 : Nat} {c0 cI : ClassId} {ty : FieldType} {n0 n1 : Nat} {f g : Nat → Option Nat} (ha0 : ws[q0]? = some (a0, .inl (c0, n0, .inr (.inr (.inr (.inr f)))))) (ha1 : ws[q1]? = some (a, .inl (c0, n1, .inr (.inr (.inr (.inr g)))))) (ht0 : tys[t0]? = some (c0, .array ty)) (hti : tys[t1]? = some (cI, ty)) (hov : va_AOA ty s) (hnm : (FieldType.array ty).toString = "[" ++ ty.toString) (hrt : va_RA s cI ty → s.vm.findClass ("[" ++ ty.toString) = some cI)
    {sp dp n : Int32} (h1 : ¬ sp < 0) (h2 : ¬ dp < 0) (h3 : ¬ n < 0) (h4 : sp.toNatClampNeg + n.toNatClampNeg ≤ n0) (h5 : dp.toNatClampNeg + n.toNatClampNeg ≤ n1) (hel : ∀ i : Nat, i < n.toNatClampNeg → ∀ y : Nat, f (sp.toNatClampNeg + i) = some y → ∃ x : vp_A, H[y]? = some (vp_cell cI x))
    (hframes : 1 ≤ R.frames) (hlocals : (rest.map fun v => v.category).sum + (nativeFrameWords "java/lang/System" "arraycopy" 5 + 11) ≤ R.locals) (hdg : decode cc pc = .ok (.invokestatic index, 3))
    (kk : ∀ (H1 : Heap) (locs1 : List Loc), va_P D cl (ws.set q1 (a, .inl (c0, n1, .inr (.inr (.inr (.inr (va_cpy f g sp.toNatClampNeg dp.toNatClampNeg n.toNatClampNeg))))))) H1 → va_D A (ws.set q1 (a, .inl (c0, n1, .inr (.inr (.inr (.inr (va_cpy f g sp.toNatClampNeg dp.toNatClampNeg n.toNatClampNeg))))))) → va_S A H0 H1 locs1 → W p l e R s m args below meth c H1 locs1 cells slots Q (F0 m (pc + 3) ls rest)) : W p l e R s m args below meth c H locs cells slots Q (F0 m pc ls (.int n :: .int dp :: .ref a :: .int sp :: .ref a0 :: rest)) := by
  have nn : ∀ z : Int32, ¬ z < 0 → z.toInt = (z.toNatClampNeg : Int) := fun z hz => (m_tn (m_i0.mp hz)).symm
  intro T hT X
  have hc0 : H[a0]? = some (vp_cell c0 (n0, .inr (.inr (.inr (.inr f))))) := hP q0 _ ha0
  have hc1 : H[a]? = some (vp_cell c0 (n1, .inr (.inr (.inr (.inr g))))) := hP q1 _ ha1
  obtain ⟨-, k0, hk0, cm0, hkk0⟩ := (hK.2 t0 _ ht0).1 n0 (fun j => va_rf (f j))
  obtain ⟨-, k1, hk1, cm1, hkk1⟩ := (hK.2 t0 _ ht0).1 n1 (fun j => va_rf (g j))
  obtain ⟨-, kI, hkI, cmI, hkkI⟩ := (hK.2 t1 _ hti).1 0 (fun _ => .null)
  obtain ⟨comp, c9, k, f1, f2, f3, f4⟩ := Cond.arrayOver_specA (va_AOA.use (A := args) hov)
  have e1 : c9 = c0 := Option.some.inj (f4.symm.trans (show s.vm.findClass _ = some c0 from (hK.2 t0 _ ht0).2))
  subst e1
  have e2 : comp = cI := Option.some.inj (f1.symm.trans (by rw [hnm]; exact hrt (hK.2 t1 _ hti).2))
  rw [e2] at f3
  obtain ⟨vm', X', step⟩ := X.arraycopy hexec hown hlink hnat hstat hini (src := a0) (dst := a) (cs := vp_cell c9 (n0, .inr (.inr (.inr (.inr f))))) (cd := vp_cell c9 (n1, .inr (.inr (.inr (.inr g))))) (srcPos := sp) (destPos := dp) (n := n) (by rw [hT]; exact hc0) (by rw [hT]; exact hc1)
    (fun _ h => by cases h) (fun _ h => by cases h) (fun h => by cases h) (fun h => by cases h) hk0 hk1 hkk0 hkk1 rfl h1 h2 h3
    (by rw [nn sp h1, nn n h3]; show ¬ _ > ((arrV c9 n0 (fun j => va_rf (f j))).slots.size : Int); rw [arrV_size]; omega)
    (by rw [nn dp h2, nn n h3]; show ¬ _ > ((arrV c9 n1 (fun j => va_rf (g j))).slots.size : Int); rw [arrV_size]; omega)
    (fun vm₁ hal i hi => by
      have e : (vp_cell c9 (n0, .inr (.inr (.inr (.inr f))))).slots.getD (sp.toNatClampNeg + i) .null = va_rf (f (sp.toNatClampNeg + i)) := by
        show (arrV c9 n0 (fun j => va_rf (f j))).slots.getD _ _ = _
        rw [Array.getD_eq_getD_getElem?, arrV_read _ _ (by omega)]
        rfl
      rw [e]
      cases hy : f (sp.toNatClampNeg + i) with
      | none => exact ⟨rfl, trivial⟩
      | some y =>
        obtain ⟨x, g1⟩ := hel i hi y hy
        have hcl : (vp_cell cI x).cls = cI := by obtain ⟨n9, y | y | y | y | y⟩ := x <;> rfl
        have hvm : (vp_cell cI x).vm = .none := by obtain ⟨n9, y | y | y | y | y⟩ := x <;> rfl
        cases hk1.symm.trans f2
        cases hkk1.symm.trans f3
        obtain ⟨kI', hkI', -⟩ := hal.2.2 _ _ hkI
        refine ⟨rfl, vp_cell cI x, (show T.heap[y]? = some _ by rw [hT]; exact g1), (fun q h => by rw [hvm] at h; cases h), ⟨kI', by rw [hcl]; exact hkI'⟩, ⟨kI', hkI'⟩, ?_⟩
        show vm₁.assignable _ _ = true
        rw [hcl]
        show Vm.assignableAux _ (255 + 1) _ _ = true
        unfold Vm.assignableAux
        simp)
    (g := F0 m pc ls (.int n :: .int dp :: .ref a :: .int sp :: .ref a0 :: rest)) rfl (by rw [hml]) (rest := rest) rfl (by rw [hb]; exact hdg) hframes (by show 2 * 0 + _ + _ ≤ _; omega)
  have e1 : copied (vp_cell c9 (n0, .inr (.inr (.inr (.inr f))))) (vp_cell c9 (n1, .inr (.inr (.inr (.inr g))))) sp dp n = vp_cell c9 (n1, .inr (.inr (.inr (.inr (va_cpy f g sp.toNatClampNeg dp.toNatClampNeg n.toNatClampNeg))))) := by
    rw [vp_cell_q, vp_cell_q, vp_cell_q]
    exact va_copied (fun z => va_rf z) c9 c9 f g h4
  rw [e1] at X' step
  have hl : a < H.size := (Array.getElem?_eq_some_iff.mp hc1).1
  have hheap : ((T.setVm vm').setCell a (vp_cell c9 (n1, .inr (.inr (.inr (.inr (va_cpy f g sp.toNatClampNeg dp.toNatClampNeg n.toNatClampNeg))))))).heap = H.setIfInBounds a (vp_cell c9 (n1, .inr (.inr (.inr (.inr (va_cpy f g sp.toNatClampNeg dp.toNatClampNeg n.toNatClampNeg)))))) := by rw [← hT]; rfl
  have hoq : ∀ q : Nat, q ≠ a → (H.setIfInBounds a (vp_cell c9 (n1, .inr (.inr (.inr (.inr (va_cpy f g sp.toNatClampNeg dp.toNatClampNeg n.toNatClampNeg)))))))[q]? = H[q]? := fun q hq => by simp [Array.getElem?_setIfInBounds, Ne.symm hq]
  obtain ⟨t, ha', hb'⟩ := kk _ _ (hP.set hD ha1 (show (H.setIfInBounds a _)[a]? = some _ by simp [Array.getElem?_setIfInBounds, hl]) hoq) (hD.set ha1) ⟨by rw [Array.size_setIfInBounds]; exact hS.1, fun q g1 g2 => (hoq q (fun h9 => g2 (by rw [h9]; exact hD.2 q1 _ ha1))).trans (hS.2.1 q g1 g2), fun q hq => by
      rcases List.mem_append.mp hq with h | h
      · exact hS.2.2 q h
      · obtain ⟨z, -, hz⟩ := List.mem_map.mp h
        rw [← hz]
        exact hD.2 q1 _ ha1⟩ _ hheap X'
  exact ⟨t, step t ha', hb'⟩
end MCQ
def prW (cy : Nat → ClassId) (pr pl : Nat → Nat) (pe : Nat → Nat → Nat) : mP := fun q e => ∃ n, n < 12 ∧ q = pr n ∧ e = arQ (cy 8) (pl n) (fun j => if j < pl n then some (pe n j) else none)
def peW (cy : Nat → ClassId) (pl : Nat → Nat) (pe : Nat → Nat → Nat) (px : Nat → Nat → Nat → Int32) : mP := fun q e => ∃ n j, n < 12 ∧ j < pl n ∧ q = pe n j ∧ e = .inl (cy 0, 3, .inl (px n j))
theorem up2_eq {α : Type} {f : Nat → α} {k : Nat} {v : α} : up2 f k v k = v := if_pos rfl
theorem up2_ne {α : Type} {f : Nat → α} {k j : Nat} {v : α} (h : j ≠ k) : up2 f k v j = f j := if_neg h
theorem ph_G {w : Nat → Nat} {k z : Nat} : va_up (va_cpy (fun j => if j < k then some (w j) else none) (fun _ => (none : Option Nat)) 0 0 k) k (some z) = fun j => if j < k + 1 then some (up2 w k z j) else none := by
  funext j
  by_cases hj : j = k
  · subst hj
    rw [va_up_self, if_pos (Nat.lt_succ_self j), up2_eq]
  · rw [va_up_ne _ _ hj, up2_ne hj]
    unfold va_cpy
    by_cases h1 : j < k
    · rw [if_pos ⟨by omega, by omega⟩, if_pos (by omega)]
      show (if 0 + (j - 0) < k then some (w (0 + (j - 0))) else none) = some (w j)
      rw [show 0 + (j - 0) = j by omega, if_pos h1]
    · rw [if_neg (by omega), if_neg (by omega)]
theorem po_up {pr : Nat → Nat} {n q : Nat} : va_up (fun k => some (pr k)) n (some q) = fun k => some (up2 pr n q k) := by
  funext k
  by_cases h : k = n
  · subst h
    rw [va_up_self, up2_eq]
  · rw [va_up_ne _ _ h, up2_ne h]
theorem pr_add {D : va_G} {cl : List vw_C} {A : Nat → Prop} {H : Heap} {cy : Nat → ClassId} {pr pl : Nat → Nat} {pe : Nat → Nat → Nat} {n q5 z : Nat} {Ps : List mP} (h : ms D cl A (prW cy pr pl pe :: cel q5 (arQ (cy 8) (pl n + 1) (va_up (va_cpy (fun j => if j < pl n then some (pe n j) else none) (fun _ => none) 0 0 (pl n)) (pl n) (some z))) :: Ps) H) : ms D cl A (prW cy (up2 pr n q5) (up2 pl n (pl n + 1)) (up2 pe n (up2 (pe n) (pl n) z)) :: Ps) H := by
  refine h.merge.sub 0 rfl ?_
  rintro q e ⟨m, hm, rfl, rfl⟩
  by_cases hmn : m = n
  · subst hmn
    rw [up2_eq, up2_eq, up2_eq]
    refine Or.inr ⟨rfl, ?_⟩
    rw [ph_G]
  · rw [up2_ne hmn, up2_ne hmn, up2_ne hmn]
    exact Or.inl ⟨m, hm, rfl, rfl⟩
theorem pe_add {D : va_G} {cl : List vw_C} {A : Nat → Prop} {H : Heap} {cy : Nat → ClassId} {pl : Nat → Nat} {pe : Nat → Nat → Nat} {px : Nat → Nat → Nat → Int32} {n z : Nat} {x : Nat → Int32} {Ps : List mP} (h : ms D cl A (peW cy pl pe px :: cel z (.inl (cy 0, 3, .inl x)) :: Ps) H) : ms D cl A (peW cy (up2 pl n (pl n + 1)) (up2 pe n (up2 (pe n) (pl n) z)) (up2 px n (up2 (px n) (pl n) x)) :: Ps) H := by
  refine h.merge.sub 0 rfl ?_
  rintro q e ⟨m, j, hm, hj, rfl, rfl⟩
  by_cases hmn : m = n
  · subst hmn
    rw [up2_eq] at hj
    rw [up2_eq, up2_eq]
    by_cases hjk : j = pl m
    · subst hjk
      rw [up2_eq, up2_eq]
      exact Or.inr ⟨rfl, rfl⟩
    · rw [up2_ne hjk, up2_ne hjk]
      exact Or.inl ⟨m, j, hm, by omega, rfl, rfl⟩
  · rw [up2_ne hmn] at hj
    rw [up2_ne hmn, up2_ne hmn]
    exact Or.inl ⟨m, j, hm, hj, rfl, rfl⟩
/-- a set of links that lead to a node, as far as the place i -/
def PS (lv : Tb) (n : Nat) (y : Int32) (i : Nat) : Prop := ∀ k, k < 32 → bt y k = true → k < i ∧ lv k 1 = nI n
theorem PS.zero {lv : Tb} {n : Nat} : PS lv n 0 0 := fun k _ h => by
  rw [b_0] at h
  cases h
theorem PS.mono {lv : Tb} {n i : Nat} {y : Int32} (h : PS lv n y i) : PS lv n y (i + 1) := fun k hk hb => ⟨Nat.lt_succ_of_lt (h k hk hb).1, (h k hk hb).2⟩
theorem PS.add {lv : Tb} {n i : Nat} {y : Int32} (h : PS lv n y i) (hi : i < 24) (hv : lv i 1 = nI n) : PS lv n (y ||| (1 <<< (nI i &&& 31))) (i + 1) := by
  intro k hk hb
  rw [b_or, b_shl i (by omega) 1 hk] at hb
  by_cases hki : k = i
  · subst hki
    exact ⟨Nat.lt_succ_self k, hv⟩
  · rcases Nat.lt_or_ge k i with hl | hl
    · rw [decide_eq_false (by omega), Bool.false_and, Bool.or_false] at hb
      exact ⟨by omega, (h k hk hb).2⟩
    · rw [b_1 _ (by omega), decide_eq_false (by omega : ¬ k - i = 0), Bool.and_false, Bool.or_false] at hb
      exact ⟨by have := (h k hk hb).1; omega, (h k hk hb).2⟩
theorem PS.pos {lv : Tb} {n i : Nat} {y : Int32} (h : PS lv n y i) (hi : i ≤ 24) : ¬ y < 0 := by
  have h1 : bt y 31 = false := by
    cases hb : bt y 31 with
    | false => rfl
    | true => have := (h 31 (by decide) hb).1; omega
  rw [Int32.lt_iff_toInt_lt]
  show ¬ y.toBitVec.toInt < 0
  rw [BitVec.toInt_eq_msb_cond, BitVec.msb_eq_getLsbD_last]
  rw [show y.toBitVec.getLsbD (32 - 1) = false from h1]
  simp
theorem lead_1 {a : St} {y : Int32} {n : Nat} (h : ∀ k, k < 32 → bt y k = true → ¬ a 1 0 0 ≤ nI k ∧ a 2 k 1 = nI n) : ∀ d i, i + d = 32 → G_lead a (nI n) y d i = 1
  | 0, i, hi => rfl
  | d + 1, i, hi => by
    have h1 := lead_1 h d (i + 1) (by omega)
    unfold G_lead
    split
    · rename_i hb
      have h2 := h i (by omega) ((bit_iff (by omega)).mp hb)
      rw [if_neg h2.1, if_pos h2.2]
      exact h1
    · exact h1
theorem PS.lead {a : St} {nd nl nf : Nat} {lv fv : Tb} {pl : Nat → Nat} {n : Nat} {y : Int32} (hB : B0 a nd nl lv pl nf fv) (h : PS lv n y nl) : ¬ G_lead a (nI n) y 32 0 = 0 := by
  rw [lead_1 (fun k hk hb => ?_) 32 0 (by decide)]
  · decide
  · obtain ⟨h1, h2⟩ := h k hk hb
    have hnl := hB.1.2.2.2.2.2.1
    rw [hB.1.2.2.2.2.1]
    exact ⟨nI_ge h1 (by omega), (hB.2.2.2.1 k h1).trans h2⟩
theorem k_s1I : (FieldType.array FieldType.int).toString = "[I" := by decide +kernel

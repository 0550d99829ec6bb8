/-! worlds as predicates on places: 'P q e': at the place q there is e -/
abbrev mP : Type := Nat → va_E → Prop
def mw (D : va_G) (cl : List vw_C) (A : Nat → Prop) (P : mP) (H : Heap) : Prop := ∃ ws : va_W, va_P D cl ws H ∧ va_D A ws ∧ ∀ q e, P q e ↔ (q, e) ∈ ws
/-- which places a method may change: its world's, and new ones -/
def mA (P : mP) (sz : Nat) : Nat → Prop := fun q => (∃ e, P q e) ∨ sz ≤ q
def mset (P : mP) (a : Nat) (x : va_E) : mP := fun q e => (q = a ∧ e = x) ∨ (q ≠ a ∧ P q e)
def madd (P : mP) (a : Nat) (x : va_E) : mP := fun q e => P q e ∨ (q = a ∧ e = x)
theorem vD_nd {ws : va_W} : (∀ (i j : Nat) (p q : Nat × va_E), ws[i]? = some p → ws[j]? = some q → p.1 = q.1 → i = j) ↔ (ws.map Prod.fst).Nodup := by
  unfold List.Nodup
  rw [List.pairwise_iff_getElem]
  constructor
  · intro h i j hi hj hij heq
    have hi' : i < ws.length := by rw [List.length_map] at hi; exact hi
    have hj' : j < ws.length := by rw [List.length_map] at hj; exact hj
    rw [List.getElem_map, List.getElem_map] at heq
    have h9 := h i j ws[i] ws[j] (List.getElem?_eq_getElem hi') (List.getElem?_eq_getElem hj') heq
    omega
  · intro h i j p q hi hj hpq
    obtain ⟨li, ei⟩ := List.getElem?_eq_some_iff.mp hi
    obtain ⟨lj, ej⟩ := List.getElem?_eq_some_iff.mp hj
    have li' : i < (ws.map Prod.fst).length := by rw [List.length_map]; exact li
    have lj' : j < (ws.map Prod.fst).length := by rw [List.length_map]; exact lj
    have h1 : (ws.map Prod.fst)[i] = (ws.map Prod.fst)[j] := by rw [List.getElem_map, List.getElem_map, ei, ej]; exact hpq
    rcases Nat.lt_trichotomy i j with hl | hl | hl
    · exact absurd h1 (h i j li' lj' hl)
    · exact hl
    · exact absurd h1.symm (h j i lj' li' hl)
theorem vP_mem {D : va_G} {cl : List vw_C} {ws : va_W} {H : Heap} : va_P D cl ws H ↔ ∀ q, q ∈ ws → va_at D cl q H := ⟨fun h q hq => by
  obtain ⟨i, hi⟩ := List.getElem?_of_mem hq
  exact h i q hi, fun h k q hk => h q (List.mem_of_getElem? hk)⟩
theorem vA_mem {A : Nat → Prop} {ws : va_W} : (∀ (k : Nat) (q : Nat × va_E), ws[k]? = some q → A q.1) ↔ ∀ q, q ∈ ws → A q.1 := ⟨fun h q hq => by
  obtain ⟨i, hi⟩ := List.getElem?_of_mem hq
  exact h i q hi, fun h k q hk => h q (List.mem_of_getElem? hk)⟩
section MW
variable {D : va_G} {cl : List vw_C} {A B : Nat → Prop} {P P' C C1 : mP} {H H1 : Heap} {a : Nat} {e x : va_E}
theorem mw.at (h : mw D cl A P H) (he : P a e) : va_at D cl (a, e) H := by
  obtain ⟨ws, h1, h2, h3⟩ := h
  exact vP_mem.mp h1 _ ((h3 a e).mp he)
theorem mw.lt (h : mw D cl A P H) (he : P a e) : a < H.size := (h.at he).lt
theorem mw.inA (h : mw D cl A P H) (he : P a e) : A a := by
  obtain ⟨ws, h1, h2, h3⟩ := h
  exact vA_mem.mp h2.2 _ ((h3 a e).mp he)
theorem mw.fn (h : mw D cl A P H) (he : P a e) (hx : P a x) : e = x := by
  obtain ⟨ws, h1, h2, h3⟩ := h
  obtain ⟨i, hi⟩ := List.getElem?_of_mem ((h3 a e).mp he)
  obtain ⟨j, hj⟩ := List.getElem?_of_mem ((h3 a x).mp hx)
  have hij := h2.1 i j _ _ hi hj rfl
  subst hij
  rw [hi] at hj
  cases hj
  rfl
theorem mw.one (h : mw D cl A P H) (he : P a e) : va_P D cl [(a, e)] H := vP_mem.mpr fun q hq => by
  rw [List.mem_singleton.mp hq]
  exact h.at he
theorem mw.sub (h : mw D cl A P H) (hs : ∀ q e, P' q e → P q e) : mw D cl A P' H := by
  classical
  obtain ⟨ws, h1, h2, h3⟩ := h
  refine ⟨ws.filter (fun q => decide (P' q.1 q.2)), vP_mem.mpr fun q hq => vP_mem.mp h1 q (List.mem_filter.mp hq).1, ⟨vD_nd.mpr ?_, vA_mem.mpr fun q hq => vA_mem.mp h2.2 q (List.mem_filter.mp hq).1⟩, fun q e => ?_⟩
  · exact List.Nodup.sublist (List.Sublist.map _ List.filter_sublist) (vD_nd.mp h2.1)
  · rw [List.mem_filter]
    exact ⟨fun hp => ⟨(h3 q e).mp (hs q e hp), decide_eq_true hp⟩, fun hp => of_decide_eq_true hp.2⟩
theorem mw.weak (h : mw D cl A P H) (hB : ∀ q e, P q e → A q → B q) : mw D cl B P H := by
  obtain ⟨ws, h1, h2, h3⟩ := h
  exact ⟨ws, h1, ⟨h2.1, vA_mem.mpr fun q hq => hB q.1 q.2 ((h3 q.1 q.2).mpr hq) (vA_mem.mp h2.2 q hq)⟩, h3⟩
theorem mw.self (sz : Nat) (h : mw D cl A P H) : mw D cl (mA P sz) P H := h.weak fun _ e hp _ => Or.inl ⟨e, hp⟩
theorem mw.kept (h : mw D cl A P H) (hq : ∀ q e, P q e → H1[q]? = H[q]?) : mw D cl A P H1 := by
  obtain ⟨ws, h1, h2, h3⟩ := h
  exact ⟨ws, vP_mem.mpr fun q hm => (vP_mem.mp h1 q hm).kept (hq q.1 q.2 ((h3 q.1 q.2).mpr hm)), h2, h3⟩
/-- a cell taken out, to be changed by a row of the kit -/
theorem mw.cut (h : mw D cl A P H) (he : P a e) : ∃ (ws : va_W) (k : Nat), va_P D cl ws H ∧ va_D A ws ∧ ws[k]? = some (a, e) ∧ (∀ (q : Nat) (y : va_E), P q y → ∃ j : Nat, ws[j]? = some (q, y)) ∧ ∀ (y : va_E) (H1 : Heap), va_P D cl (ws.set k (a, y)) H1 → va_D A (ws.set k (a, y)) → mw D cl A (mset P a y) H1 := by
  obtain ⟨ws, h1, h2, h3⟩ := h
  obtain ⟨k, hk⟩ := List.getElem?_of_mem ((h3 a e).mp he)
  refine ⟨ws, k, h1, h2, hk, fun q x hq => List.getElem?_of_mem ((h3 q x).mp hq), fun x H1 g1 g2 => ⟨_, g1, g2, fun q y => ?_⟩⟩
  have hl := (List.getElem?_eq_some_iff.mp hk).1
  constructor
  · rintro (⟨rfl, rfl⟩ | ⟨hq, hp⟩)
    · exact List.mem_of_getElem? (i := k) (List.getElem?_set_self hl)
    · obtain ⟨j, hj⟩ := List.getElem?_of_mem ((h3 q y).mp hp)
      have hjk : k ≠ j := by
        rintro rfl
        rw [hk] at hj
        cases hj
        exact hq rfl
      exact List.mem_of_getElem? (i := j) (by rw [List.getElem?_set_ne hjk]; exact hj)
  · intro hm
    obtain ⟨j, hj⟩ := List.getElem?_of_mem hm
    by_cases hjk : k = j
    · subst hjk
      rw [List.getElem?_set_self hl] at hj
      cases hj
      exact Or.inl ⟨rfl, rfl⟩
    · rw [List.getElem?_set_ne hjk] at hj
      exact Or.inr ⟨fun hq => hjk (h2.1 k j _ _ hk hj hq.symm), (h3 q y).mpr (List.mem_of_getElem? hj)⟩
/-- a new cell -/
theorem mw.push (h : mw D cl A P H) : ∃ ws : va_W, va_P D cl ws H ∧ va_D A ws ∧ (∀ (q : Nat) (y : va_E), P q y → ∃ j : Nat, ws[j]? = some (q, y)) ∧ ∀ (b : Nat) (y : va_E) (H1 : Heap), va_P D cl (ws ++ [(b, y)]) H1 → va_D A (ws ++ [(b, y)]) → mw D cl A (madd P b y) H1 ∧ ∀ q z, P q z → q ≠ b := by
  obtain ⟨ws, h1, h2, h3⟩ := h
  refine ⟨ws, h1, h2, fun q x hq => List.getElem?_of_mem ((h3 q x).mp hq), fun b y H1 g1 g2 => ⟨⟨_, g1, g2, fun q z => ?_⟩, fun q z hz hq => ?_⟩⟩
  · rw [List.mem_append, List.mem_singleton]
    exact or_congr (h3 q z) ⟨fun h => by rw [h.1, h.2], fun h => by cases h; exact ⟨rfl, rfl⟩⟩
  · obtain ⟨j, hj⟩ := List.getElem?_of_mem ((h3 q z).mp hz)
    have hl := (List.getElem?_eq_some_iff.mp hj).1
    have h9 := g2.1 j ws.length (q, z) (b, y) (by rw [List.getElem?_append_left hl]; exact hj) (by rw [List.getElem?_append_right (Nat.le_refl _), Nat.sub_self]; rfl) hq
    omega
/-- behind a call: the callee's world as it is now, and what is the caller's alone -/
theorem mw.join {C : mP} (h : mw D cl A P H) (hC : ∀ q e, C q e → P q e) (hk : ∀ q : Nat, q < H.size → ¬ mA C H.size q → H1[q]? = H[q]?) (hF : ∀ q, mA C H.size q → A q) (h1 : mw D cl (mA C H.size) C1 H1) (hs : ∀ q e, P' q e → C1 q e ∨ (P q e ∧ ∀ y, ¬ C q y)) : mw D cl A P' H1 := by
  classical
  have h0 : mw D cl A (fun q e => P q e ∧ ∀ y, ¬ C q y) H1 := (h.sub (P' := fun q e => P q e ∧ ∀ y, ¬ C q y) (fun _ _ hp => hp.1)).kept fun q e hp => hk q (h.lt hp.1) (by
    rintro (⟨y, hy⟩ | hy)
    · exact hp.2 y hy
    · exact absurd (h.lt hp.1) (by omega))
  have hlt : ∀ q e, (P q e ∧ ∀ y, ¬ C q y) → q < H.size := fun q e hp => h.lt hp.1
  obtain ⟨w0, a1, a2, a3⟩ := h0
  obtain ⟨w1, b1, b2, b3⟩ := h1
  refine mw.sub (P := fun q e => (q, e) ∈ w0 ++ w1) ⟨w0 ++ w1, va_P.app a1 b1, va_D.app a2 (b2.weaken fun _ _ _ hq => hF _ hq) ?_, fun _ _ => Iff.rfl⟩ ?_
  · intro i j p q hp hq hpq
    have h5 := (a3 p.1 p.2).mpr (List.mem_of_getElem? hp)
    have h6 := b2.2 j q hq
    rw [← hpq] at h6
    rcases h6 with ⟨y, hy⟩ | hy
    · exact h5.2 y hy
    · exact absurd (hlt p.1 p.2 h5) (by omega)
  · intro q e hp
    rcases hs q e hp with hc | hc
    · exact List.mem_append.mpr (Or.inr ((b3 q e).mp hc))
    · exact List.mem_append.mpr (Or.inl ((a3 q e).mp hc))
end MW
section MPRE
variable {dC : Nat → ClassId} {dI : Nat → Nat → Nat} {cy : Nat → ClassId}
def mPre (dC : Nat → ClassId) (dI : Nat → Nat → Nat) (cy : Nat → ClassId) (P : mP) (sz : Nat) (U : State) : Prop := U.heap.size = sz ∧ mw (dC, dI) vwCl (fun _ => True) P U.heap ∧ va_K (dC, dI) vwCl (tp_ty cy) U ∧ tp_E U
theorem m_blind {av : List Value} {P : mP} {sz : Nat} : FrameBlind (va_Pc av (mPre dC dI cy P sz)) := fun a U g mk h => by
  obtain ⟨h0, h1, h2, h3, h4⟩ := h
  exact ⟨h0, h1, h2, va_K.moved (u := U) (U := U.calling g mk a) (Vm.Alike.refl U.vm) h3, tp_E.same (u := U) (U := U.calling g mk a) rfl h4⟩
theorem m_pay {A : Nat → Prop} {P C : mP} {s : State} {H : Heap} (hK : va_K (dC, dI) vwCl (tp_ty cy) s) (hP : mw (dC, dI) vwCl A P H) (hE : tp_E s) (hC : ∀ q e, C q e → P q e) (U : State) (hU : U.heap = H) (hW : s.WarmedH U.vm) : mPre dC dI cy C H.size U := by
  subst hU
  exact ⟨rfl, (hP.sub hC).weak (fun _ _ _ _ => trivial), va_K.moved hW.alike hK, tp_E.warm hW hE⟩
theorem m_free {A : Nat → Prop} {P C : mP} {H0 H : Heap} {locs : List Loc} (hP : mw (dC, dI) vwCl A P H) (hS : va_S A H0 H locs) (hA : ∀ q, H0.size ≤ q → A q) (hC : ∀ q e, C q e → P q e) : ∀ q, mA C H.size q → A q := by
  rintro q (⟨y, hy⟩ | hy)
  · exact hP.inA (hC q y hy)
  · exact hA q (Nat.le_trans hS.1 hy)
end MPRE

/-! worlds in parts, apart from each other -/
def anyP (Ps : List mP) : mP := fun q e => ∃ (i : Nat) (P : mP), Ps[i]? = some P ∧ P q e
def djP (Ps : List mP) : Prop := ∀ (i j : Nat) (P Q : mP) (q : Nat) (e y : va_E), Ps[i]? = some P → Ps[j]? = some Q → P q e → Q q y → i = j
def ms (D : va_G) (cl : List vw_C) (A : Nat → Prop) (Ps : List mP) (H : Heap) : Prop := mw D cl A (anyP Ps) H ∧ djP Ps
def cel (a : Nat) (e : va_E) : mP := fun q x => q = a ∧ x = e
def nP : mP := fun _ _ => False
section MS
variable {D : va_G} {cl : List vw_C} {A B : Nat → Prop} {P P' Q C C1 : mP} {Ps Qs Rs : List mP} {H H1 : Heap} {a i : Nat} {e x : va_E}
theorem any_in (hi : Ps[i]? = some P) {q : Nat} {e : va_E} (h : P q e) : anyP Ps q e := ⟨i, P, hi, h⟩
theorem ms.one (h : ms D cl A Ps H) (i : Nat) (hi : Ps[i]? = some P) (he : P a e) : va_P D cl [(a, e)] H := h.1.one (any_in hi he)
theorem ms.lt (h : ms D cl A Ps H) (i : Nat) (hi : Ps[i]? = some P) (he : P a e) : a < H.size := h.1.lt (any_in hi he)
theorem ms.part (h : ms D cl A Ps H) (i : Nat) (hi : Ps[i]? = some P) : mw D cl A P H := h.1.sub fun _ _ hq => any_in hi hq
theorem set_at {i j : Nat} (hj : (Ps.set i P)[j]? = some Q) : (j = i ∧ Q = P) ∨ (j ≠ i ∧ Ps[j]? = some Q) := by
  by_cases h : i = j
  · subst h
    have hl : i < Ps.length := by
      have := (List.getElem?_eq_some_iff.mp hj).1
      rwa [List.length_set] at this
    rw [List.getElem?_set_self hl] at hj
    exact Or.inl ⟨rfl, (Option.some.inj hj).symm⟩
  · rw [List.getElem?_set_ne h] at hj
    exact Or.inr ⟨fun h9 => h h9.symm, hj⟩
/-- a part told otherwise: on the same places or fewer -/
theorem djP.set (h : djP Ps) (hi : Ps[i]? = some P) (hs : ∀ q e, P' q e → ∃ y, P q y) : djP (Ps.set i P') := by
  intro j k Q1 Q2 q e y hj hk h1 h2
  rcases set_at hj with ⟨rfl, rfl⟩ | ⟨hj1, hj2⟩
  · rcases set_at hk with ⟨rfl, rfl⟩ | ⟨hk1, hk2⟩
    · rfl
    · obtain ⟨z, hz⟩ := hs q e h1
      exact h j k P Q2 q z y hi hk2 hz h2
  · rcases set_at hk with ⟨rfl, rfl⟩ | ⟨hk1, hk2⟩
    · obtain ⟨z, hz⟩ := hs q y h2
      exact h j k Q1 P q e z hj2 hi h1 hz
    · exact h j k Q1 Q2 q e y hj2 hk2 h1 h2
theorem ms.sub (h : ms D cl A Ps H) (i : Nat) (hi : Ps[i]? = some P) (hs : ∀ q e, P' q e → P q e) : ms D cl A (Ps.set i P') H := by
  refine ⟨h.1.sub ?_, h.2.set hi fun q e hq => ⟨e, hs q e hq⟩⟩
  rintro q e ⟨j, Q, hj, hq⟩
  rcases set_at hj with ⟨rfl, rfl⟩ | ⟨-, hj2⟩
  · exact any_in hi (hs q e hq)
  · exact any_in hj2 hq
theorem ms.weak (h : ms D cl A Ps H) (hB : ∀ q e, anyP Ps q e → A q → B q) : ms D cl B Ps H := ⟨h.1.weak hB, h.2⟩
theorem ms.self (sz : Nat) (h : ms D cl A Ps H) : ms D cl (mA (anyP Ps) sz) Ps H := ⟨h.1.self sz, h.2⟩
/-- a cell taken out, to be changed -/
theorem ms.cut (h : ms D cl A Ps H) (i : Nat) (hi : Ps[i]? = some P) (he : P a e) : ∃ (ws : va_W) (k : Nat), va_P D cl ws H ∧ va_D A ws ∧ ws[k]? = some (a, e) ∧ (∀ (q : Nat) (y : va_E), anyP Ps q y → ∃ j : Nat, ws[j]? = some (q, y)) ∧ ∀ (y : va_E) (H1 : Heap), va_P D cl (ws.set k (a, y)) H1 → va_D A (ws.set k (a, y)) → ms D cl A (Ps.set i (mset P a y)) H1 := by
  obtain ⟨ws, k, h1, h2, h3, h4, h5⟩ := h.1.cut (any_in hi he)
  refine ⟨ws, k, h1, h2, h3, h4, fun y H1 g1 g2 => ⟨(h5 y H1 g1 g2).sub ?_, h.2.set hi ?_⟩⟩
  · rintro q z ⟨j, Q, hj, hq⟩
    rcases set_at hj with ⟨rfl, rfl⟩ | ⟨hj1, hj2⟩
    · rcases hq with hq | ⟨hq1, hq2⟩
      · exact Or.inl hq
      · exact Or.inr ⟨hq1, any_in hi hq2⟩
    · refine Or.inr ⟨?_, any_in hj2 hq⟩
      rintro rfl
      exact hj1 (h.2 j i Q P q z e hj2 hi hq he)
  · rintro q z (⟨rfl, -⟩ | ⟨-, hq⟩)
    · exact ⟨e, he⟩
    · exact ⟨z, hq⟩
/-- a new cell: a new last part -/
theorem ms.push (h : ms D cl A Ps H) : ∃ ws : va_W, va_P D cl ws H ∧ va_D A ws ∧ (∀ (q : Nat) (y : va_E), anyP Ps q y → ∃ j : Nat, ws[j]? = some (q, y)) ∧ ∀ (b : Nat) (y : va_E) (H1 : Heap), va_P D cl (ws ++ [(b, y)]) H1 → va_D A (ws ++ [(b, y)]) → ms D cl A (Ps ++ [cel b y]) H1 := by
  obtain ⟨ws, h1, h2, h3, h4⟩ := h.1.push
  refine ⟨ws, h1, h2, h3, fun b y H1 g1 g2 => ?_⟩
  obtain ⟨h5, h6⟩ := h4 b y H1 g1 g2
  have hat : ∀ (j : Nat) (Q : mP), (Ps ++ [cel b y])[j]? = some Q → (Ps[j]? = some Q ∧ j < Ps.length) ∨ (j = Ps.length ∧ Q = cel b y) := by
    intro j Q hj
    by_cases hl : j < Ps.length
    · rw [List.getElem?_append_left hl] at hj
      exact Or.inl ⟨hj, hl⟩
    · have hj2 := (List.getElem?_eq_some_iff.mp hj).1
      rw [List.length_append] at hj2
      simp only [List.length_cons, List.length_nil] at hj2
      have e1 : j = Ps.length := by omega
      subst e1
      rw [List.getElem?_append_right (Nat.le_refl _), Nat.sub_self] at hj
      exact Or.inr ⟨rfl, (Option.some.inj hj).symm⟩
  refine ⟨h5.sub ?_, ?_⟩
  · rintro q z ⟨j, Q, hj, hq⟩
    rcases hat j Q hj with ⟨h7, -⟩ | ⟨-, rfl⟩
    · exact Or.inl (any_in h7 hq)
    · exact Or.inr hq
  · intro j k Q1 Q2 q z y2 hj hk h7 h8
    rcases hat j Q1 hj with ⟨g7, -⟩ | ⟨rfl, rfl⟩
    · rcases hat k Q2 hk with ⟨g8, -⟩ | ⟨rfl, rfl⟩
      · exact h.2 j k Q1 Q2 q z y2 g7 g8 h7 h8
      · exact absurd h8.1 (h6 q z (any_in g7 h7))
    · rcases hat k Q2 hk with ⟨g8, -⟩ | ⟨rfl, rfl⟩
      · exact absurd h7.1 (h6 q y2 (any_in g8 h8))
      · rfl
/-- behind a call: a part as the callee leaves it -/
theorem ms.call (h : ms D cl A Ps H) (i : Nat) (hi : Ps[i]? = some C) (hk : ∀ q : Nat, q < H.size → ¬ mA C H.size q → H1[q]? = H[q]?) (hF : ∀ q, mA C H.size q → A q) (h1 : mw D cl (mA C H.size) C1 H1) : ms D cl A (Ps.set i C1) H1 := by
  have hno : ∀ (j : Nat) (Q : mP) (q : Nat) (e y : va_E), j ≠ i → Ps[j]? = some Q → Q q e → C1 q y → False := by
    intro j Q q e y hne hj hq hc
    rcases h1.inA hc with ⟨z, hz⟩ | hz
    · exact hne (h.2 j i Q C q e z hj hi hq hz)
    · exact absurd (h.lt j hj hq) (by omega)
  refine ⟨h.1.join (fun q e hq => any_in hi hq) hk hF h1 ?_, ?_⟩
  · rintro q e ⟨j, Q, hj, hq⟩
    rcases set_at hj with ⟨rfl, rfl⟩ | ⟨hj1, hj2⟩
    · exact Or.inl hq
    · exact Or.inr ⟨any_in hj2 hq, fun y hy => hj1 (h.2 j i Q C q e y hj2 hi hq hy)⟩
  · intro j k Q1 Q2 q e y hj hk h7 h8
    rcases set_at hj with ⟨rfl, rfl⟩ | ⟨hj1, hj2⟩
    · rcases set_at hk with ⟨rfl, rfl⟩ | ⟨hk1, hk2⟩
      · rfl
      · exact (hno k Q2 q y e hk1 hk2 h8 h7).elim
    · rcases set_at hk with ⟨rfl, rfl⟩ | ⟨hk1, hk2⟩
      · exact (hno j Q1 q e y hj1 hj2 h7 h8).elim
      · exact h.2 j k Q1 Q2 q e y hj2 hk2 h7 h8
theorem app_at {j : Nat} (hj : (Qs ++ Rs)[j]? = some P) : (Qs[j]? = some P ∧ j < Qs.length) ∨ (∃ k, j = Qs.length + k ∧ Rs[k]? = some P) := by
  by_cases hl : j < Qs.length
  · rw [List.getElem?_append_left hl] at hj
    exact Or.inl ⟨hj, hl⟩
  · rw [List.getElem?_append_right (by omega)] at hj
    exact Or.inr ⟨j - Qs.length, by omega, hj⟩
theorem any_l {q : Nat} {e : va_E} (h : anyP Qs q e) : anyP (Qs ++ Rs) q e := by
  obtain ⟨i, P, hi, hq⟩ := h
  exact ⟨i, P, by rw [List.getElem?_append_left (List.getElem?_eq_some_iff.mp hi).1]; exact hi, hq⟩
theorem any_r {k : Nat} (hk : Rs[k]? = some P) {q : Nat} {e : va_E} (h : P q e) : anyP (Qs ++ Rs) q e := ⟨Qs.length + k, P, by rw [List.getElem?_append_right (by omega), Nat.add_sub_cancel_left]; exact hk, h⟩
/-- behind a call of a method whose world is told in parts: the first ones of the caller's -/
theorem ms.calls (h : ms D cl A (Qs ++ Rs) H) {Qs1 : List mP} (hk : ∀ q : Nat, q < H.size → ¬ mA (anyP Qs) H.size q → H1[q]? = H[q]?) (hF : ∀ q, mA (anyP Qs) H.size q → A q) (h1 : ms D cl (mA (anyP Qs) H.size) Qs1 H1) : ms D cl A (Qs1 ++ Rs) H1 := by
  have hdr : ∀ (k : Nat) (R : mP) (q : Nat) (e y : va_E), Rs[k]? = some R → R q e → anyP Qs q y → False := by
    rintro k R q e y hk hq ⟨i, P, hi, hy⟩
    have hl := (List.getElem?_eq_some_iff.mp hi).1
    have h9 := h.2 (Qs.length + k) i R P q e y (by rw [List.getElem?_append_right (by omega), Nat.add_sub_cancel_left]; exact hk) (by rw [List.getElem?_append_left hl]; exact hi) hq hy
    omega
  have hno : ∀ (k : Nat) (R : mP) (q : Nat) (e y : va_E), Rs[k]? = some R → R q e → anyP Qs1 q y → False := by
    intro k R q e y hk hq hc
    rcases h1.1.inA hc with ⟨z, hz⟩ | hz
    · exact hdr k R q e z hk hq hz
    · exact absurd (h.1.lt (any_r hk hq)) (by omega)
  refine ⟨h.1.join (fun q e hq => any_l hq) hk hF h1.1 ?_, ?_⟩
  · rintro q e ⟨j, Q, hj, hq⟩
    rcases app_at hj with ⟨h7, -⟩ | ⟨k, -, h7⟩
    · exact Or.inl (any_in h7 hq)
    · exact Or.inr ⟨any_r h7 hq, fun y hy => hdr k Q q e y h7 hq hy⟩
  · intro j k Q1 Q2 q e y hj hk h7 h8
    rcases app_at hj with ⟨g7, -⟩ | ⟨j2, rfl, g7⟩
    · rcases app_at hk with ⟨g8, -⟩ | ⟨k2, rfl, g8⟩
      · exact h1.2 j k Q1 Q2 q e y g7 g8 h7 h8
      · exact (hno k2 Q2 q y e g8 h8 (any_in g7 h7)).elim
    · rcases app_at hk with ⟨g8, -⟩ | ⟨k2, rfl, g8⟩
      · exact (hno j2 Q1 q e y g7 h7 (any_in g8 h8)).elim
      · have h9 := h.2 (Qs.length + j2) (Qs.length + k2) Q1 Q2 q e y (by rw [List.getElem?_append_right (by omega), Nat.add_sub_cancel_left]; exact g7) (by rw [List.getElem?_append_right (by omega), Nat.add_sub_cancel_left]; exact g8) h7 h8
        omega
/-- parts in another order, or fewer -/
theorem ms.sel (h : ms D cl A Ps H) (idx : List Nat) (hQ : Qs = idx.map (fun i => Ps.getD i nP)) (hn : idx.Nodup) : ms D cl A Qs H := by
  have hat : ∀ (j : Nat) (Q : mP) (q : Nat) (e : va_E), Qs[j]? = some Q → Q q e → ∃ k, idx[j]? = some k ∧ Ps[k]? = some Q := by
    intro j Q q e hj hq
    rw [hQ, List.getElem?_map] at hj
    cases hk : idx[j]? with
    | none => rw [hk] at hj; cases hj
    | some k =>
      rw [hk] at hj
      have e1 : Ps.getD k nP = Q := Option.some.inj hj
      refine ⟨k, rfl, ?_⟩
      rw [List.getD_eq_getElem?_getD] at e1
      cases h9 : Ps[k]? with
      | none =>
        rw [h9] at e1
        rw [← e1] at hq
        exact hq.elim
      | some R =>
        rw [h9] at e1
        exact congrArg some e1
  refine ⟨h.1.sub ?_, ?_⟩
  · rintro q e ⟨j, Q, hj, hq⟩
    obtain ⟨k, -, h7⟩ := hat j Q q e hj hq
    exact any_in h7 hq
  · intro j k Q1 Q2 q e y hj hk h7 h8
    obtain ⟨j2, g1, g2⟩ := hat j Q1 q e hj h7
    obtain ⟨k2, g3, g4⟩ := hat k Q2 q y hk h8
    have e1 := h.2 j2 k2 Q1 Q2 q e y g2 g4 h7 h8
    subst e1
    obtain ⟨l1, l2⟩ := List.getElem?_eq_some_iff.mp g1
    obtain ⟨l3, l4⟩ := List.getElem?_eq_some_iff.mp g3
    exact (List.getElem_inj hn).mp (l2.trans l4.symm)
/-- two parts told as one, and one told as two -/
theorem ms.merge (h : ms D cl A (P :: Q :: Ps) H) : ms D cl A ((fun q e => P q e ∨ Q q e) :: Ps) H := by
  refine ⟨h.1.sub ?_, ?_⟩
  · rintro q e ⟨j, R, hj, hq⟩
    cases j with
    | zero =>
      cases hj
      rcases hq with hq | hq
      · exact ⟨0, P, rfl, hq⟩
      · exact ⟨1, Q, rfl, hq⟩
    | succ j => exact ⟨j + 2, R, hj, hq⟩
  · intro j k Q1 Q2 q e y hj hk h7 h8
    cases j with
    | zero =>
      cases k with
      | zero => rfl
      | succ k =>
        cases hj
        rcases h7 with h7 | h7
        · have := h.2 0 (k + 2) P Q2 q e y rfl hk h7 h8
          omega
        · have := h.2 1 (k + 2) Q Q2 q e y rfl hk h7 h8
          omega
    | succ j =>
      cases k with
      | zero =>
        cases hk
        rcases h8 with h8 | h8
        · have := h.2 (j + 2) 0 Q1 P q e y hj rfl h7 h8
          omega
        · have := h.2 (j + 2) 1 Q1 Q q e y hj rfl h7 h8
          omega
      | succ k =>
        have := h.2 (j + 2) (k + 2) Q1 Q2 q e y hj hk h7 h8
        omega
theorem ms.split (h : ms D cl A ((fun q e => P q e ∨ Q q e) :: Ps) H) (hd : ∀ q e y, P q e → Q q y → False) : ms D cl A (P :: Q :: Ps) H := by
  have hat : ∀ (j : Nat) (R : mP) (q : Nat) (e : va_E), (P :: Q :: Ps)[j]? = some R → R q e → ∃ S, ((fun q e => P q e ∨ Q q e) :: Ps)[j - 1]? = some S ∧ S q e := by
    intro j R q e hj hq
    match j, hj with
    | 0, hj => cases hj; exact ⟨_, rfl, Or.inl hq⟩
    | 1, hj => cases hj; exact ⟨_, rfl, Or.inr hq⟩
    | j + 2, hj => exact ⟨R, hj, hq⟩
  refine ⟨h.1.sub ?_, ?_⟩
  · rintro q e ⟨j, R, hj, hq⟩
    obtain ⟨S, h1, h2⟩ := hat j R q e hj hq
    exact ⟨_, S, h1, h2⟩
  · intro j k Q1 Q2 q e y hj hk h7 h8
    obtain ⟨S1, g1, g2⟩ := hat j Q1 q e hj h7
    obtain ⟨S2, g3, g4⟩ := hat k Q2 q y hk h8
    have h9 := h.2 _ _ S1 S2 q e y g1 g3 g2 g4
    match j, k, hj, hk with
    | 0, 0, _, _ => rfl
    | 1, 1, _, _ => rfl
    | 0, 1, hj, hk => cases hj; cases hk; exact (hd q e y h7 h8).elim
    | 1, 0, hj, hk => cases hj; cases hk; exact (hd q y e h8 h7).elim
    | 0, k + 2, _, _ => omega
    | 1, k + 2, _, _ => omega
    | j + 2, 0, _, _ => omega
    | j + 2, 1, _, _ => omega
    | j + 2, k + 2, _, _ => omega
theorem mw.ms1 (h : mw D cl A P H) : ms D cl A [P] H := by
  refine ⟨h.sub ?_, ?_⟩
  · rintro q e ⟨j, R, hj, hq⟩
    cases j with
    | zero => cases hj; exact hq
    | succ j => cases hj
  · intro j k Q1 Q2 q e y hj hk _ _
    have h1 := (List.getElem?_eq_some_iff.mp hj).1
    have h2 := (List.getElem?_eq_some_iff.mp hk).1
    simp only [List.length_cons, List.length_nil] at h1 h2
    omega
end MS
/-! contracts of the law's own methods: a world in parts, and the script -/
section GPRE
variable {dC : Nat → ClassId} {dI : Nat → Nat → Nat} {cy : Nat → ClassId}
def gPre (dC : Nat → ClassId) (dI : Nat → Nat → Nat) (cy : Nat → ClassId) (bs Ls : Nat) (xs : Nat → Int32) (Ps : List mP) (sz : Nat) (U : State) : Prop := U.heap.size = sz ∧ ms (dC, dI) vwCl (fun _ => True) Ps U.heap ∧ va_K (dC, dI) vwCl (tp_ty cy) U ∧ tp_E U ∧ va_X bs Ls xs U U.heap ∧ bs < sz ∧ Ls ≤ 260 ∧ ∀ e, ¬ anyP Ps bs e
theorem g_blind {av : List Value} {bs Ls : Nat} {xs : Nat → Int32} {Ps : List mP} {sz : Nat} : FrameBlind (va_Pc av (gPre dC dI cy bs Ls xs Ps sz)) := fun a U g mk h => by
  obtain ⟨h0, h1, h2, h3, h4, h5, h6, hL, h7⟩ := h
  exact ⟨h0, h1, h2, va_K.moved (u := U) (U := U.calling g mk a) (Vm.Alike.refl U.vm) h3, tp_E.same (u := U) (U := U.calling g mk a) rfl h4, va_X.moved (u := U) (U := U.calling g mk a) (Vm.Alike.refl U.vm) h5, h6, hL, h7⟩
theorem g_pay {A : Nat → Prop} {Qs Rs : List mP} {bs Ls : Nat} {xs : Nat → Int32} {s : State} {H : Heap} {locs : List Loc} (hK : va_K (dC, dI) vwCl (tp_ty cy) s) (hP : ms (dC, dI) vwCl A (Qs ++ Rs) H) (hE : tp_E s) (hX : va_X bs Ls xs s s.heap) (hbl : bs < s.heap.size) (hbL : Ls ≤ 260) (hbA : ¬ A bs) (hS : va_S A s.heap H locs) (U : State) (hU : U.heap = H) (hW : s.WarmedH U.vm) : gPre dC dI cy bs Ls xs Qs H.size U := by
  subst hU
  refine ⟨rfl, ?_, va_K.moved hW.alike hK, tp_E.warm hW hE, va_X.moved hW.alike (hX.kept (hS.2.1 bs hbl hbA)), Nat.lt_of_lt_of_le hbl hS.1, hbL, fun e h => hbA (hP.1.inA (any_l h))⟩
  refine ⟨(hP.1.sub fun q e h => any_l h).weak (fun _ _ _ _ => trivial), ?_⟩
  intro i j P Q q e y hi hj h1 h2
  exact hP.2 i j P Q q e y (by rw [List.getElem?_append_left (List.getElem?_eq_some_iff.mp hi).1]; exact hi) (by rw [List.getElem?_append_left (List.getElem?_eq_some_iff.mp hj).1]; exact hj) h1 h2
theorem g_free {A : Nat → Prop} {Qs Rs : List mP} {H0 H : Heap} {locs : List Loc} (hP : ms (dC, dI) vwCl A (Qs ++ Rs) H) (hS : va_S A H0 H locs) (hA : ∀ q, H0.size ≤ q → A q) : ∀ q, mA (anyP Qs) H.size q → A q := m_free hP.1 hS hA fun _ _ h => any_l h
end GPRE

/-! the law's object, made -/
section MSL
variable {D : va_G} {cl : List vw_C} {A : Nat → Prop} {Ps : List mP} {H : Heap}
/-- several new cells: two new last parts -/
theorem ms.pushL (h : ms D cl A Ps H) : ∃ ws : va_W, va_P D cl ws H ∧ va_D A ws ∧ ∀ (l1 l2 : va_W) (H1 : Heap), va_P D cl ((ws ++ l1) ++ l2) H1 → va_D A ((ws ++ l1) ++ l2) → ms D cl A (Ps ++ [cw l1, cw l2]) H1 := by
  obtain ⟨⟨ws, h1, h2, h3⟩, h4⟩ := h
  refine ⟨ws, h1, h2, fun l1 l2 H1 g1 g2 => ?_⟩
  have hat : ∀ (j : Nat) (Q : mP), (Ps ++ [cw l1, cw l2])[j]? = some Q → (Ps[j]? = some Q ∧ j < Ps.length) ∨ (j = Ps.length ∧ Q = cw l1) ∨ (j = Ps.length + 1 ∧ Q = cw l2) := by
    intro j Q hj
    rcases app_at hj with h | ⟨k, rfl, hk⟩
    · exact Or.inl h
    · match k, hk with
      | 0, hk => cases hk; exact Or.inr (Or.inl ⟨rfl, rfl⟩)
      | 1, hk => cases hk; exact Or.inr (Or.inr ⟨rfl, rfl⟩)
      | k + 2, hk => cases hk
  have hd : ∀ (x y : Nat × va_E) (i j : Nat), ((ws ++ l1) ++ l2)[i]? = some x → ((ws ++ l1) ++ l2)[j]? = some y → x.1 = y.1 → i = j := fun x y i j hi hj e => g2.1 i j x y hi hj e
  have pw : ∀ q e, (q, e) ∈ ws → ∃ i, i < ws.length ∧ ((ws ++ l1) ++ l2)[i]? = some (q, e) := by
    intro q e hq
    obtain ⟨i, hi⟩ := List.getElem?_of_mem hq
    have hl := (List.getElem?_eq_some_iff.mp hi).1
    exact ⟨i, hl, by rw [List.getElem?_append_left (by rw [List.length_append]; omega), List.getElem?_append_left hl]; exact hi⟩
  have p1 : ∀ q e, (q, e) ∈ l1 → ∃ i, ws.length ≤ i ∧ i < ws.length + l1.length ∧ ((ws ++ l1) ++ l2)[i]? = some (q, e) := by
    intro q e hq
    obtain ⟨i, hi⟩ := List.getElem?_of_mem hq
    have hl := (List.getElem?_eq_some_iff.mp hi).1
    exact ⟨ws.length + i, by omega, by omega, by rw [List.getElem?_append_left (by rw [List.length_append]; omega), List.getElem?_append_right (by omega), Nat.add_sub_cancel_left]; exact hi⟩
  have p2 : ∀ q e, (q, e) ∈ l2 → ∃ i, ws.length + l1.length ≤ i ∧ ((ws ++ l1) ++ l2)[i]? = some (q, e) := by
    intro q e hq
    obtain ⟨i, hi⟩ := List.getElem?_of_mem hq
    exact ⟨(ws ++ l1).length + i, by rw [List.length_append]; omega, by rw [List.getElem?_append_right (by omega), Nat.add_sub_cancel_left]; exact hi⟩
  have pa : ∀ q e, anyP Ps q e → (q, e) ∈ ws := fun q e h => (h3 q e).mp h
  refine ⟨⟨(ws ++ l1) ++ l2, g1, g2, fun q e => ⟨?_, ?_⟩⟩, ?_⟩
  · rintro ⟨j, Q, hj, hq⟩
    rcases hat j Q hj with ⟨h5, -⟩ | ⟨-, rfl⟩ | ⟨-, rfl⟩
    · exact List.mem_append.mpr (Or.inl (List.mem_append.mpr (Or.inl (pa q e (any_in h5 hq)))))
    · exact List.mem_append.mpr (Or.inl (List.mem_append.mpr (Or.inr hq)))
    · exact List.mem_append.mpr (Or.inr hq)
  · intro hq
    rcases List.mem_append.mp hq with hq | hq
    · rcases List.mem_append.mp hq with hq | hq
      · obtain ⟨i, P, hi, hp⟩ := (h3 q e).mpr hq
        exact ⟨i, P, by rw [List.getElem?_append_left (List.getElem?_eq_some_iff.mp hi).1]; exact hi, hp⟩
      · exact any_r (Rs := [cw l1, cw l2]) (k := 0) rfl hq
    · exact any_r (Rs := [cw l1, cw l2]) (k := 1) rfl hq
  · intro j k Q1 Q2 q e y hj hk h7 h8
    rcases hat j Q1 hj with ⟨g7, -⟩ | ⟨rfl, rfl⟩ | ⟨rfl, rfl⟩
    · obtain ⟨i, hi, hi2⟩ := pw q e (pa q e (any_in g7 h7))
      rcases hat k Q2 hk with ⟨g8, -⟩ | ⟨rfl, rfl⟩ | ⟨rfl, rfl⟩
      · exact h4 j k Q1 Q2 q e y g7 g8 h7 h8
      · obtain ⟨i', hi', -, hi2'⟩ := p1 q y h8
        have := hd _ _ i i' hi2 hi2' rfl
        omega
      · obtain ⟨i', hi', hi2'⟩ := p2 q y h8
        have := hd _ _ i i' hi2 hi2' rfl
        omega
    · obtain ⟨i, hi, hi1, hi2⟩ := p1 q e h7
      rcases hat k Q2 hk with ⟨g8, -⟩ | ⟨rfl, rfl⟩ | ⟨rfl, rfl⟩
      · obtain ⟨i', hi', hi2'⟩ := pw q y (pa q y (any_in g8 h8))
        have := hd _ _ i i' hi2 hi2' rfl
        omega
      · rfl
      · obtain ⟨i', hi', hi2'⟩ := p2 q y h8
        have := hd _ _ i i' hi2 hi2' rfl
        omega
    · obtain ⟨i, hi, hi2⟩ := p2 q e h7
      rcases hat k Q2 hk with ⟨g8, -⟩ | ⟨rfl, rfl⟩ | ⟨rfl, rfl⟩
      · obtain ⟨i', hi', hi2'⟩ := pw q y (pa q y (any_in g8 h8))
        have := hd _ _ i i' hi2 hi2' rfl
        omega
      · obtain ⟨i', hi', hi1', hi2'⟩ := p1 q y h8
        have := hd _ _ i i' hi2 hi2' rfl
        omega
      · rfl
end MSL
theorem k_ac {dC : Nat → ClassId} {dI : Nat → Nat → Nat} {cy : Nat → ClassId} {s : State} {args : Array Value} (hK : va_K (dC, dI) vwCl (tp_ty cy) s) : (Cond.arrayClass (.array .int)).before args s = true := by
  obtain ⟨-, k, hk, comp, hkk⟩ := (hK.2 8 _ rfl).1 0 (fun _ => .null)
  have hf : s.vm.findClass ("[" ++ (FieldType.array .int).toString) = some (cy 8) := (hK.2 8 _ rfl).2
  have hk' : s.vm.classes[cy 8]? = some k := hk
  simp [Cond.before, Cond.holds, Cond.value, hf, hk', hkk]
theorem k_s3I : "[" ++ (FieldType.array (FieldType.array FieldType.int)).toString = "[[[I" := by decide +kernel
theorem k_fcA {dC : Nat → ClassId} {dI : Nat → Nat → Nat} {cy : Nat → ClassId} {s : State} (h : va_K (dC, dI) vwCl (tp_ty cy) s) : s.vm.findClass (FieldType.array (FieldType.array FieldType.int)).toString = some (cy 8) := (h.2 8 _ rfl).2
/-- an array not yet filled, told as a row of rows -/
theorem rw_0 {cy : Nat → ClassId} {n w q0 : Nat} {lr : Nat → Nat} {lv : Nat → Nat → Int32} : ∀ q e, rwW cy n w q0 lr lv 0 q e → cel q0 (arQ (cy 8) n (fun _ => none)) q e := by
  rintro q e (⟨rfl, rfl⟩ | ⟨j, hj, -⟩)
  · refine ⟨rfl, ?_⟩
    congr 1
  · omega
theorem pr_0 {cy : Nat → ClassId} {r9 : Nat → Nat} {pe : Nat → Nat → Nat} : ∀ q e, prW cy r9 (fun _ => 0) pe q e → cw (va_pl ((List.range 12).map r9) (fun _ => .inl (cy 8, 0, .inr (.inr (.inr (.inr (fun _ => none))))))) q e := by
  rintro q e ⟨n, hn, rfl, rfl⟩
  refine vpl_mem.mpr ⟨n, hn, rfl, ?_⟩
  congr 1
theorem pe_0 {cy : Nat → ClassId} {pe : Nat → Nat → Nat} {px : Nat → Nat → Nat → Int32} : ∀ q e, peW cy (fun _ => 0) pe px q e → nP q e := by
  rintro q e ⟨n, j, -, hj, -⟩
  exact absurd hj (Nat.not_lt_zero _)
theorem po_0 {r9 : Nat → Nat} {cy : Nat → ClassId} {D : va_G} {cl : List vw_C} {q : Nat} {H : Heap} (h : va_at D cl (q, arQ (cy 10) 12 (fun i => if i < 12 then some (r9 i) else none)) H) : va_at D cl (q, arQ (cy 10) 12 (fun i => some (r9 i))) H := arr_re (fun j hj => if_pos hj) h
/-- one part's contents told otherwise -/
theorem ms.re {D : va_G} {cl : List vw_C} {A : Nat → Prop} {Ps : List mP} {H : Heap} {a i : Nat} {e x : va_E} (h : ms D cl A Ps H) (hi : Ps[i]? = some (cel a e)) (hat : va_at D cl (a, e) H → va_at D cl (a, x) H) : ms D cl A (Ps.set i (cel a x)) H := by
  classical
  have h1 := h.1.re (f := fun q y => if q = a then x else y) (by
    rintro q y hq hy
    by_cases hqa : q = a
    · subst hqa
      rw [if_pos rfl]
      exact hat (h.1.at (any_in hi ⟨rfl, rfl⟩))
    · rw [if_neg hqa]
      exact hy)
  refine ⟨h1.sub ?_, h.2.set hi ?_⟩
  · rintro q y ⟨j, Q, hj, hq⟩
    rcases set_at hj with ⟨rfl, rfl⟩ | ⟨hj1, hj2⟩
    · obtain ⟨rfl, rfl⟩ := hq
      exact ⟨e, any_in hi ⟨rfl, rfl⟩, (if_pos rfl).symm⟩
    · refine ⟨y, any_in hj2 hq, ?_⟩
      rw [if_neg]
      rintro rfl
      exact hj1 (h.2 j i Q _ q y e hj2 hi hq ⟨rfl, rfl⟩)
  · rintro q y ⟨rfl, -⟩
    exact ⟨e, rfl, rfl⟩

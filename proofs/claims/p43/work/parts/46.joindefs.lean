/-! behind a maker's call; contents told otherwise -/
section JOINL
variable {D : va_G} {cl : List vw_C} {A : Nat → Prop} {P : mP} {H H1 : Heap} {a : Nat} {z : va_E}
theorem mA_va {l : va_W} {sz q : Nat} : va_A l sz q ↔ mA (cw l) sz q := by
  constructor
  · rintro (⟨k, e, h⟩ | h)
    · exact Or.inl ⟨e, List.mem_of_getElem? h⟩
    · exact Or.inr h
  · rintro (⟨e, h⟩ | h)
    · obtain ⟨k, hk⟩ := List.getElem?_of_mem h
      exact Or.inl ⟨k, e, hk⟩
    · exact Or.inr h
/-- the callee's cells in place of the one that it was given -/
theorem mw.joinL {w1 : va_W} (h : mw D cl A (madd P a z) H) (hfr : ∀ q e, P q e → q ≠ a) (hk : ∀ q : Nat, q < H.size → ¬ va_A [(a, z)] H.size q → H1[q]? = H[q]?) (hF : ∀ q, va_A [(a, z)] H.size q → A q) (hP1 : va_P D cl w1 H1) (hD1 : va_D (va_A [(a, z)] H.size) w1) : mw D cl A (fun q e => P q e ∨ (q, e) ∈ w1) H1 := by
  have h1 : mw D cl (mA (cw [(a, z)]) H.size) (cw w1) H1 := mw.ofL hP1 ⟨hD1.1, fun k q hq => mA_va.mp (hD1.2 k q hq)⟩
  refine mw.join (C := cw [(a, z)]) h ?_ (fun q hq hn => hk q hq fun h9 => hn (mA_va.mp h9)) (fun q hq => hF q (mA_va.mpr hq)) h1 ?_
  · intro q e hq
    cases List.mem_singleton.mp hq
    exact Or.inr ⟨rfl, rfl⟩
  · rintro q e (hp | hp)
    · refine Or.inr ⟨Or.inl hp, fun y hy => ?_⟩
      cases List.mem_singleton.mp hy
      exact hfr _ _ hp rfl
    · exact Or.inl hp
/-- what a maker made is new, all but the cell that it was given -/
theorem new_or {w1 : va_W} {sz q : Nat} {e : va_E} (hD1 : va_D (va_A [(a, z)] sz) w1) (hq : (q, e) ∈ w1) : q = a ∨ sz ≤ q := by
  obtain ⟨k, hk⟩ := List.getElem?_of_mem hq
  rcases hD1.2 k _ hk with ⟨j, y, hj⟩ | h
  · have h9 := List.mem_of_getElem? hj
    cases List.mem_singleton.mp h9
    exact Or.inl rfl
  · exact Or.inr h
theorem mw.re {f : Nat → va_E → va_E} (h : mw D cl A P H) (hf : ∀ q e, P q e → va_at D cl (q, e) H → va_at D cl (q, f q e) H) : mw D cl A (fun q e => ∃ y, P q y ∧ e = f q y) H := by
  obtain ⟨ws, h1, h2, h3⟩ := h
  refine ⟨ws.map (fun x => (x.1, f x.1 x.2)), vP_mem.mpr ?_, ⟨vD_nd.mpr ?_, vA_mem.mpr ?_⟩, ?_⟩
  · intro q hq
    obtain ⟨x, hx, rfl⟩ := List.mem_map.mp hq
    exact hf x.1 x.2 ((h3 _ _).mpr hx) (vP_mem.mp h1 x hx)
  · rw [List.map_map]
    exact vD_nd.mp h2.1
  · intro q hq
    obtain ⟨x, hx, rfl⟩ := List.mem_map.mp hq
    exact vA_mem.mp h2.2 x hx
  · intro q e
    rw [List.mem_map]
    constructor
    · rintro ⟨y, hy, rfl⟩
      exact ⟨(q, y), (h3 _ _).mp hy, rfl⟩
    · rintro ⟨x, hx, he⟩
      cases he
      exact ⟨x.2, (h3 _ _).mpr hx, rfl⟩
theorem arr_re {q n : Nat} {cA : ClassId} {f g : Nat → Option Nat} (hfg : ∀ j, j < n → f j = g j) (h : va_at D cl (q, .inl (cA, n, .inr (.inr (.inr (.inr f))))) H) : va_at D cl (q, .inl (cA, n, .inr (.inr (.inr (.inr g))))) H := by
  have e : vp_cell cA (n, .inr (.inr (.inr (.inr f)))) = vp_cell cA (n, .inr (.inr (.inr (.inr g)))) := by
    rw [vp_cell_q, vp_cell_q]
    unfold arrV
    congr 2
    funext j
    show va_rf (f j.val) = va_rf (g j.val)
    rw [hfg j.val j.isLt]
  show H[q]? = some (vp_cell cA _)
  rw [← e]
  exact h
end JOINL
/-- a new Traffic's numbers -/
def St0 : St := fun f _ k => if f = 2 ∧ k = 6 then -1 else if f = 8 ∧ k = 1 then -1 else if f = 14 ∧ k = 4 then 1 else if f = 0 ∧ k = 1 then 1 else 0

/-! makers: worlds as short lists of cells -/
def cw (l : va_W) : mP := fun q e => (q, e) ∈ l
theorem mw.ofL {D : va_G} {cl : List vw_C} {A : Nat → Prop} {l : va_W} {H : Heap} (h : va_P D cl l H) (hD : va_D A l) : mw D cl A (cw l) H := ⟨l, h, hD, fun _ _ => Iff.rfl⟩
theorem cw_P {D : va_G} {cl : List vw_C} {A : Nat → Prop} {l : va_W} {H : Heap} (h : mw D cl A (cw l) H) : va_P D cl l H := vP_mem.mpr fun q hq => h.at (e := q.2) hq
theorem cw_D1 {a sz : Nat} {e : va_E} : va_D (va_A [(a, e)] sz) [(a, e)] := by
  refine ⟨fun i j p q hi hj _ => ?_, fun k q hk => va_A.in hk⟩
  have h1 := (List.getElem?_eq_some_iff.mp hi).1
  have h2 := (List.getElem?_eq_some_iff.mp hj).1
  simp only [List.length_cons, List.length_nil] at h1 h2
  omega
def kPost (dC : Nat → ClassId) (dI : Nat → Nat → Nat) (A : Nat → Prop) (ws : va_W) (U : State) : Prop := va_P (dC, dI) vwCl ws U.heap ∧ va_D A ws
theorem k_pay {dC : Nat → ClassId} {dI : Nat → Nat → Nat} {cy : Nat → ClassId} {A : Nat → Prop} {ws wc : va_W} {s : State} {H : Heap} (hK : va_K (dC, dI) vwCl (tp_ty cy) s) (hP : va_P (dC, dI) vwCl ws H) (hD : va_D A ws) (hE : tp_E s) (hC : ∀ q, q ∈ wc → q ∈ ws) (U : State) (hU : U.heap = H) (hW : s.WarmedH U.vm) : mPre dC dI cy (cw wc) H.size U := m_pay hK (mw.ofL hP hD) hE (fun q e h => hC (q, e) h) U hU hW
def tp_dv (N : Nat) (ty : Nat → FieldType) (fs : List Value) : Bool := (List.range N).all fun j => decide (defaultValue (ty j) = vp_V fs j)
theorem tp_dv_ok {N : Nat} {ty : Nat → FieldType} {fs : List Value} (h : tp_dv N ty fs = true) (j : Nat) (hj : j < N) : defaultValue (ty j) = vp_V fs j := of_decide_eq_true (List.all_eq_true.mp h j (List.mem_range.mpr hj))

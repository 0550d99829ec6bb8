/-! the law's own world: its object, its rows; how the Turnpike's numbers come to be -/
theorem cel_in {a : Nat} {e : va_E} : cel a e a e := ⟨rfl, rfl⟩
theorem ms.cutc {D : va_G} {cl : List vw_C} {A : Nat → Prop} {Ps : List mP} {H : Heap} {a : Nat} {e : va_E} (h : ms D cl A Ps H) (i : Nat) (hi : Ps[i]? = some (cel a e)) : ∃ (ws : va_W) (k : Nat), va_P D cl ws H ∧ va_D A ws ∧ ws[k]? = some (a, e) ∧ (∀ (q : Nat) (y : va_E), anyP Ps q y → ∃ j : Nat, ws[j]? = some (q, y)) ∧ ∀ (y : va_E) (H1 : Heap), va_P D cl (ws.set k (a, y)) H1 → va_D A (ws.set k (a, y)) → ms D cl A (Ps.set i (cel a y)) H1 := by
  obtain ⟨ws, k, h1, h2, h3, h4, h5⟩ := h.cut i hi cel_in
  refine ⟨ws, k, h1, h2, h3, h4, fun y H1 g1 g2 => ?_⟩
  have hl := (List.getElem?_eq_some_iff.mp hi).1
  have h6 := (h5 y H1 g1 g2).sub i (P' := cel a y) (List.getElem?_set_self hl) (fun q z hq => Or.inl hq)
  rw [List.set_set] at h6
  exact h6
def gO (ob bs : Nat) (qf : Nat → Nat) (d nd nl nf : Nat) : va_E := .inr (9, [.ref ob, .ref bs, .int (nI d), .int (nI nd), .int 0, .int 1, .int (nI nl), .ref (qf 0), .ref (qf 1), .ref (qf 2), .ref (qf 3), .ref (qf 4), .ref (qf 5), .ref (qf 6), .ref (qf 7), .ref (qf 8), .int (nI nf), .ref (qf 9), .int 0, .ref (qf 10), .ref (qf 11), .ref (qf 12), .ref (qf 13), .ref (qf 14), .ref (qf 15)])
/-- an array of rows of numbers, so far filled up to nl -/
def rwW (cy : Nat → ClassId) (n w lk : Nat) (lr : Nat → Nat) (lv : Nat → Nat → Int32) (nl : Nat) : mP := fun q e => (q = lk ∧ e = arQ (cy 8) n (fun j => if j < nl then some (lr j) else none)) ∨ ∃ j, j < nl ∧ q = lr j ∧ e = .inl (cy 0, w, .inl (lv j))
def up2 {α : Type} (f : Nat → α) (k : Nat) (v : α) : Nat → α := fun j => if j = k then v else f j
theorem rw_ne {D : va_G} {cl : List vw_C} {A : Nat → Prop} {H : Heap} {cy : Nat → ClassId} {n w lk nl i : Nat} {lr : Nat → Nat} {lv : Nat → Nat → Int32} {Ps : List mP} (h : ms D cl A Ps H) (hi : Ps[i]? = some (rwW cy n w lk lr lv nl)) : ∀ j, j < nl → lr j ≠ lk := by
  intro j hj h9
  have h8 := congrArg kd ((h.part i hi).fn (a := lk) (Or.inl ⟨rfl, rfl⟩) (Or.inr ⟨j, hj, h9.symm, rfl⟩))
  exact absurd (congrArg Prod.fst h8) (show ¬ (3 = 1) by decide)
theorem rw_add {D : va_G} {cl : List vw_C} {A : Nat → Prop} {H : Heap} {cy : Nat → ClassId} {n w lk nl r9 : Nat} {lr : Nat → Nat} {lv : Nat → Nat → Int32} {x : Nat → Int32} {Ps : List mP} (hne : ∀ j, j < nl → lr j ≠ lk) (h : ms D cl A (mset (rwW cy n w lk lr lv nl) lk (arQ (cy 8) n (va_up (fun j => if j < nl then some (lr j) else none) nl (some r9))) :: cel r9 (.inl (cy 0, w, .inl x)) :: Ps) H) : ms D cl A (rwW cy n w lk (up2 lr nl r9) (up2 lv nl x) (nl + 1) :: Ps) H := by
  refine h.merge.sub 0 rfl ?_
  have e1 : (va_up (fun j => if j < nl then some (lr j) else none) nl (some r9)) = fun j => if j < nl + 1 then some (up2 lr nl r9 j) else none := by
    funext j
    by_cases hj : j = nl
    · subst hj
      rw [va_up_self, if_pos (Nat.lt_succ_self j)]
      show some r9 = some (if j = j then r9 else lr j)
      rw [if_pos rfl]
    · rw [va_up_ne _ _ hj]
      show (if j < nl then some (lr j) else none) = if j < nl + 1 then some (if j = nl then r9 else lr j) else none
      rw [if_neg hj]
      by_cases h1 : j < nl
      · rw [if_pos h1, if_pos (by omega)]
      · rw [if_neg h1, if_neg (by omega)]
  rintro q e (⟨rfl, rfl⟩ | ⟨j, hj, rfl, rfl⟩)
  · exact Or.inl (Or.inl ⟨rfl, by rw [e1]⟩)
  · by_cases h1 : j = nl
    · subst h1
      refine Or.inr ⟨if_pos rfl, ?_⟩
      show (.inl (cy 0, w, .inl (if j = j then x else lv j)) : va_E) = _
      rw [if_pos rfl]
    · have e2 : up2 lr nl r9 j = lr j := if_neg h1
      have e3 : up2 lv nl x j = lv j := if_neg h1
      rw [e2, e3]
      exact Or.inl (Or.inr ⟨hne j (by omega), Or.inr ⟨j, by omega, rfl, rfl⟩⟩)
/-- an array of arrays of rows of three numbers -/
def phW (cy : Nat → ClassId) (ph : Nat) (pr pl : Nat → Nat) (pe : Nat → Nat → Nat) (px : Nat → Nat → Nat → Int32) : mP := fun q e => (q = ph ∧ e = arQ (cy 10) 12 (fun n => some (pr n))) ∨ (∃ n, n < 12 ∧ q = pr n ∧ e = arQ (cy 8) (pl n) (fun j => if j < pl n then some (pe n j) else none)) ∨ ∃ n j, n < 12 ∧ j < pl n ∧ q = pe n j ∧ e = .inl (cy 0, 3, .inl (px n j))
/-! how the Turnpike's numbers come to be -/
def rw5 (f t ti ro ra : Nat) : Nat → Int32 := upd (upd (upd (upd (upd (fun _ => 0) 0 (nI f)) 1 (nI t)) 2 (nI ti)) 3 (nI ro)) 4 (nI ra)
def rw6 (f t kd st pe mo : Nat) : Nat → Int32 := upd (upd (upd (upd (upd (upd (fun _ => 0) 0 (nI f)) 1 (nI t)) 2 (nI kd)) 3 (nI st)) 4 (nI pe)) 5 (nI mo)
abbrev Tb : Type := Nat → Nat → Int32
abbrev BPr : Type := St → Nat → Nat → Tb → (Nat → Nat) → Nat → Tb → Prop
def B_node (Φ : BPr) : Prop := ∀ (a : St) (nd : Nat) (lv : Tb) (pl : Nat → Nat) (fv : Tb), Φ a nd 0 lv pl 0 fv → nd < 12 → Φ (U_node a) (nd + 1) 0 lv pl 0 fv
def B_link (Φ : BPr) : Prop := ∀ (a : St) (nd nl : Nat) (lv : Tb) (pl : Nat → Nat) (fv : Tb) (f t ti ro ra : Nat), Φ a nd nl lv pl 0 fv → nl < 24 → f < nd → t < nd → f ≠ t → 1 ≤ ti → ti ≤ 20 → 1 ≤ ro → ro ≤ 30 → 1 ≤ ra → ra ≤ 3 → Φ (G_lay a (nI f) (nI t) (nI ti) (nI ro) (nI ra)) nd (nl + 1) (up2 lv nl (rw5 f t ti ro ra)) pl 0 fv
def B_phase (Φ : BPr) : Prop := ∀ (a : St) (nd nl : Nat) (lv : Tb) (pl : Nat → Nat) (fv : Tb) (n : Nat) (y : Int32) (lea gre : Nat), Φ a nd nl lv pl 0 fv → n < nd → ¬ y < 0 → ¬ G_lead a (nI n) y 32 0 = 0 → 1 ≤ lea → lea ≤ gre → gre ≤ 40 → pl n < 4 → Φ (S_app a n y (nI lea) (nI gre)) nd nl lv (up2 pl n (pl n + 1)) 0 fv
def B_flow (Φ : BPr) : Prop := ∀ (a : St) (nd nl : Nat) (lv : Tb) (pl : Nat → Nat) (nf : Nat) (fv : Tb) (fr to kd st pe mo : Nat), Φ a nd nl lv pl nf fv → nf < 10 → fr < nd → to < nd → fr ≠ to → kd ≤ 1 → st ≤ 500 → 1 ≤ pe → pe ≤ 30 → 1 ≤ mo → mo ≤ 40 → Φ (U_flow a (nI fr) (nI to) (nI kd) (nI st) (nI pe) (nI mo)) nd nl lv pl (nf + 1) (up2 fv nf (rw6 fr to kd st pe mo))
def Bld : BPr := fun a nd nl lv pl nf fv => ∀ Φ : BPr, (∀ (lv : Tb) (pl : Nat → Nat) (fv : Tb), (∀ n, pl n = 0) → Φ St0 0 0 lv pl 0 fv) → B_node Φ → B_link Φ → B_phase Φ → B_flow Φ → Φ a nd nl lv pl nf fv
theorem Bld.node : B_node Bld := fun a nd lv pl fv h h1 Φ z0 z1 z2 z3 z4 => z1 a nd lv pl fv (h Φ z0 z1 z2 z3 z4) h1
theorem Bld.link : B_link Bld := fun a nd nl lv pl fv f t ti ro ra h h1 h2 h3 h4 h5 h6 h7 h8 h9 h10 Φ z0 z1 z2 z3 z4 => z2 a nd nl lv pl fv f t ti ro ra (h Φ z0 z1 z2 z3 z4) h1 h2 h3 h4 h5 h6 h7 h8 h9 h10
theorem Bld.phase : B_phase Bld := fun a nd nl lv pl fv n y lea gre h h1 h2 h3 h4 h5 h6 h7 Φ z0 z1 z2 z3 z4 => z3 a nd nl lv pl fv n y lea gre (h Φ z0 z1 z2 z3 z4) h1 h2 h3 h4 h5 h6 h7
theorem Bld.flow : B_flow Bld := fun a nd nl lv pl nf fv fr to kd st pe mo h h1 h2 h3 h4 h5 h6 h7 h8 h9 h10 Φ z0 z1 z2 z3 z4 => z4 a nd nl lv pl nf fv fr to kd st pe mo (h Φ z0 z1 z2 z3 z4) h1 h2 h3 h4 h5 h6 h7 h8 h9 h10
theorem Bld.zero {lv : Tb} {pl : Nat → Nat} {fv : Tb} (h : ∀ n, pl n = 0) : Bld St0 0 0 lv pl 0 fv := fun _ z0 _ _ _ _ => z0 lv pl fv h
section WZ
variable {M : Nat} {a : St} {i : Nat} {x : Nat → Int32}
theorem Wz2 (h : Wf M a) (hx : in_ (x 0) 11 ∧ in_ (x 1) 11 ∧ (x 4).toInt ≤ 3 ∧ (x 5).toInt ≤ 3) : Wf M (S2 a 2 i x) := by
  obtain ⟨h1, h2, h3, h4, h5⟩ := h
  refine ⟨?_, fun j hj => ?_, fun n hn => ?_, fun f hf => ?_, fun v hv => ?_⟩
  · simpa only [Wnum, S2_nf (show 1 ≠ 2 by decide), S2_nf (show 0 ≠ 2 by decide)] using h1
  · have h9 := h2 j hj
    unfold Wlink at h9 ⊢
    rw [S2_nf (show 3 ≠ 2 by decide), S2_nf (show 5 ≠ 2 by decide)]
    by_cases hij : j = i
    · subst hij
      rw [S2_eq]
      exact ⟨hx.1, hx.2.1, hx.2.2.1, hx.2.2.2, h9.2.2.2.2⟩
    · rw [S2_ni hij]
      exact h9
  · simpa only [Wnode, S2_nf (show 8 ≠ 2 by decide), S2_nf (show 12 ≠ 2 by decide)] using h3 n hn
  · simpa only [Wflow, S2_nf (show 14 ≠ 2 by decide)] using h4 f hf
  · simpa only [Wveh, S2_nf (show 15 ≠ 2 by decide)] using h5 v hv
theorem Wz1 (h : Wf M a) (hx : in_ (x 0) 24) : Wf M (S2 a 1 0 x) := by
  obtain ⟨h1, h2, h3, h4, h5⟩ := h
  refine ⟨?_, fun j hj => ?_, fun n hn => ?_, fun f hf => ?_, fun v hv => ?_⟩
  · unfold Wnum at h1 ⊢
    rw [S2_eq, S2_nf (show 0 ≠ 1 by decide)]
    exact ⟨hx, h1.2⟩
  · simpa only [Wlink, S2_nf (show 2 ≠ 1 by decide), S2_nf (show 3 ≠ 1 by decide), S2_nf (show 5 ≠ 1 by decide)] using h2 j hj
  · simpa only [Wnode, S2_nf (show 8 ≠ 1 by decide), S2_nf (show 12 ≠ 1 by decide)] using h3 n hn
  · simpa only [Wflow, S2_nf (show 14 ≠ 1 by decide)] using h4 f hf
  · simpa only [Wveh, S2_nf (show 15 ≠ 1 by decide)] using h5 v hv
theorem Wz0 (h : Wf M a) (hx : in_ (x 2) 12 ∧ in_ (x 3) 10 ∧ in_ (x 4) 200) : Wf M (S2 a 0 0 x) := by
  obtain ⟨h1, h2, h3, h4, h5⟩ := h
  refine ⟨?_, fun j hj => ?_, fun n hn => ?_, fun f hf => ?_, fun v hv => ?_⟩
  · unfold Wnum at h1 ⊢
    rw [S2_eq, S2_nf (show 1 ≠ 0 by decide)]
    exact ⟨h1.1, hx⟩
  · simpa only [Wlink, S2_nf (show 2 ≠ 0 by decide), S2_nf (show 3 ≠ 0 by decide), S2_nf (show 5 ≠ 0 by decide)] using h2 j hj
  · simpa only [Wnode, S2_nf (show 8 ≠ 0 by decide), S2_nf (show 12 ≠ 0 by decide)] using h3 n hn
  · simpa only [Wflow, S2_nf (show 14 ≠ 0 by decide)] using h4 f hf
  · simpa only [Wveh, S2_nf (show 15 ≠ 0 by decide)] using h5 v hv
theorem Wz8 (h : Wf M a) (hx : in_ (x 0) 4) : Wf M (S2 a 8 i x) := by
  obtain ⟨h1, h2, h3, h4, h5⟩ := h
  refine ⟨?_, fun j hj => ?_, fun n hn => ?_, fun f hf => ?_, fun v hv => ?_⟩
  · simpa only [Wnum, S2_nf (show 1 ≠ 8 by decide), S2_nf (show 0 ≠ 8 by decide)] using h1
  · simpa only [Wlink, S2_nf (show 2 ≠ 8 by decide), S2_nf (show 3 ≠ 8 by decide), S2_nf (show 5 ≠ 8 by decide)] using h2 j hj
  · have h9 := h3 n hn
    unfold Wnode at h9 ⊢
    rw [S2_nf (show 12 ≠ 8 by decide)]
    by_cases hij : n = i
    · subst hij
      rw [S2_eq]
      exact ⟨hx, h9.2⟩
    · rw [S2_ni hij]
      exact h9
  · simpa only [Wflow, S2_nf (show 14 ≠ 8 by decide)] using h4 f hf
  · simpa only [Wveh, S2_nf (show 15 ≠ 8 by decide)] using h5 v hv
theorem Wz14 (h : Wf M a) (hx : in_ (x 0) 11 ∧ in_ (x 1) 11) : Wf M (S2 a 14 i x) := by
  obtain ⟨h1, h2, h3, h4, h5⟩ := h
  refine ⟨?_, fun j hj => ?_, fun n hn => ?_, fun f hf => ?_, fun v hv => ?_⟩
  · simpa only [Wnum, S2_nf (show 1 ≠ 14 by decide), S2_nf (show 0 ≠ 14 by decide)] using h1
  · simpa only [Wlink, S2_nf (show 2 ≠ 14 by decide), S2_nf (show 3 ≠ 14 by decide), S2_nf (show 5 ≠ 14 by decide)] using h2 j hj
  · simpa only [Wnode, S2_nf (show 8 ≠ 14 by decide), S2_nf (show 12 ≠ 14 by decide)] using h3 n hn
  · have h9 := h4 f hf
    unfold Wflow at h9 ⊢
    by_cases hij : f = i
    · subst hij
      rw [S2_eq]
      exact hx
    · rw [S2_ni hij]
      exact h9
  · simpa only [Wveh, S2_nf (show 15 ≠ 14 by decide)] using h5 v hv
theorem Wz9 {f0 : Nat} (hf0 : 9 ≤ f0 ∧ f0 ≤ 11) (h : Wf M a) : Wf M (S2 a f0 i x) := by
  obtain ⟨h1, h2, h3, h4, h5⟩ := h
  refine ⟨?_, fun j hj => ?_, fun n hn => ?_, fun f hf => ?_, fun v hv => ?_⟩
  · simpa only [Wnum, S2_nf (show 1 ≠ f0 by omega), S2_nf (show 0 ≠ f0 by omega)] using h1
  · simpa only [Wlink, S2_nf (show 2 ≠ f0 by omega), S2_nf (show 3 ≠ f0 by omega), S2_nf (show 5 ≠ f0 by omega)] using h2 j hj
  · simpa only [Wnode, S2_nf (show 8 ≠ f0 by omega), S2_nf (show 12 ≠ f0 by omega)] using h3 n hn
  · simpa only [Wflow, S2_nf (show 14 ≠ f0 by omega)] using h4 f hf
  · simpa only [Wveh, S2_nf (show 15 ≠ f0 by omega)] using h5 v hv
end WZ
/-- what the machine wants to know of a network that is told -/
def B0 : BPr := fun a nd nl lv pl nf fv => (a 0 0 0 = 0 ∧ a 0 0 1 = 1 ∧ a 0 0 2 = nI nd ∧ nd ≤ 12 ∧ a 1 0 0 = nI nl ∧ nl ≤ 24 ∧ a 0 0 3 = nI nf ∧ nf ≤ 10 ∧ a 0 0 4 = 0 ∧ a 0 0 5 = 0) ∧ (∀ n, n < 12 → a 8 n 0 = nI (pl n) ∧ pl n ≤ 4) ∧ (∀ i, i < 24 → a 2 i 7 = 0) ∧ (∀ i, i < nl → a 2 i 1 = lv i 1) ∧ Wf 0 a
theorem in_nI0 {n k : Nat} (h : n ≤ k) (hk : k < 1000000) : in_ (nI n) k := by
  rw [show in_ (nI n) k ↔ (0 ≤ (nI n).toInt ∧ (nI n).toInt ≤ k) from Iff.rfl, nI_toInt (by omega)]
  omega
theorem B0_zero : ∀ (lv : Tb) (pl : Nat → Nat) (fv : Tb), (∀ n, pl n = 0) → B0 St0 0 0 lv pl 0 fv := by
  intro lv pl fv h
  refine ⟨by simp [St0, nI], fun n hn => ⟨by rw [h n]; simp [St0, nI], by rw [h n]; omega⟩, fun i hi => by simp [St0], fun i hi => absurd hi (by omega), ?_⟩
  refine ⟨by simp [Wnum, in_, St0], fun j hj => by simp [Wlink, in_, St0], fun n hn => by simp [Wnode, in_, St0], fun f hf => by simp [Wflow, in_, St0], fun v hv => by simp [Wveh, in_, St0]⟩
theorem B0_node : B_node B0 := by
  rintro a nd lv pl fv ⟨⟨c0, c1, c2, c3, c4, c5, c6, c7, c8, c9⟩, h2, h3, h4, h5⟩ h
  refine ⟨?_, fun n hn => ?_, fun i hi => ?_, fun i hi => absurd hi (by omega), ?_⟩
  · unfold U_node
    rw [S2_eq, S2_nf (show 1 ≠ 0 by decide), upd_ne (by decide), upd_ne (by decide), upd_eq, upd_ne (by decide), upd_ne (by decide), upd_ne (by decide), c2, nI_1]
    exact ⟨c0, c1, rfl, by omega, c4, c5, c6, c7, c8, c9⟩
  · unfold U_node
    rw [S2_nf (by decide)]
    exact h2 n hn
  · unfold U_node
    rw [S2_nf (by decide)]
    exact h3 i hi
  · refine Wz0 h5 ⟨?_, ?_, ?_⟩
    · rw [upd_eq, c2, nI_1]
      exact in_nI0 (by omega) (by decide)
    · rw [upd_ne (by decide)]
      exact h5.1.2.2.1
    · rw [upd_ne (by decide)]
      exact h5.1.2.2.2
theorem B0_link : B_link B0 := by
  rintro a nd nl lv pl fv f t ti ro ra ⟨⟨c0, c1, c2, c3, c4, c5, c6, c7, c8, c9⟩, h2, h3, h4, h5⟩ h hf ht hne k1 k2 k3 k4 k5 k6
  have hn : nL a = nl := by show (a 1 0 0).toNatClampNeg = nl; rw [c4, nI_clamp (by omega)]
  unfold G_lay G_lay1
  rw [hn]
  refine ⟨?_, fun n hn => ?_, fun i hi => ?_, fun i hi => ?_, ?_⟩
  · rw [S2_nf (show 0 ≠ 1 by decide), S2_nf (show 0 ≠ 2 by decide), S2_eq, upd_eq, c4, nI_1]
    exact ⟨c0, c1, c2, c3, rfl, by omega, c6, c7, c8, c9⟩
  · rw [S2_nf (by decide), S2_nf (by decide)]
    exact h2 n hn
  · rw [S2_nf (by decide)]
    by_cases hij : i = nl
    · subst hij
      rw [S2_eq]
      simp only [X_lay, upd]
      exact h3 i hi
    · rw [S2_ni hij]
      exact h3 i hi
  · rw [S2_nf (by decide)]
    by_cases hij : i = nl
    · subst hij
      rw [S2_eq]
      simp [X_lay, upd, up2, rw5]
    · rw [S2_ni hij]
      simp only [up2, if_neg hij]
      exact h4 i (by omega)
  · refine Wz1 (Wz2 h5 ?_) ?_
    · simp only [X_lay, upd]
      refine ⟨in_nI0 (by omega) (by decide), in_nI0 (by omega) (by decide), ?_, ?_⟩
      · exact (in_nI0 (k := 3) (by omega) (by decide)).2
      · exact (in_nI0 (k := 3) (by omega) (by decide)).2
    · rw [upd_eq, c4, nI_1]
      exact in_nI0 (by omega) (by decide)
theorem B0_phase : B_phase B0 := by
  rintro a nd nl lv pl fv n y lea gre ⟨⟨c0, c1, c2, c3, c4, c5, c6, c7, c8, c9⟩, h2, h3, h4, h5⟩ h hy hl k1 k2 k3 k4
  unfold S_app
  refine ⟨?_, fun m hm => ?_, fun i hi => ?_, fun i hi => ?_, ?_⟩
  · rw [S2_nf (show 0 ≠ 8 by decide), S2_nf (show 0 ≠ 11 by decide), S2_nf (show 0 ≠ 10 by decide), S2_nf (show 0 ≠ 9 by decide), S2_nf (show 1 ≠ 8 by decide), S2_nf (show 1 ≠ 11 by decide), S2_nf (show 1 ≠ 10 by decide), S2_nf (show 1 ≠ 9 by decide)]
    exact ⟨c0, c1, c2, c3, c4, c5, c6, c7, c8, c9⟩
  · obtain ⟨e1, e2⟩ := h2 m hm
    by_cases hij : m = n
    · subst hij
      rw [S2_eq, upd_eq, e1, nI_1]
      simp only [up2, if_true]
      exact ⟨trivial, by omega⟩
    · rw [S2_ni hij, S2_nf (by decide), S2_nf (by decide), S2_nf (by decide)]
      simp only [up2, if_neg hij]
      exact ⟨e1, e2⟩
  · rw [S2_nf (by decide), S2_nf (by decide), S2_nf (by decide), S2_nf (by decide)]
    exact h3 i hi
  · rw [S2_nf (by decide), S2_nf (by decide), S2_nf (by decide), S2_nf (by decide)]
    exact h4 i hi
  · refine Wz8 (Wz9 (by omega) (Wz9 (by omega) (Wz9 (by omega) h5))) ?_
    rw [upd_eq, (h2 n (by omega)).1, nI_1]
    exact in_nI0 (by omega) (by decide)
theorem B0_flow : B_flow B0 := by
  rintro a nd nl lv pl nf fv fr to kd st pe mo ⟨⟨c0, c1, c2, c3, c4, c5, c6, c7, c8, c9⟩, h2, h3, h4, h5⟩ h hf ht hne k1 k2 k3 k4 k5 k6
  unfold U_flow F_tell
  refine ⟨?_, fun n hn => ?_, fun i hi => ?_, fun i hi => ?_, ?_⟩
  · rw [S2_eq, S2_nf (show 1 ≠ 0 by decide), S2_nf (show 1 ≠ 14 by decide), upd_ne (by decide), upd_ne (by decide), upd_ne (by decide), upd_eq, upd_ne (by decide), upd_ne (by decide), c6, nI_1]
    exact ⟨c0, c1, c2, c3, c4, c5, rfl, by omega, c8, c9⟩
  · rw [S2_nf (by decide), S2_nf (by decide)]
    exact h2 n hn
  · rw [S2_nf (by decide), S2_nf (by decide)]
    exact h3 i hi
  · rw [S2_nf (by decide), S2_nf (by decide)]
    exact h4 i hi
  · refine Wz0 (Wz14 h5 ?_) ⟨?_, ?_, ?_⟩
    · simp only [upd]
      exact ⟨in_nI0 (by omega) (by decide), in_nI0 (by omega) (by decide)⟩
    · rw [upd_ne (by decide)]
      exact h5.1.2.1
    · rw [upd_eq, c6, nI_1]
      exact in_nI0 (by omega) (by decide)
    · rw [upd_ne (by decide)]
      exact h5.1.2.2.2
theorem Bld.b0 {a : St} {nd nl : Nat} {lv : Tb} {pl : Nat → Nat} {nf : Nat} {fv : Tb} (h : Bld a nd nl lv pl nf fv) : B0 a nd nl lv pl nf fv := h B0 B0_zero B0_node B0_link B0_phase B0_flow

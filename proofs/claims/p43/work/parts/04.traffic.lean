/-! a Traffic's cells: families of places, numbers in each place -/
abbrev St : Type := Nat → Nat → Nat → Int32
def S2 (a : St) (f i : Nat) (x : Nat → Int32) : St := fun g j => if g = f ∧ j = i then x else a g j
theorem S2_eq {a : St} {f i : Nat} {x : Nat → Int32} : S2 a f i x f i = x := by simp [S2]
theorem S2_nf {a : St} {f i g j : Nat} {x : Nat → Int32} (h : g ≠ f) : S2 a f i x g j = a g j := by simp [S2, h]
theorem S2_ni {a : St} {f i g j : Nat} {x : Nat → Int32} (h : j ≠ i) : S2 a f i x g j = a g j := by simp [S2, h]
theorem S2_id {a : St} {f i : Nat} : S2 a f i (a f i) = a := by
  funext g j
  by_cases h : g = f ∧ j = i
  · obtain ⟨rfl, rfl⟩ := h
    exact S2_eq
  · simp [S2, h]
theorem S2_S2 {a : St} {f i : Nat} {x y : Nat → Int32} : S2 (S2 a f i x) f i y = S2 a f i y := by
  funext g j
  by_cases h : g = f ∧ j = i <;> simp [S2, h]
abbrev Lay : Type := Nat → Nat → Nat
/-- how many places a family has -/
def nF (f : Nat) : Nat := match f with
  | 0 => 1 | 1 => 1 | 2 => 24 | 3 => 24 | 4 => 24 | 5 => 24 | 6 => 24 | 7 => 24 | 8 => 12 | 9 => 12 | 10 => 12 | 11 => 12 | 12 => 12 | 13 => 12 | 14 => 10 | 15 => 200 | 16 => 200 | 17 => 12
  | 20 => 1 | 21 => 1 | 22 => 1 | 23 => 1 | 24 => 1 | 25 => 1 | _ => 0
def LI (L : Lay) : Prop := ∀ f i g j, i < nF f → j < nF g → L f i = L g j → f = g ∧ i = j
/-- what is reckoned of the ways: for which nodes, and the rows -/
abbrev Kap : Type := Int32 × (Nat → Nat → Int32)
/-- the trails: the array of rows, its rows' places, how long each is, the words -/
abbrev Tau : Type := Nat × (Nat → Nat) × (Nat → Nat) × (Nat → Nat → Int64)
def ct (cy : Nat → ClassId) (L : Lay) (tr : Option Nat) (κ : Kap) (f i : Nat) (x : Nat → Int32) : va_E := match f with
  | 0 => .inr (5, [.ref (L 1 0), .ref (L 20 0), .ref (L 21 0), .ref (L 22 0), .ref (L 23 0), va_rf tr, .int (x 0), .int (x 1), .int (x 2), .int (x 3), .int (x 4), .int (x 5)])
  | 1 => .inr (2, [.ref (L 24 0), .int (x 0), .ref (L 25 0), .int κ.1])
  | 2 => .inr (1, [.int (x 0), .int (x 1), .int (x 2), .int (x 3), .int (x 4), .int (x 5), .int (x 6), .int (x 7), .int (x 8), .ref (L 3 i), .ref (L 5 i), .int (x 9), .int (x 10), .int (x 11), .int (x 12), .ref (L 7 i)])
  | 3 => .inr (3, [.ref (L 4 i), .int (x 0)])
  | 4 => .inl (cy 0, 30, .inl x)
  | 5 => .inr (3, [.ref (L 6 i), .int (x 0)])
  | 6 => .inl (cy 0, 30, .inl x)
  | 7 => .inl (cy 0, 24, .inl x)
  | 8 => .inr (4, [.ref (L 9 i), .ref (L 10 i), .ref (L 11 i), .int (x 0), .int (x 1), .int (x 2)])
  | 9 => .inl (cy 0, 4, .inl x)
  | 10 => .inl (cy 0, 4, .inl x)
  | 11 => .inl (cy 0, 4, .inl x)
  | 12 => .inr (3, [.ref (L 13 i), .int (x 0)])
  | 13 => .inl (cy 0, 200, .inl x)
  | 14 => .inr (0, [.int (x 0), .int (x 1), .int (x 2), .int (x 3), .int (x 4), .int (x 5), .int (x 6), .int (x 7), .int (x 8), .int (x 9), .int (x 10), .int (x 11)])
  | 15 => .inr (7, [.int (x 0), .int (x 1), .int (x 2), .int (x 3), .int (x 4), .int (x 5), .int (x 6), .int (x 7), .int (x 8), .int (x 9), .int (x 10), .int (x 11), .ref (L 16 i)])
  | 16 => .inl (cy 0, 11, .inl x)
  | 17 => .inl (cy 0, 12, .inl (κ.2 i))
  | 20 => .inl (cy 4, 12, .inr (.inr (.inr (.inr (fun j => some (L 8 j))))))
  | 21 => .inl (cy 5, 12, .inr (.inr (.inr (.inr (fun j => some (L 12 j))))))
  | 22 => .inl (cy 6, 10, .inr (.inr (.inr (.inr (fun j => some (L 14 j))))))
  | 23 => .inl (cy 7, 200, .inr (.inr (.inr (.inr (fun j => some (L 15 j))))))
  | 24 => .inl (cy 3, 24, .inr (.inr (.inr (.inr (fun j => some (L 2 j))))))
  | _ => .inl (cy 8, 12, .inr (.inr (.inr (.inr (fun j => some (L 17 j))))))
def trw (cy : Nat → ClassId) (tr : Option Nat) (τ : Tau) : mP := fun q e => ∃ t, tr = some t ∧ ((q = t ∧ e = .inr (6, [.ref τ.1])) ∨ (q = τ.1 ∧ e = .inl (cy 9, 200, .inr (.inr (.inr (.inr (fun v => some (τ.2.1 v))))))) ∨ ∃ v, v < 200 ∧ q = τ.2.1 v ∧ e = .inl (cy 1, τ.2.2.1 v, .inr (.inl (τ.2.2.2 v))))
def TW (cy : Nat → ClassId) (L : Lay) (tr : Option Nat) (a : St) (κ : Kap) (τ : Tau) : mP := fun q e => (∃ f i, i < nF f ∧ q = L f i ∧ e = ct cy L tr κ f i (a f i)) ∨ trw cy tr τ q e
/-- all places apart -/
def TL (L : Lay) (tr : Option Nat) (τ : Tau) : Prop := LI L ∧ ∀ t, tr = some t → (∀ f i, i < nF f → L f i ≠ t ∧ L f i ≠ τ.1 ∧ ∀ v, v < 200 → L f i ≠ τ.2.1 v) ∧ t ≠ τ.1 ∧ (∀ v, v < 200 → τ.2.1 v ≠ t ∧ τ.2.1 v ≠ τ.1) ∧ ∀ u v, u < 200 → v < 200 → τ.2.1 u = τ.2.1 v → u = v
section TWS
variable {cy : Nat → ClassId} {L : Lay} {tr : Option Nat} {a b : St} {κ κ' : Kap} {τ τ' : Tau} {f i : Nat} {x : Nat → Int32}
theorem tw_mem (hi : i < nF f) (hx : a f i = x) : TW cy L tr a κ τ (L f i) (ct cy L tr κ f i x) := Or.inl ⟨f, i, hi, rfl, by rw [hx]⟩
theorem tw_off (hT : TL L tr τ) (hi : i < nF f) {q : Nat} {e : va_E} (h : trw cy tr τ q e) : q ≠ L f i := by
  obtain ⟨t, ht, h⟩ := h
  obtain ⟨h1, -, -, -⟩ := hT.2 t ht
  obtain ⟨g1, g2, g3⟩ := h1 f i hi
  rcases h with ⟨rfl, -⟩ | ⟨rfl, -⟩ | ⟨v, hv, rfl, -⟩
  · exact g1.symm
  · exact g2.symm
  · exact (g3 v hv).symm
/-- one cell's numbers changed -/
theorem tw_set (hT : TL L tr τ) (hi : i < nF f) (h9 : f ≠ 1 ∧ f ≠ 17) (hb : b = S2 a f i x) : ∀ q e, TW cy L tr b κ τ q e → mset (TW cy L tr a κ τ) (L f i) (ct cy L tr κ f i x) q e := by
  subst hb
  rintro q e (⟨g, j, hj, rfl, rfl⟩ | h)
  · by_cases hh : g = f ∧ j = i
    · obtain ⟨rfl, rfl⟩ := hh
      exact Or.inl ⟨rfl, by rw [S2_eq]⟩
    · exact Or.inr ⟨fun hq => hh (hT.1 g j f i hj hi hq), Or.inl ⟨g, j, hj, rfl, by simp [S2, hh]⟩⟩
  · exact Or.inr ⟨tw_off hT hi h, Or.inr h⟩
/-- the links' number, and for which nodes ways are reckoned -/
theorem tw_set1 (hT : TL L tr τ) {r : Int32} (hb : b = S2 a 1 0 x) (hκ : κ' = (r, κ.2)) : ∀ q e, TW cy L tr b κ' τ q e → mset (TW cy L tr a κ τ) (L 1 0) (ct cy L tr κ' 1 0 x) q e := by
  subst hb
  subst hκ
  rintro q e (⟨g, j, hj, rfl, rfl⟩ | h)
  · by_cases hh : g = 1 ∧ j = 0
    · obtain ⟨rfl, rfl⟩ := hh
      exact Or.inl ⟨rfl, by rw [S2_eq]⟩
    · refine Or.inr ⟨fun hq => hh (hT.1 g j 1 0 hj (by decide) hq), Or.inl ⟨g, j, hj, rfl, ?_⟩⟩
      have h1 : g ≠ 1 := fun h => hh ⟨h, by subst h; have : nF 1 = 1 := rfl; omega⟩
      rw [S2_nf h1]
      unfold ct
      split <;> first | rfl | exact absurd rfl h1
  · exact Or.inr ⟨tw_off hT (by decide) h, Or.inr h⟩
/-- a row of costs -/
theorem tw_set17 (hT : TL L tr τ) (hi : i < 12) {z : Nat → Int32} (hκ : κ' = (κ.1, fun j => if j = i then z else κ.2 j)) : ∀ q e, TW cy L tr a κ' τ q e → mset (TW cy L tr a κ τ) (L 17 i) (.inl (cy 0, 12, .inl z)) q e := by
  subst hκ
  rintro q e (⟨g, j, hj, rfl, rfl⟩ | h)
  · by_cases hh : g = 17 ∧ j = i
    · obtain ⟨rfl, rfl⟩ := hh
      exact Or.inl ⟨rfl, by simp [ct]⟩
    · refine Or.inr ⟨fun hq => hh (hT.1 g j 17 i hj hi hq), Or.inl ⟨g, j, hj, rfl, ?_⟩⟩
      by_cases h1 : g = 17
      · subst h1
        have h2 : j ≠ i := fun h => hh ⟨rfl, h⟩
        simp [ct, h2]
      · unfold ct
        split <;> first | rfl | exact absurd rfl h1
  · exact Or.inr ⟨tw_off hT (by exact hi) h, Or.inr h⟩
/-- a world with the same places: what a caller may be given back -/
theorem tw_dom (hi : i < nF f) : ∃ e, TW cy L tr a κ τ (L f i) e := ⟨_, tw_mem hi rfl⟩
end TWS

/-! places given one group after the other: what is made stays apart -/
def LIg (G : Nat → Nat → Prop) (L : Lay) : Prop := ∀ f i g j, G f i → G g j → L f i = L g j → f = g ∧ i = j
def Lx (L : Lay) (F : List Nat) (i : Nat) (nw : Nat → Nat) : Lay := fun f j => if f ∈ F ∧ j = i then nw f else L f j
def Gx (G : Nat → Nat → Prop) (F : List Nat) (i : Nat) : Nat → Nat → Prop := fun f j => G f j ∨ (f ∈ F ∧ j = i)
/-- which families a family's cells point to, at the same place -/
def rdF : List (Nat × Nat) := [(2, 3), (2, 5), (2, 7), (3, 4), (5, 6), (8, 9), (8, 10), (8, 11), (12, 13), (15, 16)]
def MD (cy : Nat → ClassId) (tr : Option Nat) (κ : Kap) (L : Lay) (G : Nat → Nat → Prop) : mP := fun q e => ∃ f i, G f i ∧ q = L f i ∧ e = ct cy L tr κ f i (St0 f i)
section LAYX
variable {G : Nat → Nat → Prop} {L : Lay} {F : List Nat} {i sz : Nat} {nw : Nat → Nat} {cy : Nat → ClassId} {tr : Option Nat} {κ : Kap}
theorem Lx_new {f : Nat} (h : f ∈ F) : Lx L F i nw f i = nw f := if_pos ⟨h, rfl⟩
theorem Lx_old {f j : Nat} (h : ¬ (f ∈ F ∧ j = i)) : Lx L F i nw f j = L f j := if_neg h
theorem Lx_G {f j : Nat} (hG : ∀ f, f ∈ F → ¬ G f i) (h : G f j) : Lx L F i nw f j = L f j := Lx_old fun h9 => hG f h9.1 (by rw [← h9.2]; exact h)
theorem LIg.ext (h : LIg G L) (hne : ∀ f j g, G f j → g ∈ F → L f j ≠ nw g) (hd : ∀ f g, f ∈ F → g ∈ F → nw f = nw g → f = g) (hG : ∀ f, f ∈ F → ¬ G f i) : LIg (Gx G F i) (Lx L F i nw) := by
  rintro f j g k (hf | ⟨hf, rfl⟩) (hg | ⟨hg, rfl⟩) e
  · rw [Lx_G hG hf, Lx_G hG hg] at e
    exact h f j g k hf hg e
  · rw [Lx_G hG hf, Lx_new hg] at e
    exact absurd e (hne f j g hf hg)
  · rw [Lx_new hf, Lx_G hG hg] at e
    exact absurd e.symm (hne g k f hg hf)
  · rw [Lx_new hf, Lx_new hg] at e
    exact ⟨hd f g hf hg e, rfl⟩
theorem ct_same {K : Lay} {f j : Nat} {x : Nat → Int32} (hf : 2 ≤ f ∧ f ≤ 17) (h : ∀ g, (f, g) ∈ rdF → K g j = L g j) : ct cy K tr κ f j x = ct cy L tr κ f j x := by
  unfold ct
  split <;> first
    | rfl
    | (exfalso; omega)
    | (rw [h 3 (by decide), h 5 (by decide), h 7 (by decide)])
    | (rw [h 4 (by decide)])
    | (rw [h 6 (by decide)])
    | (rw [h 9 (by decide), h 10 (by decide), h 11 (by decide)])
    | (rw [h 13 (by decide)])
    | (rw [h 16 (by decide)])
    | (exfalso; clear h; simp only [imp_false] at *; omega)
theorem MD.ext (h2 : ∀ f j, G f j → 2 ≤ f ∧ f ≤ 17) (hG : ∀ f, f ∈ F → ¬ G f i) (hcl : ∀ f g, (f, g) ∈ rdF → g ∈ F → f ∈ F) {q : Nat} {e : va_E} (h : MD cy tr κ (Lx L F i nw) (Gx G F i) q e) : MD cy tr κ L G q e ∨ ∃ f, f ∈ F ∧ q = nw f ∧ e = ct cy (Lx L F i nw) tr κ f i (St0 f i) := by
  obtain ⟨f, j, hf | ⟨hf, rfl⟩, rfl, rfl⟩ := h
  · refine Or.inl ⟨f, j, hf, Lx_G hG hf, ct_same (h2 f j hf) fun g hg => Lx_old fun h9 => ?_⟩
    exact hG f (hcl f g hg h9.1) (by rw [← h9.2]; exact hf)
  · exact Or.inr ⟨f, hf, Lx_new hf, rfl⟩
end LAYX
theorem St0_z {f i : Nat} (h2 : f ≠ 2) (h8 : f ≠ 8) (h14 : f ≠ 14) (h0 : f ≠ 0) : St0 f i = fun _ => 0 := by
  funext k
  simp [St0, h2, h8, h14, h0]
theorem G_succ {i : Nat} : (fun f j => 2 ≤ f ∧ f ≤ 7 ∧ j < i + 1) = Gx (fun f j => 2 ≤ f ∧ f ≤ 7 ∧ j < i) [2, 3, 4, 5, 6, 7] i := by
  funext f j
  apply propext
  simp only [Gx, List.mem_cons, List.not_mem_nil, or_false]
  omega

/-! a Traffic, made: its four loops -/
def TAp (B : mP) (q0 q1 q2 q3 : Nat) : Prop := (∀ q e, B q e → q ≠ q0 ∧ q ≠ q1 ∧ q ≠ q2 ∧ q ≠ q3) ∧ q0 ≠ q1 ∧ q0 ≠ q2 ∧ q0 ≠ q3 ∧ q1 ≠ q2 ∧ q1 ≠ q3 ∧ q2 ≠ q3
def GT (i8 i12 i14 i15 : Nat) : Nat → Nat → Prop := fun f j => (((2 ≤ f ∧ f ≤ 7) ∨ f = 17) ∧ j < nF f) ∨ (8 ≤ f ∧ f ≤ 11 ∧ j < i8) ∨ (12 ≤ f ∧ f ≤ 13 ∧ j < i12) ∨ (f = 14 ∧ j < i14) ∨ (15 ≤ f ∧ f ≤ 16 ∧ j < i15)
def TWl (cy : Nat → ClassId) (B : mP) (L : Lay) (q0 q1 q2 q3 i8 i12 i14 i15 : Nat) : mP := fun q e => ((((B q e ∨ MD cy none K0 L (GT i8 i12 i14 i15) q e) ∨ (q = q0 ∧ e = arQ (cy 4) 12 (fil L 8 i8))) ∨ (q = q1 ∧ e = arQ (cy 5) 12 (fil L 12 i12))) ∨ (q = q2 ∧ e = arQ (cy 6) 10 (fil L 14 i14))) ∨ (q = q3 ∧ e = arQ (cy 7) 200 (fil L 15 i15))
theorem GT_2 {i8 i12 i14 i15 f j : Nat} (h : GT i8 i12 i14 i15 f j) : 2 ≤ f ∧ f ≤ 17 := by
  unfold GT at h
  omega
theorem md_ne {D : va_G} {cl : List vw_C} {A : Nat → Prop} {P : mP} {H : Heap} {cy : Nat → ClassId} {L : Lay} {tr : Option Nat} {κ : Kap} {G : Nat → Nat → Prop} {qa n : Nat} {cA : ClassId} {g : Nat → Option Nat} (hP : mw D cl A P H) (hm : ∀ q e, MD cy tr κ L G q e → P q e) (hq : P qa (arQ cA n g)) (h2 : ∀ f j, G f j → 2 ≤ f ∧ f ≤ 17) : ∀ q e, MD cy tr κ L G q e → q ≠ qa := by
  rintro q e h rfl
  have h9 := hP.fn (hm _ _ h) hq
  obtain ⟨f, i, hf, -, he⟩ := h
  have h8 : kd e = kf f := by rw [he, kd_ct]
  rw [h9] at h8
  have h7 : ∀ f, f < 18 → 2 ≤ f → (kf f).1 ≤ 1 := by decide
  have h6 := h7 f (by have := (h2 f i hf).2; omega) (h2 f i hf).1
  rw [← h8] at h6
  exact absurd h6 (by show ¬ (3 ≤ 1); omega)
section TTURN
variable {D : va_G} {cl : List vw_C} {A : Nat → Prop} {cy : Nat → ClassId} {L : Lay} {B : mP} {H : Heap} {q0 q1 q2 q3 i8 i12 i14 i15 a9 n1 : Nat} {Z : va_E} {w1 : va_W}
theorem GT_8 : GT (i8 + 1) i12 i14 i15 = Gx (GT i8 i12 i14 i15) [8, 9, 10, 11] i8 := by
  funext f j
  apply propext
  simp only [GT, Gx, List.mem_cons, List.not_mem_nil, or_false]
  omega
theorem TWl_8 : TWl cy B L q0 q1 q2 q3 i8 i12 i14 i15 = PWm cy none K0 (fun q e => ((B q e ∨ (q = q1 ∧ e = arQ (cy 5) 12 (fil L 12 i12))) ∨ (q = q2 ∧ e = arQ (cy 6) 10 (fil L 14 i14))) ∨ (q = q3 ∧ e = arQ (cy 7) 200 (fil L 15 i15))) L (GT i8 i12 i14 i15) q0 (cy 4) 12 8 i8 := by
  funext q e
  apply propext
  simp only [TWl, PWm]
  constructor
  · rintro (((((h | h) | h) | h) | h) | h) <;> simp only [h, true_or, or_true, and_self]
  · rintro (((((h | h) | h) | h) | h) | h) <;> simp only [h, true_or, or_true, and_self]
theorem tt8 (hLI : LIg (GT i8 i12 i14 i15) L) (hB : TAp B q0 q1 q2 q3) (hP : mw D cl A (madd (TWl cy B L q0 q1 q2 q3 i8 i12 i14 i15) a9 Z) H) (hfr : ∀ q e, TWl cy B L q0 q1 q2 q3 i8 i12 i14 i15 q e → q ≠ a9) (hDk : va_D (va_A [(a9, Z)] H.size) w1) (hn1 : w1.length = n1) (hF : ∀ f, f ∈ [8, 9, 10, 11] → 8 ≤ f ∧ f < 8 + n1) (hw0 : ∀ f, f ∈ [8, 9, 10, 11] → (nwf w1 8 f, ct cy (fun g _ => nwf w1 8 g) none K0 f i8 (St0 f i8)) ∈ w1) (h0 : nwf w1 8 8 = a9) :
    ∃ L' : Lay, (∀ f j, f < 8 ∨ 17 ≤ f → L' f j = L f j) ∧ LIg (GT (i8 + 1) i12 i14 i15) L' ∧ ∀ q e, TWl cy B L' q0 q1 q2 q3 (i8 + 1) i12 i14 i15 q e → mset (fun q e => TWl cy B L q0 q1 q2 q3 i8 i12 i14 i15 q e ∨ (q, e) ∈ w1) q0 (arQ (cy 4) 12 (va_up (fil L 8 i8) i8 (some a9))) q e := by
  have hmd : ∀ q e, MD cy none K0 L (GT i8 i12 i14 i15) q e → q ≠ q0 := by
    rw [TWl_8] at hP
    exact md_ne hP (fun q e h => Or.inl (Or.inl (Or.inr h))) (Or.inl (Or.inr ⟨rfl, rfl⟩)) (fun f j h => GT_2 h)
  have hap : ∀ q e, (fun q e => ((B q e ∨ (q = q1 ∧ e = arQ (cy 5) 12 (fil L 12 i12))) ∨ (q = q2 ∧ e = arQ (cy 6) 10 (fil L 14 i14))) ∨ (q = q3 ∧ e = arQ (cy 7) 200 (fil L 15 i15))) q e ∨ MD cy none K0 L (GT i8 i12 i14 i15) q e → q ≠ q0 := by
    rintro q e ((((h | ⟨rfl, -⟩) | ⟨rfl, -⟩) | ⟨rfl, -⟩) | h)
    · have := hB.1 q e h
      omega
    · have := hB.2
      omega
    · have := hB.2
      omega
    · have := hB.2
      omega
    · exact hmd q e h
  rw [TWl_8] at hP hfr
  obtain ⟨g1, -, g3⟩ := lay_step hLI (fun f j h => GT_2 h) (fun f hf h => by
    simp only [List.mem_cons, List.not_mem_nil, or_false] at hf
    unfold GT at h
    omega) (by decide) hn1 hF hap hP hfr hDk hw0 (by decide) (by decide) h0
  refine ⟨_, ?_, by rw [GT_8]; exact g1, ?_⟩
  · intro f j hf
    refine Lx_old fun h => ?_
    have h9 := h.1
    simp only [List.mem_cons, List.not_mem_nil, or_false] at h9
    omega
  · rw [TWl_8, TWl_8, GT_8]
    rw [fil_Lx (f0 := 12) (by decide), fil_Lx (f0 := 14) (by decide), fil_Lx (f0 := 15) (by decide)]
    exact g3
theorem GT_12 : GT i8 (i12 + 1) i14 i15 = Gx (GT i8 i12 i14 i15) [12, 13] i12 := by
  funext f j
  apply propext
  simp only [GT, Gx, List.mem_cons, List.not_mem_nil, or_false]
  omega
theorem TWl_12 : TWl cy B L q0 q1 q2 q3 i8 i12 i14 i15 = PWm cy none K0 (fun q e => ((B q e ∨ (q = q0 ∧ e = arQ (cy 4) 12 (fil L 8 i8))) ∨ (q = q2 ∧ e = arQ (cy 6) 10 (fil L 14 i14))) ∨ (q = q3 ∧ e = arQ (cy 7) 200 (fil L 15 i15))) L (GT i8 i12 i14 i15) q1 (cy 5) 12 12 i12 := by
  funext q e
  apply propext
  simp only [TWl, PWm]
  constructor
  · rintro (((((h | h) | h) | h) | h) | h) <;> simp only [h, true_or, or_true, and_self]
  · rintro (((((h | h) | h) | h) | h) | h) <;> simp only [h, true_or, or_true, and_self]
theorem tt12 (hLI : LIg (GT i8 i12 i14 i15) L) (hB : TAp B q0 q1 q2 q3) (hP : mw D cl A (madd (TWl cy B L q0 q1 q2 q3 i8 i12 i14 i15) a9 Z) H) (hfr : ∀ q e, TWl cy B L q0 q1 q2 q3 i8 i12 i14 i15 q e → q ≠ a9) (hDk : va_D (va_A [(a9, Z)] H.size) w1) (hn1 : w1.length = n1) (hF : ∀ f, f ∈ [12, 13] → 12 ≤ f ∧ f < 12 + n1) (hw0 : ∀ f, f ∈ [12, 13] → (nwf w1 12 f, ct cy (fun g _ => nwf w1 12 g) none K0 f i12 (St0 f i12)) ∈ w1) (h0 : nwf w1 12 12 = a9) :
    ∃ L' : Lay, (∀ f j, f < 8 ∨ 17 ≤ f → L' f j = L f j) ∧ LIg (GT i8 (i12 + 1) i14 i15) L' ∧ ∀ q e, TWl cy B L' q0 q1 q2 q3 i8 (i12 + 1) i14 i15 q e → mset (fun q e => TWl cy B L q0 q1 q2 q3 i8 i12 i14 i15 q e ∨ (q, e) ∈ w1) q1 (arQ (cy 5) 12 (va_up (fil L 12 i12) i12 (some a9))) q e := by
  have hmd : ∀ q e, MD cy none K0 L (GT i8 i12 i14 i15) q e → q ≠ q1 := by
    rw [TWl_12] at hP
    exact md_ne hP (fun q e h => Or.inl (Or.inl (Or.inr h))) (Or.inl (Or.inr ⟨rfl, rfl⟩)) (fun f j h => GT_2 h)
  have hap : ∀ q e, (fun q e => ((B q e ∨ (q = q0 ∧ e = arQ (cy 4) 12 (fil L 8 i8))) ∨ (q = q2 ∧ e = arQ (cy 6) 10 (fil L 14 i14))) ∨ (q = q3 ∧ e = arQ (cy 7) 200 (fil L 15 i15))) q e ∨ MD cy none K0 L (GT i8 i12 i14 i15) q e → q ≠ q1 := by
    rintro q e ((((h | ⟨rfl, -⟩) | ⟨rfl, -⟩) | ⟨rfl, -⟩) | h)
    · have := hB.1 q e h
      omega
    · have := hB.2
      omega
    · have := hB.2
      omega
    · have := hB.2
      omega
    · exact hmd q e h
  rw [TWl_12] at hP hfr
  obtain ⟨g1, -, g3⟩ := lay_step hLI (fun f j h => GT_2 h) (fun f hf h => by
    simp only [List.mem_cons, List.not_mem_nil, or_false] at hf
    unfold GT at h
    omega) (by decide) hn1 hF hap hP hfr hDk hw0 (by decide) (by decide) h0
  refine ⟨_, ?_, by rw [GT_12]; exact g1, ?_⟩
  · intro f j hf
    refine Lx_old fun h => ?_
    have h9 := h.1
    simp only [List.mem_cons, List.not_mem_nil, or_false] at h9
    omega
  · rw [TWl_12, TWl_12, GT_12]
    rw [fil_Lx (f0 := 8) (by decide), fil_Lx (f0 := 14) (by decide), fil_Lx (f0 := 15) (by decide)]
    exact g3
theorem GT_14 : GT i8 i12 (i14 + 1) i15 = Gx (GT i8 i12 i14 i15) [14] i14 := by
  funext f j
  apply propext
  simp only [GT, Gx, List.mem_cons, List.not_mem_nil, or_false]
  omega
theorem TWl_14 : TWl cy B L q0 q1 q2 q3 i8 i12 i14 i15 = PWm cy none K0 (fun q e => ((B q e ∨ (q = q0 ∧ e = arQ (cy 4) 12 (fil L 8 i8))) ∨ (q = q1 ∧ e = arQ (cy 5) 12 (fil L 12 i12))) ∨ (q = q3 ∧ e = arQ (cy 7) 200 (fil L 15 i15))) L (GT i8 i12 i14 i15) q2 (cy 6) 10 14 i14 := by
  funext q e
  apply propext
  simp only [TWl, PWm]
  constructor
  · rintro (((((h | h) | h) | h) | h) | h) <;> simp only [h, true_or, or_true, and_self]
  · rintro (((((h | h) | h) | h) | h) | h) <;> simp only [h, true_or, or_true, and_self]
theorem tt14 (hLI : LIg (GT i8 i12 i14 i15) L) (hB : TAp B q0 q1 q2 q3) (hP : mw D cl A (madd (TWl cy B L q0 q1 q2 q3 i8 i12 i14 i15) a9 Z) H) (hfr : ∀ q e, TWl cy B L q0 q1 q2 q3 i8 i12 i14 i15 q e → q ≠ a9) (hDk : va_D (va_A [(a9, Z)] H.size) w1) (hn1 : w1.length = n1) (hF : ∀ f, f ∈ [14] → 14 ≤ f ∧ f < 14 + n1) (hw0 : ∀ f, f ∈ [14] → (nwf w1 14 f, ct cy (fun g _ => nwf w1 14 g) none K0 f i14 (St0 f i14)) ∈ w1) (h0 : nwf w1 14 14 = a9) :
    ∃ L' : Lay, (∀ f j, f < 8 ∨ 17 ≤ f → L' f j = L f j) ∧ LIg (GT i8 i12 (i14 + 1) i15) L' ∧ ∀ q e, TWl cy B L' q0 q1 q2 q3 i8 i12 (i14 + 1) i15 q e → mset (fun q e => TWl cy B L q0 q1 q2 q3 i8 i12 i14 i15 q e ∨ (q, e) ∈ w1) q2 (arQ (cy 6) 10 (va_up (fil L 14 i14) i14 (some a9))) q e := by
  have hmd : ∀ q e, MD cy none K0 L (GT i8 i12 i14 i15) q e → q ≠ q2 := by
    rw [TWl_14] at hP
    exact md_ne hP (fun q e h => Or.inl (Or.inl (Or.inr h))) (Or.inl (Or.inr ⟨rfl, rfl⟩)) (fun f j h => GT_2 h)
  have hap : ∀ q e, (fun q e => ((B q e ∨ (q = q0 ∧ e = arQ (cy 4) 12 (fil L 8 i8))) ∨ (q = q1 ∧ e = arQ (cy 5) 12 (fil L 12 i12))) ∨ (q = q3 ∧ e = arQ (cy 7) 200 (fil L 15 i15))) q e ∨ MD cy none K0 L (GT i8 i12 i14 i15) q e → q ≠ q2 := by
    rintro q e ((((h | ⟨rfl, -⟩) | ⟨rfl, -⟩) | ⟨rfl, -⟩) | h)
    · have := hB.1 q e h
      omega
    · have := hB.2
      omega
    · have := hB.2
      omega
    · have := hB.2
      omega
    · exact hmd q e h
  rw [TWl_14] at hP hfr
  obtain ⟨g1, -, g3⟩ := lay_step hLI (fun f j h => GT_2 h) (fun f hf h => by
    simp only [List.mem_cons, List.not_mem_nil, or_false] at hf
    unfold GT at h
    omega) (by decide) hn1 hF hap hP hfr hDk hw0 (by decide) (by decide) h0
  refine ⟨_, ?_, by rw [GT_14]; exact g1, ?_⟩
  · intro f j hf
    refine Lx_old fun h => ?_
    have h9 := h.1
    simp only [List.mem_cons, List.not_mem_nil, or_false] at h9
    omega
  · rw [TWl_14, TWl_14, GT_14]
    rw [fil_Lx (f0 := 8) (by decide), fil_Lx (f0 := 12) (by decide), fil_Lx (f0 := 15) (by decide)]
    exact g3
theorem GT_15 : GT i8 i12 i14 (i15 + 1) = Gx (GT i8 i12 i14 i15) [15, 16] i15 := by
  funext f j
  apply propext
  simp only [GT, Gx, List.mem_cons, List.not_mem_nil, or_false]
  omega
theorem TWl_15 : TWl cy B L q0 q1 q2 q3 i8 i12 i14 i15 = PWm cy none K0 (fun q e => ((B q e ∨ (q = q0 ∧ e = arQ (cy 4) 12 (fil L 8 i8))) ∨ (q = q1 ∧ e = arQ (cy 5) 12 (fil L 12 i12))) ∨ (q = q2 ∧ e = arQ (cy 6) 10 (fil L 14 i14))) L (GT i8 i12 i14 i15) q3 (cy 7) 200 15 i15 := by
  funext q e
  apply propext
  simp only [TWl, PWm]
  constructor
  · rintro (((((h | h) | h) | h) | h) | h) <;> simp only [h, true_or, or_true, and_self]
  · rintro (((((h | h) | h) | h) | h) | h) <;> simp only [h, true_or, or_true, and_self]
theorem tt15 (hLI : LIg (GT i8 i12 i14 i15) L) (hB : TAp B q0 q1 q2 q3) (hP : mw D cl A (madd (TWl cy B L q0 q1 q2 q3 i8 i12 i14 i15) a9 Z) H) (hfr : ∀ q e, TWl cy B L q0 q1 q2 q3 i8 i12 i14 i15 q e → q ≠ a9) (hDk : va_D (va_A [(a9, Z)] H.size) w1) (hn1 : w1.length = n1) (hF : ∀ f, f ∈ [15, 16] → 15 ≤ f ∧ f < 15 + n1) (hw0 : ∀ f, f ∈ [15, 16] → (nwf w1 15 f, ct cy (fun g _ => nwf w1 15 g) none K0 f i15 (St0 f i15)) ∈ w1) (h0 : nwf w1 15 15 = a9) :
    ∃ L' : Lay, (∀ f j, f < 8 ∨ 17 ≤ f → L' f j = L f j) ∧ LIg (GT i8 i12 i14 (i15 + 1)) L' ∧ ∀ q e, TWl cy B L' q0 q1 q2 q3 i8 i12 i14 (i15 + 1) q e → mset (fun q e => TWl cy B L q0 q1 q2 q3 i8 i12 i14 i15 q e ∨ (q, e) ∈ w1) q3 (arQ (cy 7) 200 (va_up (fil L 15 i15) i15 (some a9))) q e := by
  have hmd : ∀ q e, MD cy none K0 L (GT i8 i12 i14 i15) q e → q ≠ q3 := by
    rw [TWl_15] at hP
    exact md_ne hP (fun q e h => Or.inl (Or.inl (Or.inr h))) (Or.inl (Or.inr ⟨rfl, rfl⟩)) (fun f j h => GT_2 h)
  have hap : ∀ q e, (fun q e => ((B q e ∨ (q = q0 ∧ e = arQ (cy 4) 12 (fil L 8 i8))) ∨ (q = q1 ∧ e = arQ (cy 5) 12 (fil L 12 i12))) ∨ (q = q2 ∧ e = arQ (cy 6) 10 (fil L 14 i14))) q e ∨ MD cy none K0 L (GT i8 i12 i14 i15) q e → q ≠ q3 := by
    rintro q e ((((h | ⟨rfl, -⟩) | ⟨rfl, -⟩) | ⟨rfl, -⟩) | h)
    · have := hB.1 q e h
      omega
    · have := hB.2
      omega
    · have := hB.2
      omega
    · have := hB.2
      omega
    · exact hmd q e h
  rw [TWl_15] at hP hfr
  obtain ⟨g1, -, g3⟩ := lay_step hLI (fun f j h => GT_2 h) (fun f hf h => by
    simp only [List.mem_cons, List.not_mem_nil, or_false] at hf
    unfold GT at h
    omega) (by decide) hn1 hF hap hP hfr hDk hw0 (by decide) (by decide) h0
  refine ⟨_, ?_, by rw [GT_15]; exact g1, ?_⟩
  · intro f j hf
    refine Lx_old fun h => ?_
    have h9 := h.1
    simp only [List.mem_cons, List.not_mem_nil, or_false] at h9
    omega
  · rw [TWl_15, TWl_15, GT_15]
    rw [fil_Lx (f0 := 8) (by decide), fil_Lx (f0 := 12) (by decide), fil_Lx (f0 := 14) (by decide)]
    exact g3
end TTURN
/-- the parts of the Roads that are not made in turns -/
def G3o : Nat → Nat → Prop := fun f i => (f = 1 ∨ f = 24 ∨ f = 25) ∧ i < nF f
def LTr (Lz : Lay) (a0 q0 q1 q2 q3 : Nat) : Lay := fun f j => if f = 0 then a0 else if f = 20 then q0 else if f = 21 then q1 else if f = 22 then q2 else if f = 23 then q3 else Lz f j
def BTr (cy : Nat → ClassId) (tr : Option Nat) (τ : Tau) (L1 : Lay) (a0 q0 q1 q2 q3 : Nat) : mP := fun q e => ((q = a0 ∧ e = .inr (5, [.ref (L1 1 0), .ref q0, .ref q1, .ref q2, .ref q3, va_rf tr, .int 0, .int 1, .int 0, .int 0, .int 0, .int 0])) ∨ MD cy none K0 L1 G3o q e) ∨ trw cy tr τ q e
theorem kf_trw : ∀ f, f < 26 → kf f ≠ (0, 6) ∧ (kf f).1 ≠ 2 ∧ (kf f = (3, 200) → f = 23) := by decide +kernel
theorem ct_full {cy : Nat → ClassId} {K L : Lay} {tr tr' : Option Nat} {κ : Kap} {f i : Nat} {x : Nat → Int32} (hf : 2 ≤ f ∧ f ≤ 17) (h : ∀ g j, 1 ≤ g ∧ g ≤ 17 → K g j = L g j) : ct cy K tr κ f i x = ct cy L tr' κ f i x := by
  rw [ct_same (L := L) hf fun g hg => ?_]
  · unfold ct
    split <;> first
      | rfl
      | (exfalso; omega)
  · have h9 : ∀ p, p ∈ rdF → 1 ≤ p.2 ∧ p.2 ≤ 17 := by decide
    exact h g i (h9 _ hg)
theorem ct_g3 {cy : Nat → ClassId} {K L : Lay} {tr tr' : Option Nat} {κ : Kap} {f i : Nat} {x : Nat → Int32} (hf : f = 1 ∨ f = 24 ∨ f = 25) (h : ∀ g j, g = 2 ∨ g = 17 ∨ g = 24 ∨ g = 25 → K g j = L g j) : ct cy K tr κ f i x = ct cy L tr' κ f i x := by
  have e2 : (fun j => some (K 2 j)) = fun j => some (L 2 j) := by (funext j; rw [h 2 j (by omega)])
  have e17 : (fun j => some (K 17 j)) = fun j => some (L 17 j) := by (funext j; rw [h 17 j (by omega)])
  rcases hf with rfl | rfl | rfl
  · simp only [ct]
    rw [h 24 0 (by omega), h 25 0 (by omega)]
  · simp only [ct]
    rw [e2]
  · simp only [ct]
    rw [e17]
theorem nF_g : ∀ f, f < 26 → (2 ≤ f ∧ f ≤ 7 → nF f = 24) ∧ (8 ≤ f ∧ f ≤ 11 → nF f = 12) ∧ (12 ≤ f ∧ f ≤ 13 → nF f = 12) ∧ (f = 14 → nF f = 10) ∧ (15 ≤ f ∧ f ≤ 16 → nF f = 200) := by decide
theorem GT_all {f i : Nat} (h2 : 2 ≤ f) (h17 : f ≤ 17) (hi : i < nF f) : GT 12 12 10 200 f i := by
  obtain ⟨e1, e2, e3, e4, e5⟩ := nF_g f (by omega)
  unfold GT
  omega
theorem traffic_end {D : va_G} {cl : List vw_C} {A : Nat → Prop} {H : Heap} {cy : Nat → ClassId} {L L1 : Lay} {tr : Option Nat} {τ : Tau} {a0 q0 q1 q2 q3 : Nat} (hP : mw D cl A (TWl cy (BTr cy tr τ L1 a0 q0 q1 q2 q3) L q0 q1 q2 q3 12 12 10 200) H) (hLI : LIg (GT 12 12 10 200) L) (hB : TAp (BTr cy tr τ L1 a0 q0 q1 q2 q3) q0 q1 q2 q3) (hL : ∀ f j, f < 8 ∨ 17 ≤ f → L f j = L1 f j) (hri : tr ≠ none → ∀ u v : Nat, u < 200 → v < 200 → τ.2.1 u = τ.2.1 v → u = v) :
    ∃ K : Lay, K 0 0 = a0 ∧ TL K tr τ ∧ mw D cl A (TW cy K tr St0 K0 τ) H := by
  have hmd : ∀ qa n cA g, (q0 = qa ∨ q1 = qa ∨ q2 = qa ∨ q3 = qa) → TWl cy (BTr cy tr τ L1 a0 q0 q1 q2 q3) L q0 q1 q2 q3 12 12 10 200 qa (arQ cA n g) → ∀ q e, MD cy none K0 L (GT 12 12 10 200) q e → q ≠ qa := fun qa n cA g _ hq => md_ne hP (fun q e h => Or.inl (Or.inl (Or.inl (Or.inl (Or.inr h))))) hq (fun f j h => GT_2 h)
  have m0 := hmd q0 _ _ _ (Or.inl rfl) (Or.inl (Or.inl (Or.inl (Or.inr ⟨rfl, rfl⟩))))
  have m1 := hmd q1 _ _ _ (Or.inr (Or.inl rfl)) (Or.inl (Or.inl (Or.inr ⟨rfl, rfl⟩)))
  have m2 := hmd q2 _ _ _ (Or.inr (Or.inr (Or.inl rfl))) (Or.inl (Or.inr ⟨rfl, rfl⟩))
  have m3 := hmd q3 _ _ _ (Or.inr (Or.inr (Or.inr rfl))) (Or.inr ⟨rfl, rfl⟩)
  obtain ⟨hB0, hB1⟩ := hB
  have h3 := arr_full hP (by
    rintro q e ((((h | h) | ⟨rfl, -⟩) | ⟨rfl, -⟩) | ⟨rfl, -⟩)
    · exact (hB0 q e h).2.2.2
    · exact m3 q e h
    all_goals omega)
  have h2 := arr_full (P := fun q e => ((((BTr cy tr τ L1 a0 q0 q1 q2 q3 q e ∨ MD cy none K0 L (GT 12 12 10 200) q e) ∨ (q = q0 ∧ e = arQ (cy 4) 12 (fil L 8 12))) ∨ (q = q1 ∧ e = arQ (cy 5) 12 (fil L 12 12))) ∨ (q = q3 ∧ e = arQ (cy 7) 200 (fun j => some (L 15 j))))) (qa := q2) (cA := cy 6) (n := 10) (f0 := 14) (L := L) (h3.sub (by
    rintro q e (((((h | h) | h) | h) | h) | h) <;> simp only [h, true_or, or_true, and_self])) (by
    rintro q e ((((h | h) | ⟨rfl, -⟩) | ⟨rfl, -⟩) | ⟨rfl, -⟩)
    · exact (hB0 q e h).2.2.1
    · exact m2 q e h
    all_goals omega)
  have h1 := arr_full (P := fun q e => ((((BTr cy tr τ L1 a0 q0 q1 q2 q3 q e ∨ MD cy none K0 L (GT 12 12 10 200) q e) ∨ (q = q0 ∧ e = arQ (cy 4) 12 (fil L 8 12))) ∨ (q = q2 ∧ e = arQ (cy 6) 10 (fun j => some (L 14 j)))) ∨ (q = q3 ∧ e = arQ (cy 7) 200 (fun j => some (L 15 j))))) (qa := q1) (cA := cy 5) (n := 12) (f0 := 12) (L := L) (h2.sub (by
    rintro q e (((((h | h) | h) | h) | h) | h) <;> simp only [h, true_or, or_true, and_self])) (by
    rintro q e ((((h | h) | ⟨rfl, -⟩) | ⟨rfl, -⟩) | ⟨rfl, -⟩)
    · exact (hB0 q e h).2.1
    · exact m1 q e h
    all_goals omega)
  have h0 := arr_full (P := fun q e => ((((BTr cy tr τ L1 a0 q0 q1 q2 q3 q e ∨ MD cy none K0 L (GT 12 12 10 200) q e) ∨ (q = q1 ∧ e = arQ (cy 5) 12 (fun j => some (L 12 j)))) ∨ (q = q2 ∧ e = arQ (cy 6) 10 (fun j => some (L 14 j)))) ∨ (q = q3 ∧ e = arQ (cy 7) 200 (fun j => some (L 15 j))))) (qa := q0) (cA := cy 4) (n := 12) (f0 := 8) (L := L) (h1.sub (by
    rintro q e (((((h | h) | h) | h) | h) | h) <;> simp only [h, true_or, or_true, and_self])) (by
    rintro q e ((((h | h) | ⟨rfl, -⟩) | ⟨rfl, -⟩) | ⟨rfl, -⟩)
    · exact (hB0 q e h).1
    · exact m0 q e h
    all_goals omega)
  have eK : ∀ f j, f ≠ 0 → ¬ (19 < f ∧ f < 24) → LTr L a0 q0 q1 q2 q3 f j = L f j := by
    intro f j g0 g1
    unfold LTr
    rw [if_neg g0, if_neg (by omega), if_neg (by omega), if_neg (by omega), if_neg (by omega)]
  have hW : mw D cl A (TW cy (LTr L a0 q0 q1 q2 q3) tr St0 K0 τ) H := h0.sub (by
    rintro q e (⟨f, i, hi, rfl, rfl⟩ | h)
    · have hf := nF_26 hi
      by_cases h17 : 2 ≤ f ∧ f ≤ 17
      · refine Or.inl (Or.inl (Or.inl (Or.inl (Or.inr ⟨f, i, GT_all h17.1 h17.2 hi, eK f i (by omega) (by omega), ?_⟩))))
        exact ct_full h17 fun g j hg => eK g j (by omega) (by omega)
      · by_cases h3 : f = 1 ∨ f = 24 ∨ f = 25
        · refine Or.inl (Or.inl (Or.inl (Or.inl (Or.inl (Or.inl (Or.inr ⟨f, i, ⟨h3, hi⟩, ?_, ?_⟩))))))
          · rw [eK f i (by omega) (by omega), hL f i (by omega)]
          · exact ct_g3 h3 fun g j hg => (eK g j (by omega) (by omega)).trans (hL g j (by omega))
        · have hi0 : i = 0 := by
            by_cases hz : 17 < f ∧ f < 20
            · have := nF_z f hf hz
              omega
            · have := nF_1 f hf (by omega)
              omega
          subst hi0
          have h5 : f = 0 ∨ f = 20 ∨ f = 21 ∨ f = 22 ∨ f = 23 := by
            by_cases hz : 17 < f ∧ f < 20
            · have := nF_z f hf hz
              omega
            · omega
          rcases h5 with rfl | rfl | rfl | rfl | rfl
          · refine Or.inl (Or.inl (Or.inl (Or.inl (Or.inl (Or.inl (Or.inl ⟨rfl, ?_⟩))))))
            show (.inr (5, [.ref (LTr L a0 q0 q1 q2 q3 1 0), .ref q0, .ref q1, .ref q2, .ref q3, va_rf tr, .int 0, .int 1, .int 0, .int 0, .int 0, .int 0]) : va_E) = _
            rw [eK 1 0 (by omega) (by omega), hL 1 0 (by omega)]
          · exact Or.inr ⟨rfl, rfl⟩
          · exact Or.inl (Or.inl (Or.inl (Or.inr ⟨rfl, rfl⟩)))
          · exact Or.inl (Or.inl (Or.inr ⟨rfl, rfl⟩))
          · exact Or.inl (Or.inr ⟨rfl, rfl⟩)
    · exact Or.inl (Or.inl (Or.inl (Or.inl (Or.inl (Or.inr h))))))
  refine ⟨LTr L a0 q0 q1 q2 q3, rfl, ⟨?_, ?_⟩, hW⟩
  · refine LI_of hW (fun f i hi => tw_mem hi rfl) ?_ hB1.1 ?_ ?_
    · rintro f i g j ⟨hf1, hf2, hi⟩ ⟨hg1, hg2, hj⟩ e
      rw [eK f i (by omega) (by omega), eK g j (by omega) (by omega)] at e
      exact hLI f i g j (GT_all hf1 hf2 hi) (GT_all hg1 hg2 hj) e
    · have h9 := (hB0 (L1 25 0) _ (Or.inl (Or.inr ⟨25, 0, ⟨by decide, by decide⟩, rfl, rfl⟩))).1
      have h8 : LTr L a0 q0 q1 q2 q3 25 0 = L1 25 0 := (eK 25 0 (by omega) (by omega)).trans (hL 25 0 (by omega))
      rw [h8]
      exact h9.symm
    · have h9 := (hB0 (L1 25 0) _ (Or.inl (Or.inr ⟨25, 0, ⟨by decide, by decide⟩, rfl, rfl⟩))).2.1
      have h8 : LTr L a0 q0 q1 q2 q3 25 0 = L1 25 0 := (eK 25 0 (by omega) (by omega)).trans (hL 25 0 (by omega))
      rw [h8]
      exact h9.symm
  · rintro t rfl
    have k1 : TW cy (LTr L a0 q0 q1 q2 q3) (some t) St0 K0 τ t (.inr (6, [.ref τ.1])) := Or.inr ⟨t, rfl, Or.inl ⟨rfl, rfl⟩⟩
    have k2 : TW cy (LTr L a0 q0 q1 q2 q3) (some t) St0 K0 τ τ.1 (arQ (cy 9) 200 (fun v => some (τ.2.1 v))) := Or.inr ⟨t, rfl, Or.inr (Or.inl ⟨rfl, rfl⟩)⟩
    have k3 : ∀ v, v < 200 → TW cy (LTr L a0 q0 q1 q2 q3) (some t) St0 K0 τ (τ.2.1 v) (.inl (cy 1, τ.2.2.1 v, .inr (.inl (τ.2.2.2 v)))) := fun v hv => Or.inr ⟨t, rfl, Or.inr (Or.inr ⟨v, hv, rfl, rfl⟩)⟩
    have hfn : ∀ q q' e x, q = q' → TW cy (LTr L a0 q0 q1 q2 q3) (some t) St0 K0 τ q e → TW cy (LTr L a0 q0 q1 q2 q3) (some t) St0 K0 τ q' x → kd e = kd x := by
      rintro q q' e x rfl h1 h2
      rw [hW.fn h1 h2]
    refine ⟨fun f i hi => ?_, ?_, fun v hv => ⟨?_, ?_⟩, hri (by simp)⟩
    · have hk := kf_trw f (nF_26 hi)
      have kc : ∀ q e, q = LTr L a0 q0 q1 q2 q3 f i → TW cy (LTr L a0 q0 q1 q2 q3) (some t) St0 K0 τ q e → kd e = kf f := by
        rintro q e rfl h
        rw [hW.fn h (tw_mem hi rfl), kd_ct]
      refine ⟨fun h => hk.1 (kc _ _ h.symm k1).symm, fun h => ?_, fun v hv h => ?_⟩
      · have h9 := hk.2.2 (kc _ _ h.symm k2).symm
        subst h9
        have hi0 : i = 0 := by have : nF 23 = 1 := rfl; omega
        subst hi0
        exact (hB0 τ.1 _ (Or.inr ⟨t, rfl, Or.inr (Or.inl ⟨rfl, rfl⟩)⟩)).2.2.2 h.symm
      · have h9 := kc _ _ h.symm (k3 v hv)
        exact hk.2.1 (by rw [← h9]; rfl)
    · intro h
      exact absurd (hfn _ _ _ _ h k1 k2) (show ¬ ((0, 6) : Nat × Nat) = (3, 200) by decide)
    · intro h
      have h9 := congrArg Prod.fst (hfn _ _ _ _ h.symm k1 (k3 v hv))
      exact absurd h9 (show ¬ (0 = 2) by decide)
    · intro h
      have h9 := congrArg Prod.fst (hfn _ _ _ _ h.symm k2 (k3 v hv))
      exact absurd h9 (show ¬ (3 = 2) by decide)
/-- before the loops -/
theorem traffic_start {D : va_G} {cl : List vw_C} {A : Nat → Prop} {H : Heap} {cy : Nat → ClassId} {L1 : Lay} {tr : Option Nat} {τ : Tau} {a0 q0 q1 q2 q3 : Nat} (hP : mw D cl A (fun q e => (q = a0 ∧ e = .inr (5, [.ref (L1 1 0), .ref q0, .ref q1, .ref q2, .ref q3, va_rf tr, .int 0, .int 1, .int 0, .int 0, .int 0, .int 0])) ∨ (((((MD cy none K0 L1 GRo q e ∨ (q = q0 ∧ e = arQ (cy 4) 12 (fun _ => none))) ∨ (q = q1 ∧ e = arQ (cy 5) 12 (fun _ => none))) ∨ (q = q2 ∧ e = arQ (cy 6) 10 (fun _ => none))) ∨ (q = q3 ∧ e = arQ (cy 7) 200 (fun _ => none))) ∨ trw cy tr τ q e)) H) : mw D cl A (TWl cy (BTr cy tr τ L1 a0 q0 q1 q2 q3) L1 q0 q1 q2 q3 0 0 0 0) H := hP.sub (by
  rintro q e ((((((((h | h) | h) | h)) | h) | h) | h) | h)
  · exact Or.inl h
  · exact Or.inr (Or.inl (Or.inl (Or.inl (Or.inl (Or.inl (h.mono fun f i hg => by
      unfold G3o at hg
      unfold GRo
      omega))))))
  · exact Or.inr (Or.inr h)
  · refine Or.inr (Or.inl (Or.inl (Or.inl (Or.inl (Or.inl (h.mono fun f i hg => ?_))))))
    unfold GT at hg
    unfold GRo
    omega
  · rw [fil_0] at h
    exact Or.inr (Or.inl (Or.inl (Or.inl (Or.inl (Or.inr h)))))
  · rw [fil_0] at h
    exact Or.inr (Or.inl (Or.inl (Or.inl (Or.inr h))))
  · rw [fil_0] at h
    exact Or.inr (Or.inl (Or.inl (Or.inr h)))
  · rw [fil_0] at h
    exact Or.inr (Or.inl (Or.inr h)))
theorem GT_start {L1 : Lay} (h : LIg (fun f i => ((2 ≤ f ∧ f ≤ 7) ∨ f = 17) ∧ i < nF f) L1) : LIg (GT 0 0 0 0) L1 := fun f i g j hf hg e => h f i g j (by unfold GT at hf; omega) (by unfold GT at hg; omega) e
/-- the trails as they are made -/
theorem trails_end {D : va_G} {cl : List vw_C} {A : Nat → Prop} {H : Heap} {cy : Nat → ClassId} {a0 q1 : Nat} {r9 : Nat → Nat} (hP : va_P D cl ([(a0, .inr (6, [.ref q1])), (q1, .inl (cy 9, 200, .inr (.inr (.inr (.inr (fun i => if i < 200 then some (r9 i) else none))))))] ++ va_pl ((List.range 200).map r9) (fun _ => .inl (cy 1, 1, .inr (.inl (fun _ => 0))))) H) (hD : va_D A ([(a0, .inr (6, [.ref q1])), (q1, .inl (cy 9, 200, .inr (.inr (.inr (.inr (fun i => if i < 200 then some (r9 i) else none))))))] ++ va_pl ((List.range 200).map r9) (fun _ => .inl (cy 1, 1, .inr (.inl (fun _ => 0)))))) : mw D cl A (trw cy (some a0) (q1, r9, fun _ => 1, fun _ _ => 0)) H := by
  have h := (mw.ofL hP hD).sub (P' := fun q e => ((q = a0 ∧ e = .inr (6, [.ref q1])) ∨ ∃ v, v < 200 ∧ q = r9 v ∧ e = .inl (cy 1, 1, .inr (.inl (fun _ => 0)))) ∨ (q = q1 ∧ e = arQ (cy 9) 200 (fil (fun _ => r9) 0 200))) (by
    rintro q e ((⟨rfl, rfl⟩ | ⟨v, hv, rfl, rfl⟩) | ⟨rfl, rfl⟩)
    · exact List.mem_of_getElem? (i := 0) rfl
    · exact List.mem_append.mpr (Or.inr (vpl_mem.mpr ⟨v, hv, rfl, rfl⟩))
    · exact List.mem_of_getElem? (i := 1) rfl)
  refine (arr_full h ?_).sub ?_
  · rintro q e h1 rfl
    have h9 := h.fn (Or.inl h1) (Or.inr ⟨rfl, rfl⟩)
    have h8 := congrArg kd h9
    rcases h1 with ⟨-, rfl⟩ | ⟨v, -, -, rfl⟩
    · exact absurd h8 (show ¬ ((0, 6) : Nat × Nat) = (3, 200) by decide)
    · exact absurd h8 (show ¬ ((2, 1) : Nat × Nat) = (3, 200) by decide)
  · rintro q e ⟨t, ht, h1⟩
    cases ht
    rcases h1 with ⟨rfl, rfl⟩ | ⟨rfl, rfl⟩ | ⟨v, hv, rfl, rfl⟩
    · exact Or.inl (Or.inl ⟨rfl, rfl⟩)
    · exact Or.inr ⟨rfl, rfl⟩
    · exact Or.inl (Or.inr ⟨v, hv, rfl, rfl⟩)

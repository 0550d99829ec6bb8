/-! a turn of a loop of makers; arrays filled; all places apart by what lies there -/
abbrev arQ (cA : ClassId) (n : Nat) (g : Nat → Option Nat) : va_E := .inl (cA, n, .inr (.inr (.inr (.inr g))))
def fil (L : Lay) (f0 i : Nat) : Nat → Option Nat := fun j => if j < i then some (L f0 j) else none
theorem fil_0 {L : Lay} {f0 : Nat} : fil L f0 0 = fun _ => none := by
  funext j
  exact if_neg (Nat.not_lt_zero _)
theorem fil_Lx {L : Lay} {f0 i k : Nat} {F : List Nat} {nw : Nat → Nat} (h : f0 ∉ F) : fil (Lx L F i nw) f0 k = fil L f0 k := by
  funext j
  unfold fil
  rw [Lx_old (fun h9 => h h9.1)]
theorem fil_S {L : Lay} {f0 i : Nat} {F : List Nat} {nw : Nat → Nat} (h : f0 ∈ F) : fil (Lx L F i nw) f0 (i + 1) = va_up (fil L f0 i) i (some (nw f0)) := by
  funext j
  by_cases hj : j = i
  · subst hj
    rw [va_up_self]
    show (if j < j + 1 then some (Lx L F j nw f0 j) else none) = _
    rw [if_pos (Nat.lt_succ_self j), Lx_new h]
  · rw [va_up_ne _ _ hj]
    unfold fil
    rw [Lx_old (fun h9 => hj h9.2)]
    by_cases h1 : j < i
    · rw [if_pos h1, if_pos (by omega)]
    · rw [if_neg h1, if_neg (by omega)]
def nwf (w : va_W) (f0 f : Nat) : Nat := match w[f - f0]? with
  | some p => p.1
  | none => 0
theorem nwf_at {w : va_W} {f0 f : Nat} (h : f0 ≤ f ∧ f < f0 + w.length) : ∃ e, w[f - f0]? = some (nwf w f0 f, e) := by
  have h1 : f - f0 < w.length := by omega
  refine ⟨w[f - f0].2, ?_⟩
  unfold nwf
  rw [List.getElem?_eq_getElem h1]
theorem nwf_inj {A : Nat → Prop} {w : va_W} {f0 f g : Nat} (hD : va_D A w) (hf : f0 ≤ f ∧ f < f0 + w.length) (hg : f0 ≤ g ∧ g < f0 + w.length) (h : nwf w f0 f = nwf w f0 g) : f = g := by
  obtain ⟨e1, h1⟩ := nwf_at hf
  obtain ⟨e2, h2⟩ := nwf_at hg
  have h3 := hD.1 _ _ _ _ h1 h2 h
  omega
/-- the world of a loop of makers: the rest, what is made, the array that is filled -/
def PWm (cy : Nat → ClassId) (tr : Option Nat) (κ : Kap) (R : mP) (L : Lay) (G : Nat → Nat → Prop) (qa : Nat) (cA : ClassId) (n f0 i : Nat) : mP := fun q e => (R q e ∨ MD cy tr κ L G q e) ∨ (q = qa ∧ e = arQ cA n (fil L f0 i))
section LAYS
variable {D : va_G} {cl : List vw_C} {A : Nat → Prop} {cy : Nat → ClassId} {tr : Option Nat} {κ : Kap} {L : Lay} {G : Nat → Nat → Prop} {F : List Nat} {R : mP} {H H1 : Heap} {qa a9 i n f0 : Nat} {Z : va_E} {w1 : va_W} {cA : ClassId}
theorem lay_step (hLI : LIg G L) (h2 : ∀ f j, G f j → 2 ≤ f ∧ f ≤ 17) (hG : ∀ f, f ∈ F → ¬ G f i) (hcl : ∀ p, p ∈ rdF → (p.2 ∈ F ↔ p.1 ∈ F)) {n1 : Nat} (hn1 : w1.length = n1) (hF : ∀ f, f ∈ F → f0 ≤ f ∧ f < f0 + n1) (hap : ∀ q e, R q e ∨ MD cy tr κ L G q e → q ≠ qa)
    (hP : mw D cl A (madd (PWm cy tr κ R L G qa cA n f0 i) a9 Z) H) (hfr : ∀ q e, PWm cy tr κ R L G qa cA n f0 i q e → q ≠ a9) (hDk : va_D (va_A [(a9, Z)] H.size) w1)
    (hw0 : ∀ f, f ∈ F → (nwf w1 f0 f, ct cy (fun g _ => nwf w1 f0 g) tr κ f i (St0 f i)) ∈ w1) (hf2 : ∀ f, f ∈ F → 2 ≤ f ∧ f ≤ 17) (hf0 : f0 ∈ F) (h0 : nwf w1 f0 f0 = a9) :
    LIg (Gx G F i) (Lx L F i (nwf w1 f0)) ∧ (∀ q e, R q e ∨ MD cy tr κ (Lx L F i (nwf w1 f0)) (Gx G F i) q e → q ≠ qa) ∧
    ∀ q e, PWm cy tr κ R (Lx L F i (nwf w1 f0)) (Gx G F i) qa cA n f0 (i + 1) q e → mset (fun q e => PWm cy tr κ R L G qa cA n f0 i q e ∨ (q, e) ∈ w1) qa (arQ cA n (va_up (fil L f0 i) i (some a9))) q e := by
  subst hn1
  have hcl' : ∀ f g, (f, g) ∈ rdF → g ∈ F → f ∈ F := fun f g h => (hcl (f, g) h).mp
  have hw : ∀ f, f ∈ F → (nwf w1 f0 f, ct cy (Lx L F i (nwf w1 f0)) tr κ f i (St0 f i)) ∈ w1 := fun f hf => by
    rw [ct_same (L := fun g _ => nwf w1 f0 g) (hf2 f hf) fun g hg => Lx_new ((hcl (f, g) hg).mpr hf)]
    exact hw0 f hf
  have hnew : ∀ q e, PWm cy tr κ R L G qa cA n f0 i q e → ∀ g, g ∈ F → q ≠ nwf w1 f0 g := by
    intro q e hq g hg h9
    have h8 := hP.lt (Or.inl hq)
    rcases new_or hDk (hw g hg) with h7 | h7
    · exact hfr q e hq (h9.trans h7)
    · omega
  refine ⟨LIg.ext hLI (fun f j g hf hg => hnew _ _ (Or.inl (Or.inr ⟨f, j, hf, rfl, rfl⟩)) g hg) (fun f g hf hg e9 => nwf_inj hDk (hF f hf) (hF g hg) e9) hG, ?_, ?_⟩
  · rintro q e (h | h)
    · exact hap q e (Or.inl h)
    · rcases MD.ext h2 hG hcl' h with h | ⟨f, hf, rfl, -⟩
      · exact hap q e (Or.inr h)
      · exact (hnew qa _ (Or.inr ⟨rfl, rfl⟩) f hf).symm
  · rintro q e ((h | h) | ⟨rfl, rfl⟩)
    · exact Or.inr ⟨hap q e (Or.inl h), Or.inl (Or.inl (Or.inl h))⟩
    · rcases MD.ext h2 hG hcl' h with h | ⟨f, hf, rfl, rfl⟩
      · exact Or.inr ⟨hap q e (Or.inr h), Or.inl (Or.inl (Or.inr h))⟩
      · exact Or.inr ⟨(hnew qa _ (Or.inr ⟨rfl, rfl⟩) f hf).symm, Or.inr (hw f hf)⟩
    · refine Or.inl ⟨rfl, ?_⟩
      rw [fil_S hf0, h0]
/-- the array is full: told as the whole world tells it -/
theorem arr_full {P : mP} {f0 : Nat} (h : mw D cl A (fun q e => P q e ∨ (q = qa ∧ e = arQ cA n (fil L f0 n))) H) (hap : ∀ q e, P q e → q ≠ qa) : mw D cl A (fun q e => P q e ∨ (q = qa ∧ e = arQ cA n (fun j => some (L f0 j)))) H := by
  classical
  refine (mw.re (f := fun q e => if q = qa then arQ cA n (fun j => some (L f0 j)) else e) h ?_).sub ?_
  · rintro q e (hq | ⟨rfl, rfl⟩) hat
    · rw [if_neg (hap q e hq)]
      exact hat
    · rw [if_pos rfl]
      exact arr_re (fun j hj => if_pos hj) hat
  · rintro q e (hq | ⟨rfl, rfl⟩)
    · exact ⟨e, Or.inl hq, (if_neg (hap q e hq)).symm⟩
    · exact ⟨_, Or.inr ⟨rfl, rfl⟩, (if_pos rfl).symm⟩
/-- behind a call of a maker whose world is told by a predicate -/
theorem mw.joinM {P Q : mP} {a : Nat} {z : va_E} (h : mw D cl A (madd P a z) H) (hfr : ∀ q e, P q e → q ≠ a) (hk : ∀ q : Nat, q < H.size → ¬ va_A [(a, z)] H.size q → H1[q]? = H[q]?) (hF : ∀ q, va_A [(a, z)] H.size q → A q) (h1 : mw D cl (va_A [(a, z)] H.size) Q H1) : mw D cl A (fun q e => P q e ∨ Q q e) H1 ∧ (∀ q e, Q q e → q = a ∨ H.size ≤ q) ∧ ∀ q e y x, P q e → Q y x → q ≠ y := by
  have h2 : mw D cl (mA (cw [(a, z)]) H.size) Q H1 := h1.weak fun q e _ h9 => mA_va.mp h9
  have h3 : ∀ q e, Q q e → q = a ∨ H.size ≤ q := fun q e hq => by
    rcases h2.inA hq with ⟨y, hy⟩ | h9
    · cases List.mem_singleton.mp hy
      exact Or.inl rfl
    · exact Or.inr h9
  refine ⟨mw.join (C := cw [(a, z)]) h ?_ (fun q hq hn => hk q hq fun h9 => hn (mA_va.mp h9)) (fun q hq => hF q (mA_va.mpr hq)) h2 ?_, h3, ?_⟩
  · intro q e hq
    cases List.mem_singleton.mp hq
    exact Or.inr ⟨rfl, rfl⟩
  · rintro q e (hp | hp)
    · refine Or.inr ⟨Or.inl hp, fun y hy => ?_⟩
      cases List.mem_singleton.mp hy
      exact hfr _ _ hp rfl
    · exact Or.inl hp
  · intro q e y x hp hq h9
    have h8 := h.lt (Or.inl hp)
    rcases h3 y x hq with h7 | h7
    · exact hfr q e hp (h9.trans h7)
    · omega
end LAYS
/-- which kind of cell -/
def kd : va_E → Nat × Nat
  | .inr (c, _) => (0, c)
  | .inl (_, n, .inl _) => (1, n)
  | .inl (_, n, .inr (.inl _)) => (2, n)
  | .inl (_, n, .inr (.inr _)) => (3, n)
def kf (f : Nat) : Nat × Nat := match f with
  | 0 => (0, 5) | 1 => (0, 2) | 2 => (0, 1) | 3 => (0, 3) | 4 => (1, 30) | 5 => (0, 3) | 6 => (1, 30) | 7 => (1, 24) | 8 => (0, 4) | 9 => (1, 4) | 10 => (1, 4) | 11 => (1, 4) | 12 => (0, 3) | 13 => (1, 200) | 14 => (0, 0) | 15 => (0, 7) | 16 => (1, 11) | 17 => (1, 12)
  | 20 => (3, 12) | 21 => (3, 12) | 22 => (3, 10) | 23 => (3, 200) | 24 => (3, 24) | _ => (3, 12)
theorem kd_ct {cy : Nat → ClassId} {L : Lay} {tr : Option Nat} {κ : Kap} {f i : Nat} {x : Nat → Int32} : kd (ct cy L tr κ f i x) = kf f := by
  unfold ct kf
  split <;> first
    | rfl
    | (split <;> first
      | rfl
      | (exfalso; simp_all; done))
theorem nF_26 {f i : Nat} (h : i < nF f) : f < 26 := by
  unfold nF at h
  split at h <;> omega
def kfp : List (Nat × Nat) := [(20, 21), (21, 20), (20, 25), (25, 20), (21, 25), (25, 21)]
def kfb (f g : Nat) : Bool := ((kf f).1 != (kf g).1 || (kf f).2 != (kf g).2) || (f == g) || (decide (f ≤ 17) && decide (g ≤ 17) && decide (2 ≤ f) && decide (2 ≤ g)) || (f == 18 || f == 19 || g == 18 || g == 19) || ((f == 20 || f == 21 || f == 25) && (g == 20 || g == 21 || g == 25))
theorem kf_dec0 : ∀ f, f < 26 → ∀ g, g < 26 → kfb f g = true := by decide +kernel
theorem kf_dec (f : Nat) (hf : f < 26) (g : Nat) (hg : g < 26) : kf f ≠ kf g ∨ f = g ∨ (f ≤ 17 ∧ g ≤ 17 ∧ 2 ≤ f ∧ 2 ≤ g) ∨ (f = 18 ∨ f = 19 ∨ g = 18 ∨ g = 19) ∨ (f, g) ∈ kfp := by
  have h := kf_dec0 f hf g hg
  unfold kfb at h
  by_cases hk : kf f = kf g
  · rw [hk] at h
    simp only [bne_self_eq_false, Bool.or_self, Bool.false_or, Bool.or_eq_true, Bool.and_eq_true, beq_iff_eq, decide_eq_true_eq] at h
    simp only [kfp, List.mem_cons, Prod.mk.injEq, List.not_mem_nil, or_false]
    omega
  · exact Or.inl hk
theorem nF_z : ∀ f, f < 26 → (17 < f ∧ f < 20) → nF f = 0 := by decide
theorem nF_1 : ∀ f, f < 26 → (f = 0 ∨ f = 1 ∨ 20 ≤ f) → nF f = 1 := by decide
theorem LI_of {D : va_G} {cl : List vw_C} {A : Nat → Prop} {P : mP} {H : Heap} {cy : Nat → ClassId} {L : Lay} {tr : Option Nat} {κ : Kap} {a : St} (hP : mw D cl A P H) (hm : ∀ f i, i < nF f → P (L f i) (ct cy L tr κ f i (a f i))) (h1 : LIg (fun f i => 2 ≤ f ∧ f ≤ 17 ∧ i < nF f) L) (h2 : L 20 0 ≠ L 21 0) (h3 : L 20 0 ≠ L 25 0) (h4 : L 21 0 ≠ L 25 0) : LI L := by
  intro f i g j hi hj e
  have h9 := hP.fn (hm f i hi) (by rw [e]; exact hm g j hj)
  have hk : kf f = kf g := by rw [← kd_ct (cy := cy) (L := L) (tr := tr) (κ := κ) (i := i) (x := a f i), h9, kd_ct]
  have hf := nF_26 hi
  have hg := nF_26 hj
  rcases kf_dec f hf g hg with h | rfl | h | h | h
  · exact absurd hk h
  · by_cases h17 : 2 ≤ f ∧ f ≤ 17
    · exact h1 f i f j ⟨h17.1, h17.2, hi⟩ ⟨h17.1, h17.2, hj⟩ e
    · by_cases hz : 17 < f ∧ f < 20
      · have := nF_z f hf hz
        omega
      · have := nF_1 f hf (by omega)
        exact ⟨rfl, by omega⟩
  · exact h1 f i g j ⟨h.2.2.1, h.1, hi⟩ ⟨h.2.2.2, h.2.1, hj⟩ e
  · have z8 : nF 18 = 0 := rfl
    have z9 : nF 19 = 0 := rfl
    rcases h with rfl | rfl | rfl | rfl <;> omega
  · have n0 : nF 20 = 1 := rfl
    have n1 : nF 21 = 1 := rfl
    have n5 : nF 25 = 1 := rfl
    simp only [kfp, List.mem_cons, Prod.mk.injEq, List.not_mem_nil, or_false] at h
    rcases h with ⟨rfl, rfl⟩ | ⟨rfl, rfl⟩ | ⟨rfl, rfl⟩ | ⟨rfl, rfl⟩ | ⟨rfl, rfl⟩ | ⟨rfl, rfl⟩ <;> (have hi0 : i = 0 := by omega) <;> (have hj0 : j = 0 := by omega) <;> subst hi0 <;> subst hj0
    · exact absurd e h2
    · exact absurd e.symm h2
    · exact absurd e h3
    · exact absurd e.symm h3
    · exact absurd e h4
    · exact absurd e.symm h4
theorem MD.mono {cy : Nat → ClassId} {tr : Option Nat} {κ : Kap} {L : Lay} {G G' : Nat → Nat → Prop} (h : ∀ f i, G f i → G' f i) {q : Nat} {e : va_E} (hq : MD cy tr κ L G q e) : MD cy tr κ L G' q e := by
  obtain ⟨f, i, hg, h1, h2⟩ := hq
  exact ⟨f, i, h f i hg, h1, h2⟩
/-- one cell of the world -/
theorem mset_one {R : mP} {a : Nat} {x y : va_E} (hap : ∀ q e, R q e → q ≠ a) : ∀ q e, ((q = a ∧ e = y) ∨ R q e) → mset (fun q e => (q = a ∧ e = x) ∨ R q e) a y q e := by
  rintro q e (h | h)
  · exact Or.inl h
  · exact Or.inr ⟨hap q e h, Or.inr h⟩
/-! the Roads, the Traffic, made -/
def K0 : Kap := ((0 : Int32), fun _ _ => 0)
def GRo : Nat → Nat → Prop := fun f i => ((1 ≤ f ∧ f ≤ 7) ∨ f = 17 ∨ f = 24 ∨ f = 25) ∧ i < nF f
def LRo (Lz : Lay) (a0 q24 q25 : Nat) (r9 : Nat → Nat) : Lay := fun f j => if f = 1 then a0 else if f = 24 then q24 else if f = 25 then q25 else if f = 17 then r9 j else Lz f j
theorem LIg_of {D : va_G} {cl : List vw_C} {A : Nat → Prop} {P : mP} {H : Heap} {cy : Nat → ClassId} {L : Lay} {tr : Option Nat} {κ : Kap} {G : Nat → Nat → Prop} (hP : mw D cl A P H) (hm : ∀ f i, G f i → P (L f i) (ct cy L tr κ f i (St0 f i))) (h : ∀ f i g j, G f i → G g j → kf f = kf g → L f i = L g j → f = g ∧ i = j) : LIg G L := by
  intro f i g j hf hg e
  have h9 := hP.fn (hm f i hf) (by rw [e]; exact hm g j hg)
  exact h f i g j hf hg (by rw [← kd_ct (cy := cy) (L := L) (tr := tr) (κ := κ) (i := i) (x := St0 f i), h9, kd_ct]) e
theorem vpl_mem {r : Nat → Nat} {n q : Nat} {x e : va_E} : (q, e) ∈ va_pl ((List.range n).map r) (fun _ => x) ↔ ∃ j, j < n ∧ q = r j ∧ e = x := by
  unfold va_pl
  rw [List.map_map, List.mem_map]
  constructor
  · rintro ⟨j, hj, h⟩
    cases h
    exact ⟨j, List.mem_range.mp hj, rfl, rfl⟩
  · rintro ⟨j, hj, rfl, rfl⟩
    exact ⟨j, List.mem_range.mpr hj, rfl⟩
/-- the rest of a Roads that is made: the object, the outer array of costs and its rows -/
def RRo (cy : Nat → ClassId) (a0 q24 q25 : Nat) (r9 : Nat → Nat) : mP := fun q e => (q = a0 ∧ e = .inr (2, [.ref q24, .int 0, .ref q25, .int 0])) ∨ (q = q25 ∧ e = arQ (cy 8) 12 (fun i => if i < 12 then some (r9 i) else none)) ∨ ∃ j, j < 12 ∧ q = r9 j ∧ e = .inl (cy 0, 12, .inl (fun _ => 0))
theorem roads_end {D : va_G} {cl : List vw_C} {A : Nat → Prop} {H : Heap} {cy : Nat → ClassId} {Lz : Lay} {a0 q24 q25 : Nat} {r9 : Nat → Nat} (hP : mw D cl A (PWm cy none K0 (RRo cy a0 q24 q25 r9) Lz (fun f j => 2 ≤ f ∧ f ≤ 7 ∧ j < 24) q24 (cy 3) 24 2 24) H) (hap : ∀ q e, RRo cy a0 q24 q25 r9 q e ∨ MD cy none K0 Lz (fun f j => 2 ≤ f ∧ f ≤ 7 ∧ j < 24) q e → q ≠ q24) (hLI : LIg (fun f j => 2 ≤ f ∧ f ≤ 7 ∧ j < 24) Lz) (hri : ∀ i j : Nat, i < 12 → j < 12 → r9 i = r9 j → i = j) :
    ∃ L : Lay, L 1 0 = a0 ∧ LIg (fun f i => ((2 ≤ f ∧ f ≤ 7) ∨ f = 17) ∧ i < nF f) L ∧ mw D cl A (MD cy none K0 L GRo) H := by
  have h1 := arr_full hP hap
  have h2 : mw D cl A (fun q e => ((q = a0 ∧ e = .inr (2, [.ref q24, .int 0, .ref q25, .int 0])) ∨ (∃ j, j < 12 ∧ q = r9 j ∧ e = .inl (cy 0, 12, .inl (fun _ => 0))) ∨ MD cy none K0 Lz (fun f j => 2 ≤ f ∧ f ≤ 7 ∧ j < 24) q e ∨ (q = q24 ∧ e = arQ (cy 3) 24 (fun j => some (Lz 2 j)))) ∨ (q = q25 ∧ e = arQ (cy 8) 12 (fil (fun _ => r9) 0 12))) H := h1.sub (by
    rintro q e ((h | h | h | h) | h)
    · exact Or.inl (Or.inl (Or.inl h))
    · exact Or.inl (Or.inl (Or.inr (Or.inr h)))
    · exact Or.inl (Or.inr h)
    · exact Or.inr h
    · exact Or.inl (Or.inl (Or.inr (Or.inl h))))
  have h3 := arr_full h2 (by
    have hq : ∀ q e, ((q = a0 ∧ e = .inr (2, [.ref q24, .int 0, .ref q25, .int 0])) ∨ (∃ j, j < 12 ∧ q = r9 j ∧ e = .inl (cy 0, 12, .inl (fun _ => 0))) ∨ MD cy none K0 Lz (fun f j => 2 ≤ f ∧ f ≤ 7 ∧ j < 24) q e ∨ (q = q24 ∧ e = arQ (cy 3) 24 (fun j => some (Lz 2 j)))) → q = q25 → kd e = (3, 12) := by
      rintro q e h rfl
      have h9 := h2.fn (Or.inl h) (Or.inr ⟨rfl, rfl⟩)
      rw [h9]
      rfl
    rintro q e h h9
    have h8 := hq q e h h9
    rcases h with ⟨-, rfl⟩ | ⟨j, -, -, rfl⟩ | ⟨f, i, hf, -, rfl⟩ | ⟨-, rfl⟩
    · exact absurd h8 (show ¬ ((0, 2) : Nat × Nat) = (3, 12) by decide)
    · exact absurd h8 (show ¬ ((1, 12) : Nat × Nat) = (3, 12) by decide)
    · rw [kd_ct] at h8
      obtain ⟨hf1, hf2, -⟩ := hf
      have h7 : ∀ f, f < 8 → 2 ≤ f → kf f ≠ (3, 12) := by decide
      exact h7 f (by omega) hf1 h8
    · exact absurd h8 (show ¬ ((3, 24) : Nat × Nat) = (3, 12) by decide))
  refine ⟨LRo Lz a0 q24 q25 r9, rfl, ?_⟩
  have e2 : ∀ f j, 2 ≤ f → f ≤ 7 → LRo Lz a0 q24 q25 r9 f j = Lz f j := by
    intro f j h2 h7
    unfold LRo
    rw [if_neg (by omega), if_neg (by omega), if_neg (by omega), if_neg (by omega)]
  have h4 : mw D cl A (MD cy none K0 (LRo Lz a0 q24 q25 r9) GRo) H := h3.sub (by
    rintro q e ⟨f, i, ⟨hf, hi⟩, rfl, rfl⟩
    rcases hf with hf | rfl | rfl | rfl
    · by_cases h1 : f = 1
      · subst h1
        have hi0 : i = 0 := by have : nF 1 = 1 := rfl; omega
        subst hi0
        exact Or.inl (Or.inl ⟨rfl, rfl⟩)
      · have hi' : i < 24 := by
          have h7 : ∀ f, f < 8 → 2 ≤ f → nF f = 24 := by decide
          rw [← h7 f (by omega) (by omega)]
          exact hi
        refine Or.inl (Or.inr (Or.inr (Or.inl ⟨f, i, ⟨by omega, hf.2, hi'⟩, e2 f i (by omega) hf.2, ?_⟩)))
        refine ct_same ⟨by omega, by omega⟩ fun g hg => e2 g i ?_ ?_
        · have h7 : ∀ p, p ∈ rdF → p.1 ≤ 7 → 2 ≤ p.2 := by decide
          exact h7 _ hg hf.2
        · have h7 : ∀ p, p ∈ rdF → p.1 ≤ 7 → p.2 ≤ 7 := by decide
          exact h7 _ hg hf.2
    · exact Or.inl (Or.inr (Or.inl ⟨i, hi, rfl, rfl⟩))
    · have hi0 : i = 0 := by have : nF 24 = 1 := rfl; omega
      subst hi0
      exact Or.inl (Or.inr (Or.inr (Or.inr ⟨rfl, rfl⟩)))
    · have hi0 : i = 0 := by have : nF 25 = 1 := rfl; omega
      subst hi0
      exact Or.inr ⟨rfl, rfl⟩)
  refine ⟨LIg_of (tr := none) (κ := K0) h4 (fun f i h => ⟨f, i, ⟨by omega, h.2⟩, rfl, rfl⟩) ?_, h4⟩
  rintro f i g j ⟨hf, hi⟩ ⟨hg, hj⟩ hk e
  have h17 : ∀ f, f < 8 → 2 ≤ f → kf f ≠ kf 17 := by decide
  rcases hf with hf | rfl
  · rcases hg with hg | rfl
    · have h7 : ∀ f, f < 8 → 2 ≤ f → nF f = 24 := by decide
      rw [e2 f i hf.1 hf.2, e2 g j hg.1 hg.2] at e
      rw [h7 f (by omega) hf.1] at hi
      rw [h7 g (by omega) hg.1] at hj
      exact hLI f i g j ⟨hf.1, hf.2, hi⟩ ⟨hg.1, hg.2, hj⟩ e
    · exact absurd hk (h17 f (by omega) hf.1)
  · rcases hg with hg | rfl
    · exact absurd hk.symm (h17 g (by omega) hg.1)
    · exact ⟨rfl, hri i j hi hj e⟩

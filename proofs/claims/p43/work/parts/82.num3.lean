/-! rows and vehicles, one by one -/
theorem i_succ_sub {x y : Int32} : x + 1 - y = x - y + 1 := by
  rw [Int32.sub_eq_add_neg, Int32.sub_eq_add_neg, Int32.add_assoc, Int32.add_assoc, Int32.add_comm 1 (-y)]
theorem i_sub_succ {x y : Int32} : x - (y + 1) = x - y - 1 := by
  rw [Int32.sub_eq_add_neg, Int32.sub_eq_add_neg, Int32.sub_eq_add_neg, Int32.neg_add, Int32.sub_eq_add_neg, Int32.add_assoc]
section ROWS
variable {nl nf ck ck' k l m v e : Nat} {lv : Tb} {a b : St}
/-- who is on the link k stays there as it is, all but one -/
def Stay (a b : St) (k v : Nat) : Prop := ∀ u, u < nV a → u ≠ v → a 15 u 3 = 1 → a 15 u 5 = nI k → b 15 u 3 = 1 ∧ b 15 u 5 = nI k ∧ b 15 u 6 = a 15 u 6
theorem Stay.of (h : ∀ u, u ≠ v → b 15 u = a 15 u) : Stay a b k v := fun u _ hu h1 h2 => by rw [h u hu]; exact ⟨h1, h2, rfl⟩
theorem Rw_same (h : Rwm lv ck a k m) (hck : ck ≤ ck') (hv : nV a ≤ nV b) (e3 : b 3 k 0 = a 3 k 0) (e4 : b 4 k = a 4 k) (e5 : b 5 k 0 = a 5 k 0) (e6 : b 6 k = a 6 k) (e2 : b 2 k 9 - b 2 k 10 = a 2 k 9 - a 2 k 10) (e8 : lv k 2 ≤ a 2 k 8 → lv k 2 ≤ b 2 k 8) (hu : ∀ u, u < nV a → a 15 u 3 = 1 → a 15 u 5 = nI k → b 15 u 3 = 1 ∧ b 15 u 5 = nI k ∧ b 15 u 6 = a 15 u 6) : Rwm lv ck' b k m := by
  obtain ⟨ti, ro, h1, h2, h3, h4, h5, h6, h7, h8, h9, h10, h11, h12⟩ := h
  refine ⟨ti, ro, h1, h2, h3, h4, e3.trans h5, e5.trans h6, h7, fun j hj => ?_, fun i j hi hj => by rw [e4]; exact h9 i j hi hj, fun j hj => by rw [e6]; exact h10 j hj, e2.trans h11, e8 h12⟩
  obtain ⟨u, e, g1, g2, g3, g4, g5, g6, g7⟩ := h8 j hj
  obtain ⟨f1, f2, f3⟩ := hu u g1 g4 g5
  exact ⟨u, e, by omega, by rw [e4]; exact g2, by rw [e6]; exact g3, f1, f2, f3.trans g6, by omega⟩
theorem Rw_grow (h : Rwm lv ck a k m) (hv : nV a ≤ nV b) (hop : ¬ lv k 3 ≤ a 3 k 0) (g3 : Grow 3 4 a b k m (nI v)) (g5 : Grow 5 6 a b k m (nI ck + lv k 2)) (e2 : b 2 k = upd (a 2 k) 9 (a 2 k 9 + 1)) (hvb : v < nV b) (hv31 : v < 1000) (b3 : b 15 v 3 = 1) (b5 : b 15 v 5 = nI k) (b6 : b 15 v 6 = nI ck + lv k 2) (hn : ¬ (a 15 v 3 = 1 ∧ a 15 v 5 = nI k)) (hs : Stay a b k v) (hck : ck < 100000) (hV : nV a ≤ 200) : Rwm lv ck b k (m + 1) := by
  obtain ⟨ti, ro, h1, h2, h3, h4, h5, h6, h7, h8, h9, h10, h11, h12⟩ := h
  have hmr : m < ro := by
    apply Classical.byContradiction
    intro hc
    exact hop (by rw [h2, h5]; exact nI_le (by omega) (by omega))
  have hnew : nI ck + lv k 2 = nI (ck + ti) := by rw [h1, nI_add]
  rw [hnew] at g5 b6
  refine ⟨ti, ro, h1, h2, h3, h4, g3.1, g5.1, by omega, fun j hj => ?_, fun i j hi hj e9 => ?_, fun j hj => ?_, ?_, ?_⟩
  · by_cases hjm : j = m
    · subst hjm
      exact ⟨v, ck + ti, hvb, g3.2.2, g5.2.2, b3, b5, b6, by omega⟩
    · obtain ⟨u, e, f1, f2, f3, f4, f5, f6, f7⟩ := h8 j (by omega)
      have huv : u ≠ v := by
        rintro rfl
        exact hn ⟨f4, f5⟩
      obtain ⟨q1, q2, q3⟩ := hs u f1 huv f4 f5
      exact ⟨u, e, by omega, by rw [g3.2.1 j (by omega)]; exact f2, by rw [g5.2.1 j (by omega)]; exact f3, q1, q2, q3.trans f6, f7⟩
  · have hne : ∀ i, i < m → b 4 k i ≠ nI v := by
      intro i hi h9
      obtain ⟨u, e, f1, f2, f3, f4, f5, f6, f7⟩ := h8 i hi
      rw [g3.2.1 i hi, f2, nI_eq (by omega) (by omega)] at h9
      subst h9
      exact hn ⟨f4, f5⟩
    by_cases him : i = m
    · by_cases hjm : j = m
      · omega
      · rw [him, g3.2.2] at e9
        exact absurd e9.symm (hne j (by omega))
    · by_cases hjm : j = m
      · rw [hjm, g3.2.2] at e9
        exact absurd e9 (hne i (by omega))
      · rw [g3.2.1 i (by omega), g3.2.1 j (by omega)] at e9
        exact h9 i j (by omega) (by omega) e9
  · by_cases hjm : j + 1 = m
    · rw [hjm, g5.2.2, g5.2.1 j (by omega)]
      obtain ⟨u, e, f1, f2, f3, f4, f5, f6, f7⟩ := h8 j (by omega)
      rw [f3]
      exact nI_le f7 (by omega)
    · rw [g5.2.1 j (by omega), g5.2.1 (j + 1) (by omega)]
      exact h10 j (by omega)
  · rw [e2, upd_eq, upd_ne (by decide), i_succ_sub, h11, nI_1]
  · rw [e2, upd_ne (by decide)]
    exact h12
theorem Rw_drop (h : Rwm lv ck a l m) (hv : nV a ≤ nV b) (h0 : 0 < m) (hh : a 4 l 0 = nI v) (d3 : Drop 3 4 a b l m) (d5 : Drop 5 6 a b l m) (e2 : b 2 l = upd (a 2 l) 10 (a 2 l 10 + 1)) (hs : Stay a b l v) : Rwm lv ck b l (m - 1) := by
  obtain ⟨ti, ro, h1, h2, h3, h4, h5, h6, h7, h8, h9, h10, h11, h12⟩ := h
  refine ⟨ti, ro, h1, h2, h3, h4, d3.1, d5.1, by omega, fun j hj => ?_, fun i j hi hj e9 => ?_, fun j hj => ?_, ?_, ?_⟩
  · obtain ⟨u, e, f1, f2, f3, f4, f5, f6, f7⟩ := h8 (j + 1) (by omega)
    have huv : u ≠ v := by
      rintro rfl
      have := h9 (j + 1) 0 (by omega) h0 (f2.trans hh.symm)
      omega
    obtain ⟨q1, q2, q3⟩ := hs u f1 huv f4 f5
    exact ⟨u, e, by omega, by rw [d3.2 j (by omega)]; exact f2, by rw [d5.2 j (by omega)]; exact f3, q1, q2, q3.trans f6, f7⟩
  · rw [d3.2 i (by omega), d3.2 j (by omega)] at e9
    have := h9 (i + 1) (j + 1) (by omega) (by omega) e9
    omega
  · rw [d5.2 j (by omega), d5.2 (j + 1) (by omega)]
    exact h10 (j + 1) (by omega)
  · rw [e2, upd_eq, upd_ne (by decide), i_sub_succ, h11, show (1 : Int32) = nI 1 from rfl, pk_sub h0]
  · rw [e2, upd_ne (by decide)]
    exact h12
theorem Veh_same (h : Veh nl nf lv ck a v) (hck : ck ≤ ck') (e15 : b 15 v = a 15 v) (e16 : b 16 v = a 16 v) (e30 : b 30 v = a 30 v) : Veh nl nf lv ck' b v := by
  have el : ∀ j, lstE lv b v j = lstE lv a v j := fun j => by unfold lstE; rw [e30]
  unfold Veh
  rw [e15, e16, e30]
  simp only [el]
  obtain ⟨s, f, st, g, dr, h1, h2, h3, h4, h5, h6, h7, h8, h9, h10, h11, h12, h13, h14, h15, h16, h17⟩ := h
  refine ⟨s, f, st, g, dr, h1, h2, h3, h4, h5, by omega, h7, h8, h9, by omega, h11, h12, h13, h14, fun hs => ?_, fun hs => ?_, h17⟩
  · obtain ⟨q1, q2, e, q3, q4, q5⟩ := h15 hs
    exact ⟨q1, q2, e, q3, q4, by omega⟩
  · obtain ⟨tp, q1, q2, q3, q4⟩ := h16 hs
    exact ⟨tp, q1, q2, by omega, q4⟩
theorem sumI_congr {g h : Nat → Int32} : ∀ n, (∀ i, i < n → g i = h i) → sumI g n = sumI h n
  | 0, _ => rfl
  | n + 1, e => by
    show sumI g n + g n = sumI h n + h n
    rw [sumI_congr n (fun i hi => e i (by omega)), e n (by omega)]
/-- a vehicle comes onto the link k: its own numbers -/
theorem Veh_on {s : Nat} (h : Veh nl nf lv ck a v) {ti : Nat} (hk : k < nl) (hnl : nl ≤ 24) (hti : lv k 2 = nI ti) (h1t : 1 ≤ ti) (ht20 : ti ≤ 20) (hck : a 0 0 0 = nI ck) (hck2 : ck < 100000) {g : Nat} (hg : a 15 v 7 = nI g) (hg2 : g < 100000) (e2 : a 2 k 2 = lv k 2) (hs : a 15 v 3 = nI s) (hs1 : s = 0 ∨ s = 1 ∧ (lv k 0 = lv (a 30 v (g - 1)).toNatClampNeg 1) ∧ a 15 v 6 ≤ nI ck) (hway : a 15 v 2 = 0 → ∃ w : Nat, a 15 v 11 = nI w ∧ w ≤ 11 ∧ g < w ∧ a 16 v g = nI k) (hE : EOn a b v k m g) : Veh nl nf lv ck b v ∧ b 15 v 3 = 1 ∧ b 15 v 5 = nI k ∧ b 15 v 6 = nI ck + lv k 2 := by
  obtain ⟨s', f, st, g', dr, h1, h2, h3, h4, h5, h6, h7, h8, h9, h10, h11, h12, h13, h14, h15, h16, h17⟩ := h
  have hgg : g' = g := (nI_eq (by omega) (by omega)).mp (h7.symm.trans hg)
  subst hgg
  have hss : s' = s := (nI_eq (by omega) (by omega)).mp (h1.symm.trans hs)
  subst hss
  obtain ⟨o1, o2, o3, o4, o5, o6, o7, o8, o9⟩ := hE
  have x3 : b 15 v 3 = nI 1 := by rw [o1]; rfl
  have x5 : b 15 v 5 = nI k := by rw [o1]; rfl
  have x6 : b 15 v 6 = nI (ck + ti) := by rw [o1]; show a 0 0 0 + a 2 k 2 = _; rw [hck, e2, hti, nI_add]
  have x7 : b 15 v 7 = nI (g' + 1) := by rw [o1]; show a 15 v 7 + 1 = _; rw [h7, nI_1]
  have x8 : b 15 v 8 = nI (dr + ti) := by rw [o1]; show a 15 v 8 + a 2 k 2 = _; rw [h8, e2, hti, nI_add]
  have xq : ∀ q, q ≠ 3 → q ≠ 5 → q ≠ 6 → q ≠ 7 → q ≠ 8 → b 15 v q = a 15 v q := fun q g3 g5 g6 g7 g8 => by
    rw [o1]
    simp [X_onto, upd, g3, g5, g6, g7, g8]
  have tl : ∀ p, p < g' → b 30 v p = a 30 v p := fun p hp => by rw [o3, if_neg (by omega)]
  have th : b 30 v g' = nI k := by rw [o3, if_pos rfl]
  have hl : lstE lv b v g' = lstE lv a v g' := sumI_congr g' fun p hp => by rw [tl p hp]
  have hl2 : lstE lv b v (g' + 1) = nI (dr + ti) := by
    show lstE lv b v g' + lv (b 30 v g').toNatClampNeg 2 = _
    rw [hl, h13, th, nI_clamp (by omega), hti, nI_add]
  have hdr : s' = 0 → dr = 0 := fun h0 => by
    have hg0 := h14 h0
    rw [hg0] at h13
    have h13' : (0 : Int32) = nI dr := h13
    exact ((nI_eq (a := 0) (b := dr) (by omega) (by omega)).mp h13').symm
  have hend : st + dr ≤ ck := by
    rcases hs1 with h0 | ⟨h0, -, hle⟩
    · rw [hdr h0]
      omega
    · obtain ⟨-, -, e, q1, q2, q3⟩ := h15 h0
      rw [q1] at hle
      have := (nI_leI (by omega) (by omega)).mp hle
      omega
  have b16 : b 16 = a 16 := o9 16 (by decide) (by decide) (by decide) (by decide) (by decide) (by decide) (by decide)
  refine ⟨⟨1, f, st, g' + 1, dr + ti, x3, by decide, by rw [xq 0 (by decide) (by decide) (by decide) (by decide) (by decide)]; exact h3, h4, by rw [xq 4 (by decide) (by decide) (by decide) (by decide) (by decide)]; exact h5, h6, x7, x8, by omega, by omega, fun p hp => ?_, fun p hp => ?_, hl2, fun h => by omega, fun _ => ⟨by omega, ?_, ck + ti, x6, by omega, by omega⟩, fun h => by omega, fun hz => ?_⟩, x3, x5, by rw [x6, hti, nI_add]⟩
  · by_cases hpg : p = g'
    · subst hpg
      exact ⟨k, hk, th⟩
    · rw [tl p (by omega)]
      exact h11 p (by omega)
  · by_cases hpg : p + 1 = g'
    · rw [hpg, th, nI_clamp (by omega), tl p (by omega)]
      rcases hs1 with h0 | ⟨-, hj, -⟩
      · have := h14 h0
        omega
      · rw [hj, show g' - 1 = p by omega]
    · rw [tl p (by omega), tl (p + 1) (by omega)]
      exact h12 p (by omega)
  · rw [x5, show g' + 1 - 1 = g' by omega, th]
  · rw [xq 2 (by decide) (by decide) (by decide) (by decide) (by decide)] at hz
    obtain ⟨w, w1, w2, w3, w4, w5⟩ := h17 hz
    obtain ⟨w', y1, y2, y3, y4⟩ := hway hz
    have hww : w' = w := (nI_eq (by omega) (by omega)).mp (y1.symm.trans w1)
    subst hww
    rw [xq 11 (by decide) (by decide) (by decide) (by decide) (by decide), b16]
    exact ⟨w', w1, w2, w3, w4, fun _ => ⟨by omega, by rw [show g' + 1 - 1 = g' by omega, th]; exact y4⟩⟩
end ROWS

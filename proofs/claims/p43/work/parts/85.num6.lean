/-! from a link onto a link; arriving -/
section MOVE2
variable {nd nl nf ck z m k mk l v g : Nat} {lv fv : Tb} {a : St}
theorem Rwm.head (h : Rwm lv ck a l m) (h0 : 0 < m) (hh : a 4 l 0 = nI v) (hv : v < 1000) (hV : nV a ≤ 200) : a 15 v 3 = 1 ∧ a 15 v 5 = nI l ∧ a 15 v 6 = a 6 l 0 ∧ a 3 l 0 = nI m ∧ a 5 l 0 = nI m ∧ m ≤ 30 := by
  obtain ⟨ti, ro, h1, h2, h3, h4, h5, h6, h7, h8, -⟩ := h
  obtain ⟨u, e, f1, f2, f3, f4, f5, f6, f7⟩ := h8 0 h0
  rw [hh, nI_eq (by omega) (by omega)] at f2
  subst f2
  exact ⟨f4, f5, f6.trans f3.symm, h5, h6, by omega⟩
theorem Veh.at1 (h : Veh nl nf lv ck a v) (hs : a 15 v 3 = 1) (hg : a 15 v 7 = nI g) (hg2 : g < 100000) (hck : ck < 100000) : a 15 v 5 = a 30 v (g - 1) := by
  obtain ⟨s, f, st, g', dr, h1, h2, h3, h4, h5, h6, h7, h8, h9, h10, h11, h12, h13, h14, h15, h16, h17⟩ := h
  have hss : s = 1 := (nI_eq (b := 1) (by omega) (by decide)).mp (h1.symm.trans hs)
  have hgg : g' = g := (nI_eq (by omega) (by omega)).mp (h7.symm.trans hg)
  rw [← hgg]
  exact (h15 hss).2.1
theorem Jv_move (hT : Tbl nd nl nf lv fv) (h : Jv nd nl nf lv fv ck z a) (hck : ck ≤ 2000) (hl : l < nl) (hm : Rwm lv ck a l m) (h0 : 0 < m) (hh : a 4 l 0 = nI v) (hend : a 6 l 0 ≤ nI ck) (hk : k < nl) (hr : Rwm lv ck a k mk) (hop : ¬ lv k 3 ≤ a 3 k 0) (hadj : lv k 0 = lv l 1) (hg : a 15 v 7 = nI g) (hway : a 15 v 2 = 0 → ∃ w : Nat, a 15 v 11 = nI w ∧ w ≤ 11 ∧ g < w ∧ a 16 v g = nI k) (hv : v < nV a) (hg2 : g < 100000) : Jv nd nl nf lv fv ck z (L_go (L_turn (T_onto a v (nI v) (nI k)) l (nI k)) l) ∧ Mono a (L_go (L_turn (T_onto a v (nI v) (nI k)) l (nI k)) l) := by
  obtain ⟨jS, jc, jR, jW, jJ, jV, jC, jF⟩ := h
  obtain ⟨ti, t1, t2, t3⟩ := hT.link hk
  have hnl := hT.2.1
  obtain ⟨c4, c5, c6, c7, c8, c9, c10, c11⟩ := jC
  obtain ⟨hs1, hs5, hs6, hl3, hl5, hm30⟩ := hm.head h0 hh (by omega) c5
  have hkl : k ≠ l := by
    rintro rfl
    exact hT.ne hk hadj
  have hr2 := hr
  obtain ⟨ti', ro, r1, r2, r3, r4, r5, r6, r7, -⟩ := hr2
  have hmro : mk < ro := by
    apply Classical.byContradiction
    intro hc
    exact hop (by rw [r2, r5]; exact nI_le (by omega) (by omega))
  have hat : a 30 v (g - 1) = nI l := ((jV v hv).at1 hs1 hg hg2 (by omega)).symm.trans hs5
  have hE := eon_onto (v := v) (k := k) r5 r6 (by omega) hg hg2 (by omega)
  generalize hc : T_onto a v (nI v) (nI k) = c at hE ⊢
  have hO := hE
  obtain ⟨o1, o2, o3, o4, o5, o6, o7, o8, o9⟩ := hO
  generalize hd : L_turn c l (nI k) = d
  have od : ∀ f, f ≠ 7 → d f = c f := fun f f7 => by rw [← hd]; funext i; exact L_turn_off f7
  have hG : EGo d (L_go d l) l m := ego_go (by rw [od 3 (by decide), (o7 l hkl.symm).1]; exact hl3) (by rw [od 5 (by decide), (o7 l hkl.symm).2.2.1]; exact hl5) h0 (by omega)
  generalize hb : L_go d l = b at hG ⊢
  obtain ⟨p1, p2, p3, p4, p5⟩ := hG
  have oa : ∀ f, f ≠ 2 → f ≠ 3 → f ≠ 4 → f ≠ 5 → f ≠ 6 → f ≠ 7 → f ≠ 15 → f ≠ 30 → b f = a f := fun f f2 f3 f4 f5 f6 f7 f15 f30 => by rw [p5 f f2 f3 f4 f5 f6, od f f7, o9 f f2 f3 f4 f5 f6 f15 f30]
  have b0 : b 0 = a 0 := oa 0 (by decide) (by decide) (by decide) (by decide) (by decide) (by decide) (by decide) (by decide)
  have b1 : b 1 = a 1 := oa 1 (by decide) (by decide) (by decide) (by decide) (by decide) (by decide) (by decide) (by decide)
  have b12 : b 12 = a 12 := oa 12 (by decide) (by decide) (by decide) (by decide) (by decide) (by decide) (by decide) (by decide)
  have b13 : b 13 = a 13 := oa 13 (by decide) (by decide) (by decide) (by decide) (by decide) (by decide) (by decide) (by decide)
  have b14 : b 14 = a 14 := oa 14 (by decide) (by decide) (by decide) (by decide) (by decide) (by decide) (by decide) (by decide)
  have b16 : b 16 = a 16 := oa 16 (by decide) (by decide) (by decide) (by decide) (by decide) (by decide) (by decide) (by decide)
  have c16 : c 16 = a 16 := o9 16 (by decide) (by decide) (by decide) (by decide) (by decide) (by decide) (by decide)
  have b15 : b 15 = c 15 := by rw [p5 15 (by decide) (by decide) (by decide) (by decide) (by decide), od 15 (by decide)]
  have b30 : b 30 = c 30 := by rw [p5 30 (by decide) (by decide) (by decide) (by decide) (by decide), od 30 (by decide)]
  have hV : nV b = nV a := by show (b 0 0 4).toNatClampNeg = _; rw [b0]
  -- rows of other links, and of k, as they are behind the coming on
  have bo : ∀ i, i ≠ l → b 3 i = c 3 i ∧ b 4 i = c 4 i ∧ b 5 i = c 5 i ∧ b 6 i = c 6 i ∧ b 2 i = c 2 i := fun i hi => by
    obtain ⟨x3, x4, x5, x6, x2⟩ := p3 i hi
    exact ⟨by rw [x3, od 3 (by decide)], by rw [x4, od 4 (by decide)], by rw [x5, od 5 (by decide)], by rw [x6, od 6 (by decide)], by rw [x2, od 2 (by decide)]⟩
  obtain ⟨k3, k4, k5, k6, k2⟩ := bo k hkl
  obtain ⟨l3, l4, l5, l6, l2⟩ := o7 l hkl.symm
  have d3 : Drop 3 4 a b l m := ⟨p1.1, fun j hj => by rw [p1.2 j hj, od 4 (by decide), l4]⟩
  have d5 : Drop 5 6 a b l m := ⟨p2.1, fun j hj => by rw [p2.2 j hj, od 6 (by decide), l6]⟩
  have e2l : b 2 l = upd (a 2 l) 10 (a 2 l 10 + 1) := by rw [p4, od 2 (by decide), l2]
  obtain ⟨V1, V2, V3, V4⟩ := Veh_on (jV v hv) (s := 1) hk hnl t1 t2 t3 jc (by omega) hg hg2 (jS.2.2.2.1 k hk 2 (by decide)) hs1 (Or.inr ⟨rfl, by rw [hat, nI_clamp (by omega)]; exact hadj, by rw [hs6]; exact hend⟩) hway hE
  have g3 : Grow 3 4 a b k mk (nI v) := ⟨by rw [k3]; exact o5.1, fun j hj => by rw [k4]; exact o5.2.1 j hj, by rw [k4]; exact o5.2.2⟩
  have g5 : Grow 5 6 a b k mk (nI ck + lv k 2) := ⟨by rw [k5]; exact o6.1, fun j hj => by rw [k6]; exact o6.2.1 j hj, by rw [k6, o6.2.2, jc, jS.2.2.2.1 k hk 2 (by decide)]⟩
  have ho15 : ∀ u, u ≠ v → b 15 u = a 15 u := fun u hu => by rw [b15]; exact o2 u hu
  have hv200 : v < 200 := by omega
  have hk3 : (a 3 k 0).toNatClampNeg = mk := by rw [r5, nI_clamp (by omega)]
  have hll3 : (a 3 l 0).toNatClampNeg = m := by rw [hl3, nI_clamp (by omega)]
  have hb3 : b 15 v 3 = 1 := by rw [b15]; exact V2
  have hcn : ∀ s, cN b s (nV a) = cN a s (nV a) := fun s => cN_congr (nV a) fun u _ => by
    by_cases huv : u = v
    · subst huv
      rw [hb3, hs1]
    · rw [ho15 u huv]
  refine ⟨⟨Stt_same jS (by rw [b1]) (by rw [b0]) (by rw [b0]) (fun i q hq => ?_) (fun f q _ => by rw [b14]), by rw [b0]; exact jc, fun i hi => ?_, fun i hi => ?_, WtJ_same jJ (fun i _ => by rw [b12, b13]; exact ⟨rfl, rfl⟩), fun u hu => ?_, ?_, fun f hf => Flw_same (jF f hf) (Nat.le_refl _) fun q _ => by rw [b14]⟩, by omega, fun u hu h2 => ?_⟩
  · by_cases hil : i = l
    · subst hil
      rw [e2l, upd_ne (by omega)]
    · rw [(bo i hil).2.2.2.2]
      by_cases hik : i = k
      · subst hik
        rw [o8, upd_ne (by omega)]
      · rw [(o7 i hik).2.2.2.2]
  · by_cases hil : i = l
    · subst hil
      exact ⟨m - 1, Rw_drop hm (by omega) h0 hh d3 d5 e2l (Stay.of ho15)⟩
    · by_cases hik : i = k
      · subst hik
        refine ⟨mk + 1, Rw_grow hr (by omega) hop g3 g5 (by rw [k2]; exact o8) (by omega) (by omega) hb3 (by rw [b15]; exact V3) (by rw [b15]; exact V4) (fun h => ?_) (Stay.of ho15) (by omega) c5⟩
        have h9 := h.2
        rw [hs5, nI_eq (by omega) (by omega)] at h9
        exact hkl h9.symm
      · obtain ⟨mi, hi2⟩ := jR i hi
        obtain ⟨x3, x4, x5, x6, x2⟩ := o7 i hik
        obtain ⟨y3, y4, y5, y6, y2⟩ := bo i hil
        refine ⟨mi, Rw_same hi2 (Nat.le_refl _) (by omega) (by rw [y3, x3]) (by rw [y4, x4]) (by rw [y5, x5]) (by rw [y6, x6]) (by rw [y2, x2]) (by rw [y2, x2]; exact id) fun u hu h1 h5 => ?_⟩
        have huv : u ≠ v := by
          rintro rfl
          rw [hs5, nI_eq (by omega) (by omega)] at h5
          exact hil h5.symm
        rw [ho15 u huv]
        exact ⟨h1, h5, rfl⟩
  · obtain ⟨mi, hi2⟩ := jW i hi
    refine ⟨mi, Wt_same hi2 (by omega) (by rw [b12]) (by rw [b13]) fun j u hj _ hju h3 => ?_⟩
    have huv : u ≠ v := by
      rintro rfl
      rw [hs1] at h3
      exact absurd h3 (by decide)
    rw [ho15 u huv]
    exact h3
  · by_cases huv : u = v
    · subst huv
      exact Veh_same V1 (Nat.le_refl _) (by rw [b15]) (by rw [b16, c16]) (by rw [b30])
    · exact Veh_same (jV u (by omega)) (Nat.le_refl _) (ho15 u huv) (by rw [b16]) (by rw [b30]; exact o4 u huv)
  · have s1 := sN_inc (g := fun i => (a 3 i 0).toNatClampNeg) (h := fun i => if i = k then mk + 1 else (a 3 i 0).toNatClampNeg) nl hk (fun i _ hi => if_neg hi)
    have s2 := sN_inc (g := fun i => if i = k then mk + 1 else (a 3 i 0).toNatClampNeg) (h := fun i => (b 3 i 0).toNatClampNeg) nl hl (fun i _ hi => by
      show (b 3 i 0).toNatClampNeg = if i = k then mk + 1 else (a 3 i 0).toNatClampNeg
      by_cases hik : i = k
      · subst hik
        rw [if_pos rfl, g3.1, nI_clamp (by omega)]
      · rw [if_neg hik, (bo i hi).1, (o7 i hik).1])
    have e3 : (b 3 l 0).toNatClampNeg = m - 1 := by rw [d3.1, nI_clamp (by omega)]
    simp only [if_true, if_neg hkl.symm] at s1 s2
    unfold Cnt
    rw [hV, b0, b14, b12, hcn 0, hcn 1, hcn 2, hcn 3]
    exact ⟨c4, c5, c6, by omega, c8, c9, c10, c11⟩
  · have huv : u ≠ v := by
      rintro rfl
      rw [hs1] at h2
      exact absurd h2 (by decide)
    rw [ho15 u huv]
    exact h2
theorem Jv_arrive (hT : Tbl nd nl nf lv fv) (h : Jv nd nl nf lv fv ck z a) (hck : ck ≤ 1000) (hl : l < nl) (hm : Rwm lv ck a l m) (h0 : 0 < m) (hh : a 4 l 0 = nI v) (hend : a 6 l 0 ≤ nI ck) (hv : v < nV a) : Jv nd nl nf lv fv ck z (L_go (T_arrive a v) l) ∧ Mono a (L_go (T_arrive a v) l) := by
  obtain ⟨jS, jc, jR, jW, jJ, jV, jC, jF⟩ := h
  have hnl := hT.2.1
  have hnf := hT.2.2.2.1
  obtain ⟨c4, c5, c6, c7, c8, c9, c10, c11⟩ := jC
  obtain ⟨hs1, hs5, hs6, hl3, hl5, hm30⟩ := hm.head h0 hh (by omega) c5
  obtain ⟨f, hf, hvf⟩ : ∃ f, f < nf ∧ a 15 v 0 = nI f := by
    obtain ⟨s, f, st, g, dr, h1, h2, h3, h4, -⟩ := jV v hv
    exact ⟨f, h4, h3⟩
  have hA := earr hvf jS.2.2.1 hf hnf
  generalize hc : T_arrive a v = c at hA ⊢
  obtain ⟨o1, o2, o3, o4, o5, o6⟩ := hA
  have hG : EGo c (L_go c l) l m := ego_go (by rw [o6 3 (by decide) (by decide) (by decide)]; exact hl3) (by rw [o6 5 (by decide) (by decide) (by decide)]; exact hl5) h0 (by omega)
  generalize hb : L_go c l = b at hG ⊢
  obtain ⟨p1, p2, p3, p4, p5⟩ := hG
  have oa : ∀ F, F ≠ 2 → F ≠ 3 → F ≠ 4 → F ≠ 5 → F ≠ 6 → F ≠ 0 → F ≠ 14 → F ≠ 15 → b F = a F := fun F f2 f3 f4 f5 f6 f0 f14 f15 => by rw [p5 F f2 f3 f4 f5 f6, o6 F f0 f14 f15]
  have b1 : b 1 = a 1 := oa 1 (by decide) (by decide) (by decide) (by decide) (by decide) (by decide) (by decide) (by decide)
  have b12 : b 12 = a 12 := oa 12 (by decide) (by decide) (by decide) (by decide) (by decide) (by decide) (by decide) (by decide)
  have b13 : b 13 = a 13 := oa 13 (by decide) (by decide) (by decide) (by decide) (by decide) (by decide) (by decide) (by decide)
  have b16 : b 16 = a 16 := oa 16 (by decide) (by decide) (by decide) (by decide) (by decide) (by decide) (by decide) (by decide)
  have b30 : b 30 = a 30 := oa 30 (by decide) (by decide) (by decide) (by decide) (by decide) (by decide) (by decide) (by decide)
  have b0 : b 0 0 = upd (a 0 0) 5 (a 0 0 5 - 1) := by rw [p5 0 (by decide) (by decide) (by decide) (by decide) (by decide)]; exact o3
  have b14 : b 14 = c 14 := p5 14 (by decide) (by decide) (by decide) (by decide) (by decide)
  have b15 : b 15 = c 15 := p5 15 (by decide) (by decide) (by decide) (by decide) (by decide)
  have hV : nV b = nV a := by show (b 0 0 4).toNatClampNeg = _; rw [b0, upd_ne (by decide)]
  have bo : ∀ i, i ≠ l → b 3 i = a 3 i ∧ b 4 i = a 4 i ∧ b 5 i = a 5 i ∧ b 6 i = a 6 i ∧ b 2 i = a 2 i := fun i hi => by
    obtain ⟨x3, x4, x5, x6, x2⟩ := p3 i hi
    rw [x3, x4, x5, x6, x2, o6 3 (by decide) (by decide) (by decide), o6 4 (by decide) (by decide) (by decide), o6 5 (by decide) (by decide) (by decide), o6 6 (by decide) (by decide) (by decide), o6 2 (by decide) (by decide) (by decide)]
    exact ⟨rfl, rfl, rfl, rfl, rfl⟩
  have d3 : Drop 3 4 a b l m := ⟨p1.1, fun j hj => by rw [p1.2 j hj, o6 4 (by decide) (by decide) (by decide)]⟩
  have d5 : Drop 5 6 a b l m := ⟨p2.1, fun j hj => by rw [p2.2 j hj, o6 6 (by decide) (by decide) (by decide)]⟩
  have e2l : b 2 l = upd (a 2 l) 10 (a 2 l 10 + 1) := by rw [p4, o6 2 (by decide) (by decide) (by decide)]
  obtain ⟨V1, V2, tp, dl, V3, V4, V5, V6⟩ := Veh_arr (b := b) (jV v hv) hs1 (by rw [hs6]; exact hend) jc (by omega) (by rw [b15]; exact o1) (by rw [b16]) (by rw [b30])
  have ho15 : ∀ u, u ≠ v → b 15 u = a 15 u := fun u hu => by rw [b15]; exact o2 u hu
  have hll3 : (a 3 l 0).toNatClampNeg = m := by rw [hl3, nI_clamp (by omega)]
  have hcn := cN_st (s := 1) (t := 2) (nV a) hv (by decide) (by decide) (fun u _ hu => by rw [ho15 u hu]) hs1 V2
  have q0 : cN b 0 (nV a) = cN a 0 (nV a) := hcn 0 (by decide)
  have q1 : cN b 1 (nV a) + 1 = cN a 1 (nV a) := hcn 1 (by decide)
  have q2 : cN b 2 (nV a) = cN a 2 (nV a) + 1 := hcn 2 (by decide)
  have q3 : cN b 3 (nV a) = cN a 3 (nV a) := hcn 3 (by decide)
  have hle2 : cN a 2 (nV a) + 1 ≤ 200 := by
    have h9 := cN_le (a := b) (s := 2) (nV a)
    omega
  have hf14 : b 14 f = X_trip (a 14 f) (nI tp) (nI dl) := by rw [b14, o4, ← b15, V3, V4]
  have ho14 : ∀ i, i ≠ f → b 14 i = a 14 i := fun i hi => by rw [b14]; exact o5 i hi
  have hb6 : ∀ i, b 14 i 6 = a 14 i 6 ∧ b 14 i 8 = a 14 i 8 := fun i => by
    by_cases hif : i = f
    · subst hif
      rw [hf14]
      exact ⟨rfl, rfl⟩
    · rw [ho14 i hif]
      exact ⟨rfl, rfl⟩
  obtain ⟨cm, ar, gu, x, dd, y1, y2, y3, y4, y5, y6, y7, y8, y9, y10, y11⟩ := jF f hf
  have har : ar ≤ cN a 2 (nV a) := by
    have h9 := sN_ge (g := fun i => (a 14 i 7).toNatClampNeg) (k := f) nf hf
    have h8 : (a 14 f 7).toNatClampNeg = ar := by rw [y2, nI_clamp (by omega)]
    omega
  refine ⟨⟨Stt_same jS (by rw [b1]) (by rw [b0, upd_ne (by decide)]) (by rw [b0, upd_ne (by decide)]) (fun i q hq => ?_) (fun i q hq => ?_), by rw [b0, upd_ne (by decide)]; exact jc, fun i hi => ?_, fun i hi => ?_, WtJ_same jJ (fun i _ => by rw [b12, b13]; exact ⟨rfl, rfl⟩), fun u hu => ?_, ?_, fun i hi => ?_⟩, by omega, fun u hu h2 => ?_⟩
  · by_cases hil : i = l
    · subst hil
      rw [e2l, upd_ne (by omega)]
    · rw [(bo i hil).2.2.2.2]
  · by_cases hif : i = f
    · subst hif
      rw [hf14]
      unfold X_trip
      rw [upd_ne (by omega), upd_ne (by omega), upd_ne (by omega), upd_ne (by omega)]
    · rw [ho14 i hif]
  · by_cases hil : i = l
    · subst hil
      exact ⟨m - 1, Rw_drop hm (by omega) h0 hh d3 d5 e2l (Stay.of ho15)⟩
    · obtain ⟨mi, hi2⟩ := jR i hi
      obtain ⟨y3, y4, y5, y6, y2⟩ := bo i hil
      refine ⟨mi, Rw_same hi2 (Nat.le_refl _) (by omega) (by rw [y3]) (by rw [y4]) (by rw [y5]) (by rw [y6]) (by rw [y2]) (by rw [y2]; exact id) fun u hu h1 h5 => ?_⟩
      have huv : u ≠ v := by
        rintro rfl
        rw [hs5, nI_eq (by omega) (by omega)] at h5
        exact hil h5.symm
      rw [ho15 u huv]
      exact ⟨h1, h5, rfl⟩
  · obtain ⟨mi, hi2⟩ := jW i hi
    refine ⟨mi, Wt_same hi2 (by omega) (by rw [b12]) (by rw [b13]) fun j u hj _ hju h3 => ?_⟩
    have huv : u ≠ v := by
      rintro rfl
      rw [hs1] at h3
      exact absurd h3 (by decide)
    rw [ho15 u huv]
    exact h3
  · by_cases huv : u = v
    · subst huv
      exact V1
    · exact Veh_same (jV u (by omega)) (Nat.le_refl _) (ho15 u huv) (by rw [b16]) (by rw [b30])
  · have s3 := sN_inc (g := fun i => (a 3 i 0).toNatClampNeg) (h := fun i => (b 3 i 0).toNatClampNeg) nl hl (fun i _ hi => by show (b 3 i 0).toNatClampNeg = _; rw [(bo i hi).1])
    have s7 := sN_inc (g := fun i => (a 14 i 7).toNatClampNeg) (h := fun i => (b 14 i 7).toNatClampNeg) nf hf (fun i _ hi => by show (b 14 i 7).toNatClampNeg = _; rw [ho14 i hi])
    have e3 : (b 3 l 0).toNatClampNeg = m - 1 := by rw [d3.1, nI_clamp (by omega)]
    have e7 : (a 14 f 7).toNatClampNeg = ar := by rw [y2, nI_clamp (by omega)]
    have e7b : (b 14 f 7).toNatClampNeg = ar + 1 := by
      rw [hf14]
      show (a 14 f 7 + 1).toNatClampNeg = _
      rw [y2, nI_1, nI_clamp (by omega)]
    have s6 : sN (fun i => (b 14 i 6).toNatClampNeg) nf = sN (fun i => (a 14 i 6).toNatClampNeg) nf := sN_congr nf fun i _ => by show (b 14 i 6).toNatClampNeg = _; rw [(hb6 i).1]
    have s8 : sN (fun i => (b 14 i 8).toNatClampNeg) nf = sN (fun i => (a 14 i 8).toNatClampNeg) nf := sN_congr nf fun i _ => by show (b 14 i 8).toNatClampNeg = _; rw [(hb6 i).2]
    unfold Cnt
    rw [hV, b12, q0, q3, b0, upd_ne (by decide), upd_eq, c8, show (1 : Int32) = nI 1 from rfl, pk_sub (by omega)]
    exact ⟨c4, c5, c6, by omega, by congr 1; omega, by rw [s6]; exact c9, by omega, by rw [s8]; exact c11⟩
  · by_cases hif : i = f
    · subst hif
      refine ⟨cm, ar + 1, gu, x + tp, dd + dl, by rw [(hb6 i).1]; exact y1, ?_, by rw [(hb6 i).2]; exact y3, ?_, ?_, y6, by omega, y8, by omega, by omega, fun h => by omega⟩
      · rw [hf14]
        show a 14 i 7 + 1 = _
        rw [y2, nI_1]
      · rw [hf14]
        show a 14 i 9 + nI tp = _
        rw [y4, nI_add]
      · rw [hf14]
        show a 14 i 10 + nI dl = _
        rw [y5, nI_add]
    · exact Flw_same (jF i hi) (Nat.le_refl _) fun q _ => by rw [ho14 i hif]
  · have huv : u ≠ v := by
      rintro rfl
      rw [hs1] at h2
      exact absurd h2 (by decide)
    rw [ho15 u huv]
    exact h2
end MOVE2

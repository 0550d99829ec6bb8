/-! a trial and the thing itself: flows, a tick -/
section ALF
variable {a b a' b' : St} {i v V f : Nat}
theorem Sim.vn (h : Sim b a) (hv : ¬ v < nV a) (eb : ∀ F, ¬ (F = 15 ∨ F = 16) → b' F = b F) (ea : ∀ F, ¬ (F = 15 ∨ F = 16) → a' F = a F) (o : ∀ u, u ≠ v → (b' 15 u = b 15 u ∧ b' 16 u = b 16 u) ∧ a' 15 u = a 15 u ∧ a' 16 u = a 16 u) : Alk a b' a' :=
  (h.gen (C := fun F => F = 15 ∨ F = 16) eb ea (by decide) (by decide) (fun c => absurd c (by decide)) (fun c => absurd c (by decide)) (fun c => absurd c (by decide)) (fun c => absurd c (by decide)) (fun c => absurd c (by decide)) (fun c => absurd c (by decide)) (fun _ j hj => by
    have hjv : j ≠ v := fun e => hv (by rw [← e]; exact hj)
    obtain ⟨⟨o1, o2⟩, o3, o4⟩ := o j hjv
    unfold VehS
    rw [o1, o2, o3, o4]
    exact h.ve hj)).gen2 (C := fun F => F = 15 ∨ F = 16) ea (by decide) (by decide)
theorem VehS.keep (h : VehS b a v) (e1 : b' 15 v = b 15 v) (e2 : b' 16 v = b 16 v) (e3 : a' 15 v = a 15 v) (e4 : a' 16 v = a 16 v) : VehS b' a' v := by
  unfold VehS
  rw [e1, e2, e3, e4]
  exact h
theorem Sim.v15n {x y : Nat → Int32} (h : Sim b a) (hv : ¬ v < nV a) : Alk a (S2 b 15 v y) (S2 a 15 v x) :=
  h.vn hv (fun F hF => by funext j; exact S2_nf fun e => hF (Or.inl e)) (fun F hF => by funext j; exact S2_nf fun e => hF (Or.inl e)) fun u hu => ⟨⟨S2_ni hu, S2_ni hu⟩, S2_ni hu, S2_ni hu⟩
theorem Sim.plan {nx : Int32} (h : Sim b a) (hs : VehS b a v) (hv : ¬ v < nV a) : Alk a (V_plan b v nx) (V_plan a v nx) ∧ VehS (V_plan b v nx) (V_plan a v nx) v := by
  obtain ⟨⟨w, hw, h0⟩, h1, h2⟩ := id hs
  unfold V_plan
  rw [h1 11 (by decide)]
  by_cases c : 11 ≤ a 15 v 11
  · rw [if_pos c, if_pos c]
    exact ⟨h.alk, hs⟩
  · rw [if_neg c, if_neg c]
    have hw11 : w < 11 := Nat.lt_of_not_le fun h9 => c (by rw [h0]; exact nI_le (a := 11) h9 (by omega))
    constructor
    · refine h.vn hv (fun F hF => ?_) (fun F hF => ?_) fun u hu => ?_
      · funext j
        rw [S2_nf fun e => hF (Or.inl e), S2_nf fun e => hF (Or.inr e)]
      · funext j
        rw [S2_nf fun e => hF (Or.inl e), S2_nf fun e => hF (Or.inr e)]
      · refine ⟨⟨?_, ?_⟩, ?_, ?_⟩
        · rw [S2_ni hu, S2_nf (by decide)]
        · rw [S2_nf (by decide), S2_ni hu]
        · rw [S2_ni hu, S2_nf (by decide)]
        · rw [S2_nf (by decide), S2_ni hu]
    · unfold VehS
      rw [S2_eq, S2_eq, S2_nf (show 16 ≠ 15 by decide), S2_nf (show 16 ≠ 15 by decide), S2_eq, S2_eq, upd_eq, h0, nI_1, nI_clamp (by omega), nI_clamp (by omega)]
      refine ⟨⟨w + 1, by omega, rfl⟩, fun k hk => upd_c rfl (h1 k hk), fun j hj => ?_⟩
      by_cases hjw : j = w
      · rw [hjw, upd_eq, upd_eq]
      · rw [upd_ne hjw, upd_ne hjw]
        exact h2 j (by rw [h0, nI_clamp (by omega)]; omega)
theorem Sim.pway {to : Int32} : ∀ (d : Nat) (nd : Int32) {a b : St}, Sim b a → VehS b a v → ¬ v < nV a → (P_way v to d nd b).2 = (P_way v to d nd a).2 ∧ Alk a (P_way v to d nd b).1 (P_way v to d nd a).1 ∧ VehS (P_way v to d nd b).1 (P_way v to d nd a).1 v
  | 0, nd, a, b, h, hs, hv => ⟨rfl, h.alk, hs⟩
  | d + 1, nd, a, b, h, hs, hv => by
    unfold P_way
    by_cases c : nd = to
    · rw [if_pos c, if_pos c]
      exact ⟨rfl, h.alk, hs⟩
    · rw [if_neg c, if_neg c, h.first]
      by_cases hg : G_no a (G_first a nd to)
      · have hb : G_no b (G_first a nd to) := by
          rcases hg with g | g
          · exact Or.inl g
          · exact Or.inr (by rw [h.n]; exact g)
        rw [if_pos hg, if_pos hb]
        exact ⟨rfl, h.alk, hs⟩
      · have hb : ¬ G_no b (G_first a nd to) := fun g => hg (by
          rcases g with g | g
          · exact Or.inl g
          · exact Or.inr (by rw [← h.n]; exact g))
        have hk : (G_first a nd to).toNatClampNeg < nL a := idx_lt2 hg
        rw [if_neg hg, if_neg hb]
        obtain ⟨p1, p2⟩ := h.plan hs hv (nx := G_first a nd to)
        rw [p1.1.l (p1.iL hk) (show 1 < 9 by decide)]
        have hv2 : ¬ v < nV (V_plan a v (G_first a nd to)) := by
          show ¬ v < (V_plan a v (G_first a nd to) 0 0 4).toNatClampNeg
          rw [V_plan_off (by decide) (by decide)]
          exact hv
        obtain ⟨q1, q2, q3⟩ := Sim.pway d (V_plan a v (G_first a nd to) 2 (G_first a nd to).toNatClampNeg 1) p1.1 p2 hv2
        exact ⟨q1, p1.trans q2, q3⟩
theorem P_way_V {to : Int32} {d : Nat} {nd : Int32} : nV (P_way v to d nd a).1 = nV a := by
  show ((P_way v to d nd a).1 0 0 4).toNatClampNeg = _
  rw [P_way_off (by decide) (by decide)]
def Wlk (V : Nat) (a b' a' : St) : Prop := Alk a b' a' ∧ VehS b' a' V ∧ nV a' = V
theorem Sim.z0s {x y : Nat → Int32} (h : Sim b a) (e : ∀ k, k < 6 → y k = x k) (e2 : x 2 = a 0 0 2) (e3 : x 3 = a 0 0 3) (hx : (∃ V, V ≤ 200 ∧ x 4 = nI V) ∧ ∀ i, i < (x 4).toNatClampNeg → VehS b a i) : Sim (S2 b 0 0 y) (S2 a 0 0 x) := by
  obtain ⟨z, zV, n, l, r3, r5, s, w, f, v⟩ := h
  have eF : ∀ F, F ≠ 0 → S2 a 0 0 x F = a F := fun F hF => by funext i; exact S2_nf hF
  have gF : ∀ F, F ≠ 0 → S2 b 0 0 y F = b F := fun F hF => by funext i; exact S2_nf hF
  have xz : S2 a 0 0 x 0 0 = x := S2_eq
  have yz : S2 b 0 0 y 0 0 = y := S2_eq
  generalize S2 a 0 0 x = a' at eF xz ⊢
  generalize S2 b 0 0 y = b' at gF yz ⊢
  have eL : nL a' = nL a := by show (a' 1 0 0).toNatClampNeg = _; rw [eF 1 (by decide)]
  have eN : nN a' = nN a := by show (a' 0 0 2).toNatClampNeg = _; rw [xz, e2]
  have eFl : nFl a' = nFl a := by show (a' 0 0 3).toNatClampNeg = _; rw [xz, e3]
  have eV : nV a' = (x 4).toNatClampNeg := by show (a' 0 0 4).toNatClampNeg = _; rw [xz]
  obtain ⟨x1, x2⟩ := hx
  unfold VehS at x2
  unfold Sim SigS VehS
  rw [eL, eN, eFl, eV, xz, yz, eF 1 (by decide), gF 1 (by decide), eF 2 (by decide), gF 2 (by decide), eF 8 (by decide), gF 8 (by decide), eF 9 (by decide), gF 9 (by decide), eF 10 (by decide), gF 10 (by decide), eF 11 (by decide), gF 11 (by decide), eF 14 (by decide), gF 14 (by decide), eF 15 (by decide), gF 15 (by decide), eF 16 (by decide), gF 16 (by decide)]
  exact ⟨e, x1, n, l, fun i hi => (r3 i hi).off (by rw [gF 3 (by decide)]) (by rw [gF 4 (by decide)]) (by rw [eF 3 (by decide)]) (by rw [eF 4 (by decide)]), fun i hi => (r5 i hi).off (by rw [gF 5 (by decide)]) (by rw [gF 6 (by decide)]) (by rw [eF 5 (by decide)]) (by rw [eF 6 (by decide)]), s, fun i hi => (w i hi).off (by rw [gF 12 (by decide)]) (by rw [gF 13 (by decide)]) (by rw [eF 12 (by decide)]) (by rw [eF 13 (by decide)]), f, x2⟩
theorem Sim.cnt (h : Sim b a) (hs : VehS b a V) (hV : nV a = V) (h200 : V < 200) : Alk a (T_cnt b) (T_cnt a) := by
  obtain ⟨W, w1, w2⟩ := h.zV
  have hW : W = V := by
    rw [← hV]
    show W = (a 0 0 4).toNatClampNeg
    rw [w2, nI_clamp (by omega)]
  subst hW
  have e4 : upd (a 0 0) 4 (a 0 0 4 + 1) 4 = nI (W + 1) := by rw [upd_eq, w2, nI_1]
  refine ⟨h.z0s (fun k hk => upd_c (by rw [h.z (show 4 < 6 by decide)]) (h.z hk)) (upd_ne (by decide)) (upd_ne (by decide)) ⟨⟨W + 1, by omega, e4⟩, fun i hi => ?_⟩, ?_, ?_, ?_, ?_, ?_⟩
  · rw [e4, nI_clamp (by omega)] at hi
    by_cases hiW : i = W
    · rw [hiW]
      exact hs
    · exact h.ve (by omega)
  · exact congrFun (S2_nf (show 1 ≠ 0 by decide)) 0
  · unfold T_cnt
    rw [S2_eq, upd_ne (by decide)]
  · unfold T_cnt
    rw [S2_eq, upd_ne (by decide)]
  · unfold T_cnt
    rw [S2_eq, upd_ne (by decide)]
  · show nV a ≤ (T_cnt a 0 0 4).toNatClampNeg
    unfold T_cnt
    rw [S2_eq, e4, nI_clamp (by omega)]
    omega
theorem Sim.given (h : Sim b a) (hs : VehS b a V) (hV : nV a = V) : Wlk V a (T_given b V f) (T_given a V f) := by
  unfold T_given
  obtain ⟨h0, h1, h2⟩ := hs
  have k1 := h.v15n (v := V) (x := upd (a 15 V) 3 3) (y := upd (b 15 V) 3 3) (by omega)
  have s1 : VehS (S2 b 15 V (upd (b 15 V) 3 3)) (S2 a 15 V (upd (a 15 V) 3 3)) V := by
    unfold VehS
    rw [S2_eq, S2_eq, S2_nf (by decide), S2_nf (by decide), upd_ne (by decide)]
    exact ⟨h0, fun k hk => upd_c rfl (h1 k hk), h2⟩
  have n1 : nV (S2 a 15 V (upd (a 15 V) 3 3)) = V := by
    show (S2 a 15 V (upd (a 15 V) 3 3) 0 0 4).toNatClampNeg = V
    rw [S2_nf (by decide)]
    exact hV
  have ga : S2 a 15 V (upd (a 15 V) 3 3) 14 f = a 14 f := S2_nf (by decide)
  generalize S2 b 15 V (upd (b 15 V) 3 3) = b1 at k1 s1 ⊢
  generalize S2 a 15 V (upd (a 15 V) 3 3) = a1 at k1 s1 n1 ga ⊢
  have k2 : Alk a1 (S2 b1 14 f (upd (b 14 f) 8 (b 14 f 8 + 1))) (S2 a1 14 f (upd (a 14 f) 8 (a 14 f 8 + 1))) := k1.1.f14 (by rw [upd_ne (by decide), ga]) fun hi k hk => by
    rw [upd_ne (by omega), upd_ne (by omega)]
    exact h.fl (by rw [← k1.eF]; exact hi) hk
  refine ⟨k1.trans k2, s1.keep (S2_nf (by decide)) (S2_nf (by decide)) (S2_nf (by decide)) (S2_nf (by decide)), ?_⟩
  show (S2 a1 14 f (upd (a 14 f) 8 (a 14 f 8 + 1)) 0 0 4).toNatClampNeg = V
  rw [S2_nf (by decide)]
  exact n1
theorem Sim.waits (h : Sim b a) (hs : VehS b a V) (hV : nV a = V) (hf : f < nFl a) : Wlk V a (T_under (T_wait b f)) (T_under (T_wait a f)) := by
  unfold T_wait
  rw [h.fl hf (show 0 < 6 by decide), h.z (show 4 < 6 by decide)]
  have k1 := h.app12 (i := (a 14 f 0).toNatClampNeg) (x := a 0 0 4)
  have s1 : VehS (R_app 12 13 200 b (a 14 f 0).toNatClampNeg (a 0 0 4)) (R_app 12 13 200 a (a 14 f 0).toNatClampNeg (a 0 0 4)) V := hs.keep (by rw [appF 15 (by decide)]) (by rw [appF 16 (by decide)]) (by rw [appF 15 (by decide)]) (by rw [appF 16 (by decide)])
  have n1 : nV (R_app 12 13 200 a (a 14 f 0).toNatClampNeg (a 0 0 4)) = V := by
    show (R_app 12 13 200 a (a 14 f 0).toNatClampNeg (a 0 0 4) 0 0 4).toNatClampNeg = V
    rw [appF 0 (by decide)]
    exact hV
  generalize R_app 12 13 200 b (a 14 f 0).toNatClampNeg (a 0 0 4) = b1 at k1 s1 ⊢
  generalize R_app 12 13 200 a (a 14 f 0).toNatClampNeg (a 0 0 4) = a1 at k1 s1 n1 ⊢
  have k2 : Alk a1 (T_under b1) (T_under a1) := k1.1.z0 (fun k hk => upd_c (by rw [k1.1.z (show 5 < 6 by decide)]) (k1.1.z hk)) (upd_ne (by decide)) (upd_ne (by decide)) (upd_ne (by decide)) (upd_ne (by decide))
  refine ⟨k1.trans k2, s1.keep (S2_nf (by decide)) (S2_nf (by decide)) (S2_nf (by decide)) (S2_nf (by decide)), ?_⟩
  show (T_under a1 0 0 4).toNatClampNeg = V
  unfold T_under
  rw [S2_eq, upd_ne (by decide)]
  exact n1
theorem Wlk.cnt {a0 : St} (h : Wlk V a0 b a) (h200 : V < 200) : Alk a0 (T_cnt b) (T_cnt a) := h.1.trans (h.1.1.cnt h.2.1 h.2.2 h200)
theorem X_come_c {x y : Nat → Int32} {fl to kd t : Int32} : ∀ k, k < 12 → X_come y fl to kd t k = X_come x fl to kd t k
  | 0, _ => rfl
  | 1, _ => rfl
  | 2, _ => rfl
  | 3, _ => rfl
  | 4, _ => rfl
  | 5, _ => rfl
  | 6, _ => rfl
  | 7, _ => rfl
  | 8, _ => rfl
  | 9, _ => rfl
  | 10, _ => rfl
  | 11, _ => rfl
  | k + 12, h => absurd h (by omega)
theorem Sim.bring (h : Sim b a) (hf : f < nFl a) (h200 : nV a < 200) : Alk a (T_bring b f) (T_bring a f) := by
  unfold T_bring
  rw [h.z (show 4 < 6 by decide), show (a 0 0 4).toNatClampNeg = nV a from rfl]
  have g1 : Wlk (nV a) a (T_br1 b f) (T_br1 a f) := by
    unfold T_br1 V_come
    rw [h.z (show 4 < 6 by decide), h.z (show 0 < 6 by decide), h.fl hf (show 1 < 6 by decide), h.fl hf (show 2 < 6 by decide), show (a 0 0 4).toNatClampNeg = nV a from rfl]
    refine ⟨h.v15n (Nat.lt_irrefl _), ?_, ?_⟩
    · unfold VehS
      rw [S2_eq, S2_eq, S2_nf (by decide), S2_nf (by decide)]
      exact ⟨⟨0, by omega, rfl⟩, X_come_c, fun j hj => absurd hj (Nat.not_lt_zero j)⟩
    · show (S2 a 15 (nV a) _ 0 0 4).toNatClampNeg = nV a
      rw [S2_nf (by decide)]
  generalize hVe : nV a = V at g1 h200 ⊢
  have hf1 := g1.1.iF hf
  generalize T_br1 b f = b1 at g1 ⊢
  generalize T_br1 a f = a1 at g1 hf1 ⊢
  obtain ⟨k1, s1, n1⟩ := g1
  have k2 : Alk a1 (T_br2 b1 f) (T_br2 a1 f) := k1.1.f14 (upd_ne (by decide)) fun hi k hk => by
    rw [upd_ne (by omega), upd_ne (by omega)]
    exact k1.1.fl hi hk
  have s2 : VehS (T_br2 b1 f) (T_br2 a1 f) V := s1.keep (S2_nf (by decide)) (S2_nf (by decide)) (S2_nf (by decide)) (S2_nf (by decide))
  have n2 : nV (T_br2 a1 f) = V := by
    show (T_br2 a1 f 0 0 4).toNatClampNeg = V
    unfold T_br2
    rw [S2_nf (by decide)]
    exact n1
  have k3 := k1.trans k2
  have hf2 := k2.iF hf1
  generalize T_br2 b1 f = b2 at k3 s2 ⊢
  generalize T_br2 a1 f = a2 at k3 s2 n2 hf2 ⊢
  refine k3.trans ?_
  unfold T_br3
  rw [k3.1.fl hf2 (show 2 < 6 by decide), k3.1.fl hf2 (show 0 < 6 by decide), s2.2.1 1 (by decide)]
  by_cases hk : a2 14 f 2 = 0
  · rw [if_pos hk, if_pos hk]
    obtain ⟨p1, p2, p3⟩ := Sim.pway (to := a2 15 V 1) 12 (a2 14 f 0) k3.1 s2 (by omega)
    have p4 : nV (P_way V (a2 15 V 1) 12 (a2 14 f 0) a2).1 = V := P_way_V.trans n2
    rw [p1]
    by_cases hc : (P_way V (a2 15 V 1) 12 (a2 14 f 0) a2).2 = 0
    · rw [if_pos hc, if_pos hc]
      exact p2.trans ((p2.1.given p3 p4).cnt h200)
    · rw [if_neg hc, if_neg hc]
      exact p2.trans ((p2.1.waits p3 p4 (p2.iF hf2)).cnt h200)
  · rw [if_neg hk, if_neg hk]
    exact (k3.1.waits s2 n2 hf2).cnt h200
theorem Sim.flow (h : Sim b a) (hf : f < nFl a) : Alk a (T_flow f b) (T_flow f a) := by
  have hb : F_brings (b 14 f) (b 0 0 0) = F_brings (a 14 f) (a 0 0 0) := by
    unfold F_brings
    rw [h.z (show 0 < 6 by decide), h.fl hf (show 3 < 6 by decide), h.fl hf (show 4 < 6 by decide), h.fl hf (show 5 < 6 by decide)]
  unfold T_flow
  rw [hb, h.z (show 4 < 6 by decide)]
  by_cases c1 : F_brings (a 14 f) (a 0 0 0) = 0
  · rw [if_pos c1, if_pos c1]
    exact h.alk
  · rw [if_neg c1, if_neg c1]
    by_cases c2 : 200 ≤ a 0 0 4
    · rw [if_pos c2, if_pos c2]
      exact h.alk
    · rw [if_neg c2, if_neg c2]
      refine h.bring hf ?_
      obtain ⟨W, w1, w2⟩ := h.zV
      show (a 0 0 4).toNatClampNeg < 200
      rw [w2] at c2 ⊢
      rw [nI_clamp (by omega)]
      exact Nat.lt_of_not_le fun hc => c2 (nI_le (a := 200) hc (by omega))
theorem Sim.flows (h : Sim b a) : Alk a (T_flows b) (T_flows a) := by
  unfold T_flows
  rw [h.eF]
  refine h.loop (g := T_flow) (N := nFl a) (fun i c d hi hcd _ _ eF _ => ?_) _ (Nat.le_refl _)
  exact hcd.flow (by rw [eF]; exact hi)
theorem Sim.clock (h : Sim b a) : Sim (T_clock b) (T_clock a) := by
  refine h.z0s (fun k hk => upd_c (by rw [h.z (show 0 < 6 by decide)]) (h.z hk)) (upd_ne (by decide)) (upd_ne (by decide)) ?_
  rw [upd_ne (by decide)]
  exact ⟨h.zV, fun i hi => h.ve hi⟩
theorem Sim.tick {ck nl : Nat} (h : Sim b a) (hc : a 0 0 0 = nI ck) (hck : ck ≤ 2000) (hn : a 1 0 0 = nI nl) (hn1 : 1 ≤ nl) (hnl : nl ≤ 24) : Sim (T_tick b) (T_tick a) := by
  have s1 := h.slows
  have s2 := s1.trans s1.1.costs
  have s3 := s2.trans s2.1.flows
  have s4 := s3.trans s3.1.sigs
  have s5 := s4.trans (s4.1.links (s4.2.2.1.trans hc) hck (s4.2.1.trans hn) hn1 hnl)
  have s6 := s5.trans s5.1.nodes
  unfold T_tick T_play
  rw [s6.1.z (show 0 < 6 by decide)]
  exact (s6.1.cqs _).1.clock
end ALF

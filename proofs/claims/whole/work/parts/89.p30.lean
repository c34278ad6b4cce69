/-! ===== lines told and laid, on both sides ===== -/
section LINES
variable {l : Launch} {D : va_G} {B X i ng nt ns mem nth sc nl nl' F P g0 ga la z i1 : Nat} {N N' : NT} {I I1 : MI} {L L1 : ML} {r r' : MI} {rl rl' : ML} {n n' : Nat → Int32} {q q' : Nat → Int64} {S S' : Int64} {k k' : MI} {kl kl' : ML} {LA LA' : Nat → Nat} {x y w v : Int32}
theorem CS.oth (h : CS r nt ns mem nth i k kl n q) (hst : ¬ n 246 = nI 1) (h2 : r' 0 2 = r 0 2) (h6 : r' 6 = r 6) : CS r' nt ns mem nth (i + 1) k kl n q := by
  obtain ⟨⟨h1, h3, h4, h5⟩, hc⟩ := h
  refine ⟨⟨h1.trans h2.symm, h3, h4, h5⟩, ?_⟩
  rcases hc with ⟨a1, a2, ⟨f1, ⟨f2, f3, f4, f5⟩, f6⟩, a4⟩ | ⟨a1, -⟩ | ⟨a1, o1, o2, o3, o4⟩
  · exact Or.inl ⟨a1, a2, ⟨f1, ⟨by rw [h2]; exact f2, f3, f4, f5⟩, f6⟩, a4⟩
  · exact absurd a1 hst
  · exact Or.inr (Or.inr ⟨a1, o1, h1.trans h2.symm, fun t ht h23 hs => o3 t ht (by rw [h6] at h23; exact h23) hs, o4⟩)
/-- a place of a grid is set -/
theorem GV.place (h : GV X i ng nt ns mem nth sc nl N I L r rl n q S k kl LA) (hZ : Zr N I L) (hst : ¬ n 246 = nI 1) (hi : i ≤ 1000) (hg : g0 < ng) (x1 : GrA N (X + 1) g0 ga la z) (hi1 : i1 < z) (hN : Gww N N' la i1) (hI : ∀ u, u < N.2.2 → I1 u = I u) (hnn : nl ≤ nl') (hn2 : nl' ≤ 12 * ng + (i + 1)) (hLA : ∀ u, u < nl → LA' u = LA u) (hLm : ∀ u u', u < u' → u' < nl' → LA' u + 1 < LA' u') (hLb : ∀ u, u < nl' → X + 137 ≤ LA' u ∧ LA' u + 1 < N'.2.2 ∧ N'.2.1 (LA' u) = (3, 2)) (hr0 : ∀ f, f ≠ 7 → r' 0 f = r 0 f) (hr7 : r' 0 7 = nI nl') (hr3 : ∀ j, j ≠ 20 * g0 + i1 → r' 3 j = r 3 j) (hr4 : ∀ u, u < nl → r' 4 u = r 4 u) (hro : ∀ o, o ≠ 0 → o ≠ 3 → o ≠ 4 → r' o = r o)
    (hLn : LnR N' (RI (X + 111) r' n I1) L r' rl (X + 137) la g0 i1) (hLi : ∀ p, N'.1 la i1 = some p → N'.1 p 1 = some (p + 1) ∧ ∃ u, u < nl' ∧ r' 3 (20 * g0 + i1) = nI u ∧ LA' u = p) : RI (X + 111) r n I1 = I1 ∧ GV X (i + 1) ng nt ns mem nth sc nl' N' (RI (X + 111) r' n I1) L r' rl n q S k kl LA' := by
  have h' := h
  obtain ⟨⟨hA, hF, hsz⟩, ⟨⟨v1, v2⟩, v3, v4⟩, ⟨t1, t2, t3, t4, t5, t6, t7⟩, ⟨⟨g1, g2⟩, ⟨g3, g4⟩, g5, ⟨g6, g6'⟩, g7⟩, hAU, ⟨s1, s2, s3, s4⟩, ⟨hLN, hnl⟩, hC⟩ := h
  have hLN' := hLN
  obtain ⟨l1, l2, l3, l4, l5, l6⟩ := hLN
  have hz := x1.2.2.2.2
  have he : 14 ≤ (N.2.1 la).1 := by rw [x1.2.2.2.1]; show 14 ≤ 16; omega
  have hla := hZ.lt x1.2.2.2.1 (by omega)
  obtain ⟨ga0, la0, z0, y1, y2, y3, -⟩ := t5 g0 hg
  have eg0 : ga0 = ga := Option.some.inj (y1.1.symm.trans x1.1)
  subst eg0
  have el0 : la0 = la := Option.some.inj (y1.2.2.1.symm.trans x1.2.2.1)
  subst el0
  have elg : la0 = ga0 + 1 := Option.some.inj (x1.2.2.1.symm.trans (l5 g0 ga0 hg x1.1).1)
  -- other grids have other rows of lines
  have other : ∀ g gb lb zb, g < ng → GrA N (X + 1) g gb lb zb → lb = la0 → g = g0 := fun g gb lb zb hg' hb e => by
    have e1 : lb = gb + 1 := Option.some.inj (hb.2.2.1.symm.trans (l5 g gb hg' hb.1).1)
    rcases Nat.lt_trichotomy g g0 with c | c | c
    · have := l4 g g0 gb ga0 c hg hb.1 x1.1; omega
    · exact c
    · have := l4 g0 g ga0 gb c hg' x1.1 hb.1; omega
  have o1 : ∀ u, ¬ (X + 111 ≤ u ∧ u < X + 137) → RI (X + 111) r' n I1 u = I1 u := fun u hu => pt_out (by omega)
  have oo : ∀ u, ¬ (X + 111 ≤ u ∧ u < X + 137) → u < N.2.2 → RI (X + 111) r' n I1 u = I u := fun u hu h2 => by rw [o1 u hu, hI u h2]
  have e3 : r' 0 2 = r 0 2 := hr0 2 (by omega)
  refine ⟨?_, ⟨hA.grow hsz hN (by omega) (by omega) (by omega), hF.grow hsz hN (by omega), by have := hN.1; omega⟩, ⟨⟨pt_pt, v2⟩, ?_, v4⟩, ⟨⟨(hA.grow hsz hN (by omega) (by omega) (by omega)).2.1, t1.2⟩, ⟨by rw [oo _ (by omega) (by omega)]; exact t2.1, t2.2.1, (hr0 10 (by omega)).trans t2.2.2⟩, ⟨by rw [oo _ (by omega) (by omega)]; exact t3.1, t3.2.1, (hr0 20 (by omega)).trans t3.2.2⟩, ⟨t4.1, e3.trans t4.2.1, t4.2.2⟩, fun g hg' => ?_, fun s hs => ?_, fun t ht => ?_⟩, ⟨⟨by rw [oo _ (by omega) (by omega)]; exact g1, (hr0 3 (by omega)).trans g2⟩, ⟨by rw [oo _ (by omega) (by omega)]; exact g3, by rw [oo _ (by omega) (by omega)]; exact g4⟩, (hr0 1 (by omega)).trans g5, ⟨g6, g6'⟩, (hr0 0 (by omega)).trans g7⟩, ?_, ⟨by rw [oo _ (by omega) (by omega)]; exact s1, (hr0 25 (by omega)).trans s2, s3, fun j hj => ?_⟩, ⟨⟨⟨hr7, fun u hu => l1.2 u (by omega)⟩, hLm, hLb, fun g g' gb gb' h1 h2 h3 h4 => ?_, fun g gb h1 h2 => ?_, fun g gb j p h1 h0 h2 h3 => ?_⟩, hn2⟩, hC.oth hst e3 (hro 6 (by omega) (by omega) (by omega))⟩
  · funext u
    by_cases e : X + 111 ≤ u ∧ u < X + 111 + 26
    · have eu := congrFun v1 u
      rw [hI u (by omega), ← eu]
      show pt _ _ _ _ u = pt _ _ _ _ u
      unfold pt
      rw [if_pos e, if_pos e]
    · exact pt_out (by omega)
  · funext u
    by_cases e : X + 6 ≤ u ∧ u < X + 6 + 35
    · have eu := congrFun v3 u
      rw [oo u (by omega) (by omega), ← eu]
      show pt _ _ _ _ u = pt _ _ _ _ u
      unfold pt
      rw [if_pos e, if_pos e]
    · exact pt_out (by omega)
  · obtain ⟨gb, lb, zb, c1, c2, c3, c4, c5, c6, c7⟩ := t5 g hg'
    have hlb := hZ.lt c1.2.2.2.1 (by omega)
    have hzb := c1.2.2.2.2
    refine ⟨gb, lb, zb, c1.grow hZ hN he (by omega) (by omega), c2, c3, ?_, by rw [hro 1 (by omega) (by omega) (by omega)]; exact c5, by rw [hro 2 (by omega) (by omega) (by omega)]; exact c6, fun i2 hi2 => ?_⟩
    · rw [oo gb (by omega) (hZ.lt c1.2.1 (by omega)), hro 1 (by omega) (by omega) (by omega)]; exact c4
    · by_cases e : lb = la0 ∧ i2 = i1
      · obtain ⟨e1, e2⟩ := e
        have e3 := other g gb lb zb hg' c1 e1
        subst e1 e2 e3
        exact hLn
      · have hne : 20 * g + i2 ≠ 20 * g0 + i1 := fun y => by
          have eg : g = g0 := by omega
          have ei : i2 = i1 := by omega
          subst eg
          have egb : gb = ga0 := Option.some.inj (c1.1.symm.trans x1.1)
          subst egb
          exact e ⟨Option.some.inj (c1.2.2.1.symm.trans x1.2.2.1), ei⟩
        have hL2 := c7 i2 hi2
        refine hL2.grow hZ hN he hlb e (fun u a1 a2 => oo u (by omega) a2) (fun _ _ _ => rfl) (by rw [hro 1 (by omega) (by omega) (by omega)]) (hr3 _ hne) (fun u p d1 d2 d3 => ⟨hr4 u ?_, fun _ _ => rfl⟩)
        rcases hL2 with ⟨w1, -⟩ | ⟨p', np, m, u', w1, -, -, w4, w5, -⟩
        · rw [w1] at d1; exact absurd d1 (by simp)
        · have eu : u = u' := nI_eq_of (d3.symm.trans w4) (by omega) (by omega)
          subst eu
          exact (hLN'.at (by omega) hg' c1 w1 w4 (by omega) (by omega)).2.2.1
  · exact (t6 s hs).grow hZ hN he (by omega) (by omega) (fun g hg => by omega) (Nat.le_refl _) (fun u a1 a2 => oo u (by omega) a2) (fun _ _ _ => rfl) ⟨by rw [hro 15 (by omega) (by omega) (by omega)], by rw [hro 16 (by omega) (by omega) (by omega)], by rw [hro 17 (by omega) (by omega) (by omega)], rfl⟩
  · exact (t7 t ht).grow hZ hN he (by omega) (by omega) (fun g hg => by omega) (fun s hs => by omega) (Nat.le_refl _) (Nat.le_refl _) (fun u a1 a2 => oo u (by omega) a2) (fun _ _ _ => rfl) (fun o b1 b2 => by rw [hro o (by omega) (by omega) (by omega)]; exact ⟨rfl, rfl⟩)
  · unfold AU
    rw [oo _ (by omega) (by omega), oo _ (by omega) (by omega), e3]
    exact hAU
  · rw [oo _ (by omega) (by omega), hro 19 (by omega) (by omega) (by omega)]; exact s4 j hj
  · rw [hN.2.2 _ _ (by omega) (by omega)] at h3 h4
    exact l4 g g' gb gb' h1 h2 h3 h4
  · rw [hN.2.2 _ _ (by omega) (by omega)] at h2
    obtain ⟨d1, d2⟩ := l5 g gb h1 h2
    obtain ⟨gb', lb, zb, c1, c2, -⟩ := t5 g h1
    have eg : gb' = gb := Option.some.inj (c1.1.symm.trans h2)
    subst eg
    exact ⟨by rw [(hN.obj hZ he c1.2.1 (by omega)).2.1]; exact d1, by have := hN.1; omega⟩
  · rw [hN.2.2 _ _ (by omega) (by omega)] at h2
    obtain ⟨gb', lb, zb, c1, c2, -, -, -, -, c7⟩ := t5 g h1
    have eg : gb' = gb := Option.some.inj (c1.1.symm.trans h2)
    subst eg
    obtain ⟨d1, d2⟩ := l5 g gb' h1 h2
    have elb : lb = gb' + 1 := Option.some.inj (c1.2.2.1.symm.trans d1)
    by_cases e : gb' + 1 = la0 ∧ j = i1
    · obtain ⟨e1, e2⟩ := e
      have e3 := other g gb' lb zb h1 c1 (by omega)
      subst e2 e3
      rw [e1] at h3
      exact hLi p h3
    · rw [hN.2.2 _ _ d2 e] at h3
      obtain ⟨w1, u, w2, w3, w4⟩ := l6 g gb' j p h1 h0 h2 h3
      have hp := l3 u w2
      have hp2 := hp.2.1
      have hne : 20 * g + j ≠ 20 * g0 + i1 := fun y => by
        have eg : g = g0 := by omega
        have ei : j = i1 := by omega
        subst eg
        have egb : gb' = ga0 := Option.some.inj (c1.1.symm.trans x1.1)
        subst egb
        exact e ⟨elg.symm, ei⟩
      refine ⟨?_, u, by omega, by rw [hr3 _ hne]; exact w3, by rw [hLA u w2]; exact w4⟩
      by_cases ep : p = la0
      · -- a line is no row of lines
        have q1 := hp.2.2
        rw [w4, ep, x1.2.2.2.1] at q1
        exact absurd (congrArg Prod.fst q1) (by simp)
      · rw [hN.2.2 p 1 (by omega) (fun y => ep y.1)]; exact w1
end LINES

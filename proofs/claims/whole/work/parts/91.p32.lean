/-! ===== grids told, on both sides ===== -/
section GRID
variable {l : Launch} {D : va_G} {B X i ng nt ns mem nth sc nl nl' F P g0 ga la z i1 w : Nat} {N N' : NT} {I I1 : MI} {L L1 : ML} {r r' : MI} {rl rl' : ML} {n n' : Nat → Int32} {q q' : Nat → Int64} {S S' : Int64} {k k' : MI} {kl kl' : ML} {LA LA' : Nat → Nat} {x y v : Int32}
theorem GV.grid (h : GV X i ng nt ns mem nth sc nl N I L r rl n q S k kl LA) (hZ : Zr N I L) (hst : ¬ n 246 = nI 1) (hi : i ≤ 1000) (hng2 : ng < 6) (hN : Gww N N' (X + 2) ng) (hNn : N'.1 (X + 2) ng = some N.2.2) (hI : ∀ u, u < N.2.2 → u ≠ X + 1 → I1 u = I u) (hI2 : ∀ f, f ≠ 4 → I1 (X + 1) f = I (X + 1) f) (hI4 : I1 (X + 1) 4 = nI (ng + 1)) (hnn : nl ≤ nl') (hn2 : nl' ≤ 12 * (ng + 1) + (i + 1)) (hLA : ∀ u, u < nl → LA' u = LA u) (hLm : ∀ u u', u < u' → u' < nl' → LA' u + 1 < LA' u') (hLb : ∀ u, u < nl' → X + 137 ≤ LA' u ∧ LA' u + 1 < N'.2.2 ∧ N'.2.1 (LA' u) = (3, 2)) (hr0 : ∀ f, f ≠ 7 → f ≠ 3 → r' 0 f = r 0 f) (hr03 : r' 0 3 = nI (ng + 1)) (hr7 : r' 0 7 = nI nl') (hr12 : ∀ j, j ≠ ng → r' 1 j = r 1 j ∧ r' 2 j = r 2 j) (hr3 : ∀ j, j < 20 * ng → r' 3 j = r 3 j) (hr4 : ∀ u, u < nl → r' 4 u = r 4 u) (hro : ∀ o, 5 ≤ o → r' o = r o)
    (hGr : GrR N' (RI (X + 111) r' n I1) L r' rl (X + 137) (X + 1) ng) (hGa : N'.1 N.2.2 1 = some (N.2.2 + 1) ∧ N.2.2 + 1 < N'.2.2) (hLi : ∀ j p, j < 20 → N'.1 (N.2.2 + 1) j = some p → N'.1 p 1 = some (p + 1) ∧ ∃ u, u < nl' ∧ r' 3 (20 * ng + j) = nI u ∧ LA' u = p) : RI (X + 111) r n I1 = I1 ∧ GV X (i + 1) (ng + 1) nt ns mem nth sc nl' N' (RI (X + 111) r' n I1) L r' rl n q S k kl LA' := by
  have h' := h
  obtain ⟨⟨hA, hF, hsz⟩, ⟨⟨v1, v2⟩, v3, v4⟩, ⟨t1, t2, t3, t4, t5, t6, t7⟩, ⟨⟨g1, g2⟩, ⟨g3, g4⟩, g5, ⟨g6, g6'⟩, g7⟩, hAU, ⟨s1, s2, s3, s4⟩, ⟨hLN, hnl⟩, hC⟩ := h
  have hLN' := hLN
  obtain ⟨l1, l2, l3, l4, l5, l6⟩ := hLN
  have he : 14 ≤ (N.2.1 (X + 2)).1 := by
    have e : N.2.1 (X + 2) = (14, 6) := t1.1.2.2.2.2.2.1
    rw [e]; decide
  have o1 : ∀ u, ¬ (X + 111 ≤ u ∧ u < X + 137) → RI (X + 111) r' n I1 u = I1 u := fun u hu => pt_out (by omega)
  have oo : ∀ u, ¬ (X + 111 ≤ u ∧ u < X + 137) → u < N.2.2 → u ≠ X + 1 → RI (X + 111) r' n I1 u = I u := fun u hu h2 h3 => by rw [o1 u hu, hI u h2 h3]
  have oP : ∀ f, f ≠ 4 → RI (X + 111) r' n I1 (X + 1) f = I (X + 1) f := fun f hf => by rw [o1 _ (by omega), hI2 f hf]
  have e3 : r' 0 2 = r 0 2 := hr0 2 (by omega) (by omega)
  refine ⟨?_, ⟨hA.grow hsz hN (by omega) (by omega) (by omega), hF.grow hsz hN (by omega), by have := hN.1; omega⟩, ⟨⟨pt_pt, v2⟩, ?_, v4⟩, ⟨⟨(hA.grow hsz hN (by omega) (by omega) (by omega)).2.1, t1.2⟩, ⟨(oP 5 (by omega)).trans t2.1, t2.2.1, (hr0 10 (by omega) (by omega)).trans t2.2.2⟩, ⟨(oP 6 (by omega)).trans t3.1, t3.2.1, (hr0 20 (by omega) (by omega)).trans t3.2.2⟩, ⟨by omega, e3.trans t4.2.1, t4.2.2⟩, fun g hg' => ?_, fun s hs => ?_, fun t ht => ?_⟩, ⟨⟨by rw [o1 _ (by omega)]; exact hI4, hr03⟩, ⟨by rw [oo _ (by omega) (by omega) (by omega)]; exact g3, by rw [oo _ (by omega) (by omega) (by omega)]; exact g4⟩, (hr0 1 (by omega) (by omega)).trans g5, ⟨g6, g6'⟩, (hr0 0 (by omega) (by omega)).trans g7⟩, ?_, ⟨(oP 7 (by omega)).trans s1, (hr0 25 (by omega) (by omega)).trans s2, s3, fun j hj => ?_⟩, ⟨⟨⟨hr7, fun u hu => l1.2 u (by omega)⟩, hLm, hLb, fun g g' gb gb' h1 h2 h3 h4 => ?_, fun g gb h1 h2 => ?_, fun g gb j p h1 h0 h2 h3 => ?_⟩, hn2⟩, hC.oth hst e3 (hro 6 (by omega))⟩
  · funext u
    by_cases e : X + 111 ≤ u ∧ u < X + 111 + 26
    · have eu := congrFun v1 u
      rw [hI u (by omega) (by omega), ← eu]
      show pt _ _ _ _ u = pt _ _ _ _ u
      unfold pt
      rw [if_pos e, if_pos e]
    · exact pt_out (by omega)
  · funext u
    by_cases e : X + 6 ≤ u ∧ u < X + 6 + 35
    · have eu := congrFun v3 u
      rw [oo u (by omega) (by omega) (by omega), ← eu]
      show pt _ _ _ _ u = pt _ _ _ _ u
      unfold pt
      rw [if_pos e, if_pos e]
    · exact pt_out (by omega)
  · by_cases eg : g = ng
    · subst eg; exact hGr
    · obtain ⟨gb, lb, zb, c1, c2, c3, c4, c5, c6, c7⟩ := t5 g (by omega)
      have hlb := hZ.lt c1.2.2.2.1 (by omega)
      have hzb := c1.2.2.2.2
      obtain ⟨d1, d2⟩ := hr12 g eg
      refine ⟨gb, lb, zb, c1.grow hZ hN he (by omega) (by omega), c2, c3, ?_, by rw [d1]; exact c5, by rw [d2]; exact c6, fun i2 hi2 => ?_⟩
      · rw [oo gb (by omega) (hZ.lt c1.2.1 (by omega)) (by omega), d1]; exact c4
      · have hL2 := c7 i2 hi2
        refine hL2.grow hZ hN he hlb (by omega) (fun u a1 a2 => oo u (by omega) a2 (by omega)) (fun _ _ _ => rfl) d1 (hr3 _ (by omega)) (fun u p d1 d2 d3 => ⟨hr4 u ?_, fun _ _ => rfl⟩)
        rcases hL2 with ⟨w1, -⟩ | ⟨p', np, m, u', w1, -, -, w4, w5, -⟩
        · rw [w1] at d1; exact absurd d1 (by simp)
        · have eu : u = u' := nI_eq_of (d3.symm.trans w4) (by omega) (by omega)
          subst eu
          exact (hLN'.at (by omega) (show g < ng by omega) c1 w1 w4 (by omega) (by omega)).2.2.1
  · exact (t6 s hs).grow hZ hN he (by omega) (by omega) (fun g hg => by omega) (by omega) (fun u a1 a2 => oo u (by omega) a2 (by omega)) (fun _ _ _ => rfl) ⟨by rw [hro 15 (by omega)], by rw [hro 16 (by omega)], by rw [hro 17 (by omega)], rfl⟩
  · exact (t7 t ht).grow hZ hN he (by omega) (by omega) (fun g hg => by omega) (fun s hs => by omega) (by omega) (Nat.le_refl _) (fun u a1 a2 => oo u (by omega) a2 (by omega)) (fun _ _ _ => rfl) (fun o b1 b2 => by rw [hro o (by omega)]; exact ⟨rfl, rfl⟩)
  · unfold AU
    rw [oo _ (by omega) (by omega) (by omega), oo _ (by omega) (by omega) (by omega), e3]
    exact hAU
  · rw [oo _ (by omega) (by omega) (by omega), hro 19 (by omega)]; exact s4 j hj
  · rw [hN.2.2 _ _ (by omega) (by omega)] at h3
    by_cases e : g' = ng
    · subst e
      have e2 : N.2.2 = gb' := Option.some.inj (hNn.symm.trans h4)
      have := (l5 g gb h1 h3).2
      omega
    · rw [hN.2.2 _ _ (by omega) (by omega)] at h4
      exact l4 g g' gb gb' h1 (by omega) h3 h4
  · by_cases e : g = ng
    · subst e
      have e2 : N.2.2 = gb := Option.some.inj (hNn.symm.trans h2)
      subst e2
      exact hGa
    · rw [hN.2.2 _ _ (by omega) (by omega)] at h2
      obtain ⟨d1, d2⟩ := l5 g gb (by omega) h2
      obtain ⟨gb', lb, zb, c1, c2, -⟩ := t5 g (by omega)
      have eg : gb' = gb := Option.some.inj (c1.1.symm.trans h2)
      subst eg
      exact ⟨by rw [(hN.obj hZ he c1.2.1 (by omega)).2.1]; exact d1, by have := hN.1; omega⟩
  · by_cases e : g = ng
    · subst e
      have e2 : N.2.2 = gb := Option.some.inj (hNn.symm.trans h2)
      subst e2
      exact hLi j p h0 h3
    · rw [hN.2.2 _ _ (by omega) (by omega)] at h2
      obtain ⟨gb', lb, zb, c1, c2, -, -, -, -, c7⟩ := t5 g (by omega)
      have eg : gb' = gb := Option.some.inj (c1.1.symm.trans h2)
      subst eg
      obtain ⟨d1, d2⟩ := l5 g gb' (by omega) h2
      rw [hN.2.2 _ _ d2 (by omega)] at h3
      obtain ⟨w1, u, w2, w3, w4⟩ := l6 g gb' j p (by omega) h0 h2 h3
      have hp := l3 u w2
      have hp2 := hp.2.1
      refine ⟨?_, u, by omega, by rw [hr3 _ (by omega)]; exact w3, by rw [hLA u w2]; exact w4⟩
      rw [hN.2.2 p 1 (by omega) (by omega)]; exact w1
/-- a new grid's lines -/
theorem gd_line (hw : ¬ w = 13) (hla : la < N.2.2) : ∀ (j i0 : Nat), i0 < j → (F_gdN N w la j).1 la i0 = some (N.2.2 + 2 * i0) ∧ (F_gdN N w la j).2.1 (N.2.2 + 2 * i0) = (3, 2) ∧ (F_gdN N w la j).1 (N.2.2 + 2 * i0) 1 = some (N.2.2 + 2 * i0 + 1) ∧ (F_gdN N w la j).2.1 (N.2.2 + 2 * i0 + 1) = (13, w)
  | 0, i0, h => absurd h (Nat.not_lt_zero i0)
  | j + 1, i0, h => by
    have hs := F_gdN_sz (N := N) (w := w) (la := la) j
    rw [if_neg hw] at hs
    rw [F_gdN_sw hw]
    show upd2 (nlN (F_gdN N w la j) w).1 la j _ la i0 = _ ∧ (nlN (F_gdN N w la j) w).2.1 _ = _ ∧ upd2 (nlN (F_gdN N w la j) w).1 la j _ (N.2.2 + 2 * i0) 1 = _ ∧ (nlN (F_gdN N w la j) w).2.1 _ = _
    rw [upd2_row, upd2_ne (show N.2.2 + 2 * i0 ≠ la by omega)]
    by_cases e : i0 = j
    · subst e
      rw [up_s, ← hs]
      exact ⟨rfl, nlN_new, nlN_r, nlN_num⟩
    · obtain ⟨a1, a2, a3, a4⟩ := gd_line hw hla j i0 (by omega)
      rw [up_ne e, nlN_rf (by omega), nlN_sh (by omega), nlN_rf (by omega), nlN_sh (by omega)]
      exact ⟨a1, a2, a3, a4⟩
theorem gd_out (hla : la < N.2.2) : ∀ (j i0 : Nat), j ≤ i0 → (F_gdN N w la j).1 la i0 = N.1 la i0
  | 0, _, _ => rfl
  | j + 1, i0, h => by
    have hs := F_gdN_ge (N := N) (w := w) (la := la) j
    by_cases hw : w = 13
    · rw [F_gdN_s13 hw]
      show upd2 (F_gdN N w la j).1 la j none la i0 = _
      rw [upd2_row, up_ne (by omega)]; exact gd_out hla j i0 (by omega)
    · rw [F_gdN_sw hw]
      show upd2 (nlN (F_gdN N w la j) w).1 la j _ la i0 = _
      rw [upd2_row, up_ne (by omega), nlN_rf (by omega)]; exact gd_out hla j i0 (by omega)
theorem gd_no (hw : w = 13) : ∀ (j i0 : Nat), i0 < j → (F_gdN N w la j).1 la i0 = none
  | 0, i0, h => absurd h (Nat.not_lt_zero i0)
  | j + 1, i0, h => by
    rw [F_gdN_s13 hw]
    show upd2 (F_gdN N w la j).1 la j none la i0 = _
    rw [upd2_row]
    by_cases e : i0 = j
    · subst e; exact up_s _ _ _
    · rw [up_ne e]; exact gd_no hw j i0 (by omega)
theorem gd_I (hw : ¬ w = 13) {kd : Int32} : ∀ (j i0 : Nat), i0 < j → F_gdI I kd N w la j (N.2.2 + 2 * i0) 0 = kd
  | 0, i0, h => absurd h (Nat.not_lt_zero i0)
  | j + 1, i0, h => by
    have hs := F_gdN_sz (N := N) (w := w) (la := la) j
    rw [if_neg hw] at hs
    rw [F_gdI_sw hw, hs]
    by_cases e : i0 = j
    · subst e; rw [upd2_row, up_s]
    · rw [upd2_ne (by omega)]; exact gd_I hw j i0 (by omega)
theorem grr_o {kd : Int32} {o : Nat} (ho : 5 ≤ o) : ∀ j, F_gr r ng nl w kd z j o = r o
  | 0 => by show upd2 (upd2 r 1 ng kd) 2 ng (nI z) o = r o; rw [upd2_ne (by omega), upd2_ne (by omega)]
  | j + 1 => by
    rw [F_gr_s]
    split
    · rw [upd2_ne (by omega)]; exact grr_o ho j
    · rw [upd2_ne (by omega), upd2_ne (by omega), upd2_ne (by omega)]; exact grr_o ho j
theorem grr_12 {kd : Int32} : ∀ j, F_gr r ng nl w kd z j 1 = up (r 1) ng kd ∧ F_gr r ng nl w kd z j 2 = up (r 2) ng (nI z)
  | 0 => ⟨by show upd2 (upd2 r 1 ng kd) 2 ng (nI z) 1 = _; rw [upd2_ne (by omega), upd2_row], by show upd2 (upd2 r 1 ng kd) 2 ng (nI z) 2 = _; rw [upd2_row, upd2_ne (by omega)]⟩
  | j + 1 => by
    rw [F_gr_s]
    split
    · rw [upd2_ne (by omega), upd2_ne (by omega)]; exact grr_12 j
    · simp (disch := omega) only [upd2_ne]; exact grr_12 j
theorem grr_0 {kd : Int32} {f : Nat} (hf : f ≠ 7) : ∀ j, F_gr r ng nl w kd z j 0 f = r 0 f
  | 0 => by show upd2 (upd2 r 1 ng kd) 2 ng (nI z) 0 f = r 0 f; rw [upd2_ne (by omega), upd2_ne (by omega)]
  | j + 1 => by
    rw [F_gr_s]
    split
    · rw [upd2_ne (by omega)]; exact grr_0 hf j
    · rw [upd2_ne (by omega), upd2_row, up_ne hf, upd2_ne (by omega)]; exact grr_0 hf j
theorem grr_07 {kd : Int32} (hw : w = 13) : ∀ j, F_gr r ng nl w kd z j 0 7 = r 0 7
  | 0 => by show upd2 (upd2 r 1 ng kd) 2 ng (nI z) 0 7 = r 0 7; rw [upd2_ne (by omega), upd2_ne (by omega)]
  | j + 1 => by
    rw [F_gr_s, if_pos hw, upd2_ne (by omega)]; exact grr_07 hw j
theorem grr_3 {kd : Int32} : ∀ j, (∀ u, u < 20 * ng → F_gr r ng nl w kd z j 3 u = r 3 u) ∧ ∀ u, u < j → F_gr r ng nl w kd z j 3 (20 * ng + u) = if w = 13 then -1 else nI (nl + u)
  | 0 => ⟨fun u _ => by show upd2 (upd2 r 1 ng kd) 2 ng (nI z) 3 u = _; rw [upd2_ne (by omega), upd2_ne (by omega)], fun u hu => absurd hu (Nat.not_lt_zero u)⟩
  | j + 1 => by
    obtain ⟨a1, a2⟩ := grr_3 (kd := kd) j
    rw [F_gr_s]
    by_cases hw : w = 13
    · rw [if_pos hw]
      refine ⟨fun u hu => by rw [upd2_row, up_ne (by omega)]; exact a1 u hu, fun u hu => ?_⟩
      rw [upd2_row, if_pos hw]
      by_cases e : u = j
      · subst e; rw [up_s]
      · rw [up_ne (by omega)]
        have := a2 u (by omega)
        rw [if_pos hw] at this
        exact this
    · rw [if_neg hw]
      refine ⟨fun u hu => by rw [upd2_row, up_ne (by omega), upd2_ne (by omega), upd2_ne (by omega)]; exact a1 u hu, fun u hu => ?_⟩
      rw [upd2_row, if_neg hw]
      by_cases e : u = j
      · subst e; rw [up_s]
      · rw [up_ne (by omega), upd2_ne (by omega), upd2_ne (by omega)]
        have := a2 u (by omega)
        rw [if_neg hw] at this
        exact this
theorem grr_4 {kd : Int32} : ∀ j, (∀ u, u < nl → F_gr r ng nl w kd z j 4 u = r 4 u) ∧ (¬ w = 13 → ∀ u, u < j → F_gr r ng nl w kd z j 4 (nl + u) = nI w)
  | 0 => ⟨fun u _ => by show upd2 (upd2 r 1 ng kd) 2 ng (nI z) 4 u = _; rw [upd2_ne (by omega), upd2_ne (by omega)], fun _ u hu => absurd hu (Nat.not_lt_zero u)⟩
  | j + 1 => by
    obtain ⟨a1, a2⟩ := grr_4 (kd := kd) j
    rw [F_gr_s]
    by_cases hw : w = 13
    · rw [if_pos hw]
      exact ⟨fun u hu => by rw [upd2_ne (by omega)]; exact a1 u hu, fun y => absurd hw y⟩
    · rw [if_neg hw]
      refine ⟨fun u hu => by rw [upd2_ne (by omega), upd2_ne (by omega), upd2_row, up_ne (by omega)]; exact a1 u hu, fun _ u hu => ?_⟩
      rw [upd2_ne (by omega), upd2_ne (by omega), upd2_row]
      by_cases e : u = j
      · subst e; rw [up_s]
      · rw [up_ne (by omega)]; exact a2 hw u (by omega)
end GRID

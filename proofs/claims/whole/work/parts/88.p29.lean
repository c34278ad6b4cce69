/-! ===== searches told, on both sides ===== -/
section SEARCH
variable {l : Launch} {D : va_G} {B X i ng nt ns mem nth sc nl F P : Nat} {N N' : NT} {I I1 : MI} {L L1 : ML} {r r' : MI} {rl rl' : ML} {n n' : Nat → Int32} {q q' : Nat → Int64} {S S' : Int64} {k k' : MI} {kl kl' : ML} {LA : Nat → Nat} {x y z p f nd bd kd dv : Int32} {lm : Int64}
theorem Sim.more (h : Sim ns k n) (hs : n (302 + ns) = -9) : Sim (ns + 1) (upd2 k (27 + ns) 1 (-9)) n := by
  intro j hj
  by_cases e : j = 302 + ns
  · subst e
    rw [lo_b]
    show upd2 k (27 + ns) 1 (-9) (27 + ns) 1 = _
    rw [upd2_row, up_s]; exact hs.symm
  · have hj0 : Mp ns j := by unfold Mp at hj ⊢; omega
    have hb : Mp (ns + 1) (302 + ns) := Mp_b (by omega) (by omega)
    have hne : lo j ≠ (27 + ns, 1) := fun y => e (lo_inj hj hb (y.trans (lo_b ns).symm))
    rw [← h j hj0]
    by_cases e1 : (lo j).1 = 27 + ns
    · have e2 : (lo j).2 ≠ 1 := fun y => hne (Prod.ext e1 y)
      rw [e1, upd2_row, up_ne e2]
    · rw [upd2_ne e1]
theorem LSh.more (hns : ns < 8) (h : LSh ns n kl q) (hs : n (302 + ns) = -9) (hq : q (20 + ns) = -9223372036854775808) : LSh (ns + 1) n (upd2 (upd2 kl (27 + ns) 0 0) (27 + ns) 2 lm) (up q (28 + ns) lm) := by
  intro s hs2
  by_cases e : s = ns
  · subst e
    refine ⟨?_, fun _ => ⟨?_, ?_⟩, fun y => absurd hs y⟩
    · rw [upd2_row, up_s, up_s]
    · rw [upd2_row, up_ne (by omega), upd2_row, up_s]
    · rw [up_ne (by omega)]; exact hq
  · rw [upd2_ne (by omega), upd2_ne (by omega), up_ne (by omega), up_ne (by omega)]
    exact h s (by omega)
theorem CS.search (h : CS r nt ns mem nth i k kl n q) (hst : ¬ n 246 = nI 1) (hnt : nt ≤ 20) (hns : ns < 8) (h2 : r' 0 2 = r 0 2) (h6 : r' 6 = r 6) : CS r' nt (ns + 1) mem nth (i + 1) (upd2 k (27 + ns) 1 (-9)) (upd2 (upd2 kl (27 + ns) 0 0) (27 + ns) 2 lm) n (up q (28 + ns) lm) := by
  obtain ⟨⟨h1, h3, h4, h5⟩, hc⟩ := h
  have k0 : upd2 k (27 + ns) 1 (-9) 0 = k 0 := upd2_ne (by omega)
  have klt : ∀ t, t < 20 → upd2 (upd2 kl (27 + ns) 0 0) (27 + ns) 2 lm (7 + t) = kl (7 + t) := fun t ht => by rw [upd2_ne (by omega), upd2_ne (by omega)]
  refine ⟨⟨by rw [k0, h2]; exact h1, by rw [k0]; exact h3, by rw [k0]; exact h4, by rw [k0]; exact h5⟩, ?_⟩
  rcases hc with ⟨a1, a2, ⟨f1, ⟨f2, f3, f4, f5⟩, g, f7, f8, f9⟩, a4, a5⟩ | ⟨a1, -⟩ | ⟨a1, o1, o2, o3, o4, o5, o6, K, o7, o8⟩
  · obtain ⟨e1, e2⟩ := f8 ns hns
    refine Or.inl ⟨a1, a2.more e1, ⟨f1, ⟨by rw [h2]; exact f2, f3, f4, f5⟩, g, f7, fun s hs => by rw [up_ne (by omega)]; exact f8 s hs, fun t ht => by rw [up_ne (by omega)]; exact f9 t ht⟩, ⟨by rw [k0]; exact a4.1, fun t ht => by rw [klt t ht]; exact a4.2 t ht⟩, a5.more hns e1 e2⟩
  · exact absurd a1 hst
  · obtain ⟨e1, e2⟩ := o6.2 ns (Nat.le_refl _) hns
    refine Or.inr (Or.inr ⟨a1, o1.more e1, by rw [k0, h2]; exact h1, fun t ht h23 hs => ?_, o4.more hns e1 e2, o5.congr (upd2_ne (by omega)) rfl (fun _ _ => rfl), ⟨o6.1, fun s x1 x2 => by rw [up_ne (by omega)]; exact o6.2 s (by omega) x2⟩, K, o7, o8⟩)
    rw [h6] at h23
    rw [klt t (by omega), up_ne (by omega)]
    exact o3 t ht h23 hs
theorem GV.search (h : GV X i ng nt ns mem nth sc nl N I L r rl n q S k kl LA) (hZ : Zr N I L) (hst : ¬ n 246 = nI 1) (hns2 : ns < 8) (hN : Gww N N' (X + 4) ns) (hI : ∀ u, u < N.2.2 → u ≠ X + 1 → u ≠ X + 6 + (27 + ns) → I1 u = I u) (hIc : I1 (X + 6 + (27 + ns)) = up (I (X + 6 + (27 + ns))) 1 (-9)) (hI2 : ∀ f, f ≠ 6 → I1 (X + 1) f = I (X + 1) f) (hI6 : I1 (X + 1) 6 = nI (ns + 1)) (hL : ∀ u, u < N.2.2 → u ≠ X + 6 + (27 + ns) → L1 u = L u) (hLc : L1 (X + 6 + (27 + ns)) = up (up (L (X + 6 + (27 + ns))) 0 0) 2 lm) (hr0 : ∀ f, f ≠ 20 → r' 0 f = r 0 f) (hr20 : r' 0 20 = nI (ns + 1)) (hr6 : ∀ o, 15 ≤ o → o ≤ 18 → ∀ j, j ≠ ns → r' o j = r o j ∧ rl' o j = rl o j) (hro : ∀ o, 1 ≤ o → (o < 15 ∨ 18 < o) → r' o = r o ∧ rl' o = rl o)
    (hSe : SeR N' (RI (X + 111) r' n I1) (RLg (X + 111) rl' S (up q (28 + ns) lm) L1) r' rl' (X + 137) (X + 1) ng ns) : (RI (X + 111) r n I1 = I1 ∧ RLg (X + 111) rl S q L1 = L1) ∧ GV X (i + 1) ng nt (ns + 1) mem nth sc nl N' (RI (X + 111) r' n I1) (RLg (X + 111) rl' S (up q (28 + ns) lm) L1) r' rl' n (up q (28 + ns) lm) S (upd2 k (27 + ns) 1 (-9)) (upd2 (upd2 kl (27 + ns) 0 0) (27 + ns) 2 lm) LA := by
  have h' := h
  obtain ⟨⟨hA, hF, hsz⟩, ⟨⟨v1, v2⟩, v3, v4⟩, ⟨t1, t2, t3, t4, t5, t6, t7⟩, ⟨⟨g1, g2⟩, ⟨g3, g4⟩, g5, ⟨g6, g6'⟩, g7⟩, hAU, ⟨s1, s2, s3, s4⟩, ⟨⟨l1, l2, l3, l4, l5, l6⟩, hnl⟩, hC⟩ := h
  have he : 14 ≤ (N.2.1 (X + 4)).1 := by
    have e : N.2.1 (X + 4) = (17, 8) := t1.1.2.2.2.2.2.2.2.1
    rw [e]; decide
  have o1 : ∀ u, ¬ (X + 111 ≤ u ∧ u < X + 137) → RI (X + 111) r' n I1 u = I1 u := fun u hu => pt_out (by omega)
  have o2 : ∀ u, ¬ (X + 111 ≤ u ∧ u < X + 137) → RLg (X + 111) rl' S (up q (28 + ns) lm) L1 u = L1 u := fun u hu => pt_out (by omega)
  have oF : ∀ u, X + 137 ≤ u → u < N.2.2 → RI (X + 111) r' n I1 u = I u := fun u h1 h2 => by rw [o1 u (by omega), hI u h2 (by omega) (by omega)]
  have oL : ∀ u, X + 137 ≤ u → u < N.2.2 → RLg (X + 111) rl' S (up q (28 + ns) lm) L1 u = L u := fun u h1 h2 => by rw [o2 u (by omega), hL u h2 (by omega)]
  have oP : ∀ f, f ≠ 6 → RI (X + 111) r' n I1 (X + 1) f = I (X + 1) f := fun f hf => by rw [o1 _ (by omega), hI2 f hf]
  have e3 : r' 0 2 = r 0 2 := hr0 2 (by omega)
  refine ⟨⟨?_, ?_⟩, ⟨hA.grow hsz hN (by omega) (by omega) (by omega), hF.grow hsz hN (by omega), by have := hN.1; omega⟩, ⟨⟨pt_pt, pt_pt⟩, ?_, ?_⟩, ⟨⟨(hA.grow hsz hN (by omega) (by omega) (by omega)).2.1, t1.2⟩, ⟨(oP 5 (by omega)).trans t2.1, t2.2.1, (hr0 10 (by omega)).trans t2.2.2⟩, ⟨by rw [o1 _ (by omega)]; exact hI6, by omega, hr20⟩, ⟨t4.1, e3.trans t4.2.1, t4.2.2⟩, fun g hg => ?_, fun s hs => ?_, fun t ht => ?_⟩, ⟨⟨(oP 4 (by omega)).trans g1, (hr0 3 (by omega)).trans g2⟩, ⟨by rw [o1 _ (by omega), hI _ (by omega) (by omega) (by omega)]; exact g3, by rw [o1 _ (by omega), hI _ (by omega) (by omega) (by omega)]; exact g4⟩, (hr0 1 (by omega)).trans g5, ⟨g6, g6'⟩, (hr0 0 (by omega)).trans g7⟩, ?_, ⟨(oP 7 (by omega)).trans s1, (hr0 25 (by omega)).trans s2, s3, fun j hj => ?_⟩, ⟨⟨⟨(hr0 7 (by omega)).trans l1.1, by rw [(hro 5 (by omega) (by omega)).2]; exact l1.2⟩, l2, fun u hu => ⟨(l3 u hu).1, by have := (l3 u hu).2.1; have := hN.1; omega, by rw [hN.2.1 _ (by have := (l3 u hu).2.1; omega)]; exact (l3 u hu).2.2⟩, fun g g' ga ga' h1 h2 h3 h4 => ?_, fun g ga h1 h2 => ?_, fun g ga j p h1 h0 h2 h3 => ?_⟩, by omega⟩, hC.search hst t2.2.1 hns2 e3 (hro 6 (by omega) (by omega)).1⟩
  · funext u
    by_cases e : X + 111 ≤ u ∧ u < X + 111 + 26
    · have eu := congrFun v1 u
      rw [hI u (by omega) (by omega) (by omega), ← eu]
      show pt _ _ _ _ u = pt _ _ _ _ u
      unfold pt
      rw [if_pos e, if_pos e]
    · exact pt_out (by omega)
  · funext u
    by_cases e : X + 111 ≤ u ∧ u < X + 111 + 26
    · have eu := congrFun v2 u
      rw [hL u (by omega) (by omega), ← eu]
      show pt _ _ _ _ u = pt _ _ _ _ u
      unfold pt
      rw [if_pos e, if_pos e]
    · exact pt_out (by omega)
  · funext u
    by_cases e : X + 6 ≤ u ∧ u < X + 6 + 35
    · obtain ⟨o, rfl⟩ : ∃ o, u = X + 6 + o := ⟨u - (X + 6), by omega⟩
      rw [pt_row (by omega), o1 _ (by omega)]
      by_cases eo : o = 27 + ns
      · subst eo
        rw [hIc, upd2_row, h'.kc (by omega)]
      · rw [hI _ (by omega) (by omega) (by omega), upd2_ne eo, h'.kc (by omega)]
    · exact pt_out (by omega)
  · funext u
    by_cases e : X + 6 ≤ u ∧ u < X + 6 + 35
    · obtain ⟨o, rfl⟩ : ∃ o, u = X + 6 + o := ⟨u - (X + 6), by omega⟩
      rw [pt_row (by omega), o2 _ (by omega)]
      by_cases eo : o = 27 + ns
      · subst eo
        rw [hLc, upd2_row, upd2_row, h'.lc (by omega)]
      · rw [hL _ (by omega) (by omega), upd2_ne eo, upd2_ne eo, h'.lc (by omega)]
    · exact pt_out (by omega)
  · obtain ⟨ga, la, z, x1, x2, x3, x4, x5, x6, x7⟩ := t5 g hg
    have hla := hZ.lt x1.2.2.2.1 (by omega)
    refine ⟨ga, la, z, x1.grow hZ hN he (by omega) (by omega), x2, x3, ?_, by rw [(hro 1 (by omega) (by omega)).1]; exact x5, by rw [(hro 2 (by omega) (by omega)).1]; exact x6, fun i2 hi2 => ?_⟩
    · rw [oF ga x2 (hZ.lt x1.2.1 (by omega)), (hro 1 (by omega) (by omega)).1]; exact x4
    · exact (x7 i2 hi2).grow hZ hN he hla (by omega) oF oL (by rw [(hro 1 (by omega) (by omega)).1]) (by rw [(hro 3 (by omega) (by omega)).1]) (fun l0 p _ _ _ => ⟨by rw [(hro 4 (by omega) (by omega)).1], fun j hj => by rw [(hro 5 (by omega) (by omega)).2]⟩)
  · by_cases e : s = ns
    · subst e; exact hSe
    · exact (t6 s (by omega)).grow hZ hN he (by omega) (by omega) (fun g hg => by omega) (Nat.le_refl _) oF oL ⟨(hr6 15 (by omega) (by omega) s e).1, (hr6 16 (by omega) (by omega) s e).1, (hr6 17 (by omega) (by omega) s e).1, (hr6 18 (by omega) (by omega) s e).2⟩
  · exact (t7 t ht).grow hZ hN he (by omega) (by omega) (fun g hg => by omega) (fun s hs => by omega) (Nat.le_refl _) (by omega) oF oL (fun o h1 h2 => by rw [(hro o (by omega) (by omega)).1, (hro o (by omega) (by omega)).2]; exact ⟨rfl, rfl⟩)
  · unfold AU
    rw [o1 _ (by omega), o1 _ (by omega), hI _ (by omega) (by omega) (by omega), hI _ (by omega) (by omega) (by omega), e3]
    exact hAU
  · rw [o1 _ (by omega), hI _ (by omega) (by omega) (by omega), (hro 19 (by omega) (by omega)).1]; exact s4 j hj
  · rw [hN.2.2 _ _ (by omega) (by omega)] at h3 h4
    exact l4 g g' ga ga' h1 h2 h3 h4
  · rw [hN.2.2 _ _ (by omega) (by omega)] at h2
    obtain ⟨d1, d2⟩ := l5 g ga h1 h2
    obtain ⟨ga', la, z, x1, x2, -⟩ := t5 g h1
    have eg : ga' = ga := Option.some.inj (x1.1.symm.trans h2)
    subst eg
    exact ⟨by rw [hN.2.2 _ _ (by omega) (by omega)]; exact d1, by have := hN.1; omega⟩
  · rw [hN.2.2 _ _ (by omega) (by omega)] at h2
    obtain ⟨ga', la, z, x1, x2, -⟩ := t5 g h1
    have eg : ga' = ga := Option.some.inj (x1.1.symm.trans h2)
    subst eg
    obtain ⟨d1, d2⟩ := l5 g ga' h1 h2
    rw [hN.2.2 _ _ d2 (by omega)] at h3
    obtain ⟨c1, l0, c2, c3, c4⟩ := l6 g ga' j p h1 h0 h2 h3
    have hp := l3 l0 c2
    have hp2 := hp.2.1
    refine ⟨by rw [hN.2.2 _ _ (by omega) (by omega)]; exact c1, l0, c2, by rw [(hro 3 (by omega) (by omega)).1]; exact c3, c4⟩
theorem j_search (h : GV X i ng nt ns mem nth sc nl N I L r rl n q S k kl LA) (hZ : Zr N I L) : JR l D B X i vi mX11_search mX12_search [vi x, vi kd, vi dv, vl lm] N I L := by
  have h' := h
  obtain ⟨⟨hA, hF, hsz⟩, ⟨⟨v1, v2⟩, v3, v4⟩, hT, ⟨⟨g1, g2⟩, ⟨g3, g4⟩, g5, ⟨g6, g6'⟩, g7⟩, hAU, hSc, hLN, hC⟩ := h
  have hX := hA.2.2.1
  have hng := hT.2.2.2.1.1
  have hns := hT.2.2.1.2.1
  have hGr : GrP N (X + 1) ng := fun j hj => by
    obtain ⟨ga, la, zz, x1, -⟩ := place hT hj
    exact ⟨ga, la, zz, x1⟩
  by_cases hok0 : inR x ng ∧ (nI 0 ≤ kd ∧ kd ≤ nI 5) ∧ (nI 0 ≤ dv ∧ dv ≤ nI 100) ∧ ¬ lm < 0
  · obtain ⟨hx, hok⟩ := id hok0
    obtain ⟨g0, hg, rfl⟩ := inR_of hx (by omega)
    obtain ⟨ga, la, zz, x1, -⟩ := place hT hg
    by_cases hst : n 246 = nI 1
    · exact JR.same (v := -2) h' (g_search_state hA.1 hX h'.fp g1 hng hg x1 hok (by rw [h'.s16]; exact hst)) (n_search_state hF g7 hT.2.1.2.2 g2 hng hT.2.2.1.2.2 hns hok0 (hst.trans s1_1))
    · have hst1 : ¬ n 246 = 1 := fun y => hst (y.trans s1_1.symm)
      have hst2 : ¬ I (X + 6 + 0) 16 = nI 1 := by rw [h'.s16]; exact hst
      by_cases hns2 : ns < 8
      · have h1 := g_search_ok (l := l) (D := D) (B := B) (I := I) (L := L) hA.1 hX h'.fp g1 hng hg x1 hok hst2 hT.2.2.1.1 hns2 (by omega) (by omega) (by omega)
        obtain ⟨I1, hI1⟩ : ∃ I1, upd2 (upd2 (upd2 (upd2 I N.2.2 1 kd) N.2.2 2 dv) (X + 6 + (27 + ns)) 1 (-9)) (X + 1) 6 (nI (ns + 1)) = I1 := ⟨_, rfl⟩
        obtain ⟨L1, hL1⟩ : ∃ L1, upd2 (upd2 (upd2 L N.2.2 3 lm) (X + 6 + (27 + ns)) 0 0) (X + 6 + (27 + ns)) 2 lm = L1 := ⟨_, rfl⟩
        obtain ⟨r', hr'⟩ : ∃ r', upd2 (upd2 (upd2 (upd2 r 15 ns (nI g0)) 16 ns kd) 17 ns dv) 0 20 (nI (ns + 1)) = r' := ⟨_, rfl⟩
        rw [hI1, hL1] at h1
        have hN : Gww N (upd2 (upd2 N.1 N.2.2 0 (some ga)) (X + 1 + 3) ns (some N.2.2), (up N.2.1 N.2.2 (6, 4), N.2.2 + 1)) (X + 4) ns := ⟨by show N.2.2 ≤ N.2.2 + 1; omega, fun u hu => up_ne (by omega), fun u j hu hne => by
          show upd2 (upd2 N.1 N.2.2 0 (some ga)) (X + 1 + 3) ns (some N.2.2) u j = _
          by_cases e : u = X + 1 + 3
          · subst e
            rw [upd2_row, up_ne (fun e2 => hne ⟨rfl, e2⟩), upd2_ne (by omega)]
          · rw [upd2_ne e, upd2_ne (by omega)]⟩
        have iN : I1 N.2.2 1 = kd ∧ I1 N.2.2 2 = dv ∧ L1 N.2.2 3 = lm := by
          rw [← hI1, ← hL1]
          refine ⟨?_, ?_, ?_⟩ <;> simp (disch := omega) only [upd2_row, upd2_ne, up_ne, up_s]
        have t0 : r' 15 ns = nI g0 ∧ r' 16 ns = kd ∧ r' 17 ns = dv := by
          rw [← hr']
          refine ⟨?_, ?_, ?_⟩ <;> simp (disch := omega) only [upd2_row, upd2_ne, up_ne, up_s]
        have hSe : SeR (upd2 (upd2 N.1 N.2.2 0 (some ga)) (X + 1 + 3) ns (some N.2.2), (up N.2.1 N.2.2 (6, 4), N.2.2 + 1)) (RI (X + 111) r' n I1) (RLg (X + 111) (upd2 rl 18 ns lm) S (up q (28 + ns) lm) L1) r' (upd2 rl 18 ns lm) (X + 137) (X + 1) ng ns := by
          have o1 : RI (X + 111) r' n I1 N.2.2 = I1 N.2.2 := pt_out (by omega)
          have o2 : RLg (X + 111) (upd2 rl 18 ns lm) S (up q (28 + ns) lm) L1 N.2.2 = L1 N.2.2 := pt_out (by omega)
          refine ⟨N.2.2, g0, ga, ?_, up_s _ _ _, by omega, hg, t0.1, ?_, ?_, ?_, ?_, ?_⟩
          · show upd2 (upd2 N.1 N.2.2 0 (some ga)) (X + 1 + 3) ns (some N.2.2) (X + 1 + 3) ns = _
            rw [upd2_row, up_s]
          · show upd2 (upd2 N.1 N.2.2 0 (some ga)) (X + 1 + 3) ns (some N.2.2) (X + 1 + 1) g0 = _
            rw [upd2_ne (by omega), upd2_ne (by omega)]; exact x1.1
          · show upd2 (upd2 N.1 N.2.2 0 (some ga)) (X + 1 + 3) ns (some N.2.2) N.2.2 0 = _
            rw [upd2_ne (by omega), upd2_row, up_s]
          · rw [o1, iN.1, t0.2.1]
          · rw [o1, iN.2.1, t0.2.2]
          · rw [o2, iN.2.2, upd2_row, up_s]
        obtain ⟨⟨w1, w2⟩, w3⟩ := GV.search (I1 := I1) (L1 := L1) (r' := r') (rl' := upd2 rl 18 ns lm) (lm := lm) h' hZ hst hns2 hN (fun u hu hne hne2 => by rw [← hI1]; simp (disch := omega) only [upd2_ne]) (by rw [← hI1, upd2_ne (by omega), upd2_row]; simp (disch := omega) only [upd2_ne]) (fun j hj => by rw [← hI1, upd2_row, up_ne hj]; simp (disch := omega) only [upd2_ne]) (by rw [← hI1, upd2_row, up_s]) (fun u hu hne => by rw [← hL1]; simp (disch := omega) only [upd2_ne]) (by rw [← hL1, upd2_row, upd2_row]; simp (disch := omega) only [upd2_ne]) (fun j hj => by rw [← hr', upd2_row, up_ne hj]; simp (disch := omega) only [upd2_ne]) (by rw [← hr', upd2_row, up_s])
          (fun o h1 h2 j hj => by
            refine ⟨?_, ?_⟩
            · rw [← hr']
              have e : ∀ (m : MI) (c : Nat) (v : Int32), upd2 m c ns v o j = m o j := fun m c v => by
                by_cases e : o = c
                · subst e; rw [upd2_row, up_ne hj]
                · rw [upd2_ne e]
              rw [upd2_ne (by omega), e, e, e]
            · by_cases e : o = 18
              · subst e; rw [upd2_row, up_ne hj]
              · rw [upd2_ne e]) (fun o h1 h2 => ⟨by rw [← hr']; simp (disch := omega) only [upd2_ne], upd2_ne (by omega)⟩) hSe
        have h3 := n_search_ok (l := l) (D := D) (B := B) (r := r) (n := n) (G := I1) (rl := rl) (S := S) (q := q) (GL := L1) (hF.grow hsz hN (by omega)) g7 hT.2.1.2.2 g2 hng hT.2.2.1.2.2 hns hok0 hst1 hns2
        rw [hr', w1, w2] at h3
        exact ⟨_, 1, 4, _, _, _, _, _, by omega, by omega, (by intro u hu; have e : I1 u = I u := (by rw [← hI1]; simp (disch := omega) only [upd2_ne]); exact ⟨e, (show RI (X + 111) r' n I1 u = I1 u from pt_out (by omega)).trans e, up_ne (by omega)⟩), h1, h3, _, _, _, _, _, _, _, _, _, _, _, _, _, _, _, w3⟩
      · have e8 : ns = 8 := by omega
        subst e8
        exact JR.same (v := -3) h' (g_search_full hA.1 hX h'.fp g1 hng hg x1 hok hst2 hT.2.2.1.1) (n_search_full hF g7 hT.2.1.2.2 g2 hng hT.2.2.1.2.2 hns hok0 hst1 hT.2.2.1.2.2)
  · exact JR.same (v := -1) h' (g_search_bad hA.1 h'.fp g1 hng hGr hok0) (n_search_bad hF g7 hT.2.1.2.2 g2 hng hT.2.2.1.2.2 hns hok0)
end SEARCH

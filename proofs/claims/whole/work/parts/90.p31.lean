/-! ===== lay and line, on both sides ===== -/
section LAY
variable {l : Launch} {D : va_G} {B X i ng nt ns mem nth sc nl nl' F P g0 ga la z i1 : Nat} {N N' : NT} {I I1 : MI} {L L1 : ML} {r r' : MI} {rl rl' : ML} {n n' : Nat → Int32} {q q' : Nat → Int64} {S S' : Int64} {k k' : MI} {kl kl' : ML} {LA LA' : Nat → Nat} {x y w v f : Int32}
theorem set_gww {v : Option Nat} : Gww N (upd2 N.1 la i1 v, N.2) la i1 := ⟨Nat.le_refl _, fun _ _ => rfl, fun u j hu hne => by
  show upd2 N.1 la i1 v u j = _
  by_cases e : u = la
  · subst e
    rw [upd2_row, up_ne (fun e2 => hne ⟨rfl, e2⟩)]
  · rw [upd2_ne e]⟩
/-- a place is emptied -/
theorem j_none {M1 M2 : MD} {as : List MV} {v : Int32} (h : GV X i ng nt ns mem nth sc nl N I L r rl n q S k kl LA) (hZ : Zr N I L) (hst : ¬ n 246 = nI 1) (hi : i ≤ 520) (hg : g0 < ng) (x1 : GrA N (X + 1) g0 ga la z) (hi1 : i1 < z) (h1 : Cn l D B M1 (vr (some X) :: as) I L N 0 0 (some (vi v)) I L (upd2 N.1 la i1 none, N.2)) (h2 : FixR (X + 111) (upd2 N.1 la i1 none, N.2) → Cq l D B M2 (vr (some (X + 111 + 0)) :: as) (RI (X + 111) r n I) L (upd2 N.1 la i1 none, N.2) (some (vi v)) (RI (X + 111) (upd2 r 3 (20 * g0 + i1) (-1)) n I) L) : JR l D B X i vi M1 M2 as N I L := by
  have h' := h
  obtain ⟨⟨hA, hF, hsz⟩, ⟨⟨v1, v2⟩, v3, v4⟩, hT, ⟨⟨g1, g2⟩, ⟨g3, g4⟩, g5, ⟨g6, g6'⟩, g7⟩, hAU, hSc, ⟨hLN, hnl⟩, hC⟩ := h
  have hla0 := (place hT hg)
  obtain ⟨ga0, la0, z0, y1, ⟨y2, y3⟩, -⟩ := hla0
  have eg0 : ga0 = ga := Option.some.inj (y1.1.symm.trans x1.1)
  subst eg0
  have el0 : la0 = la := Option.some.inj (y1.2.2.1.symm.trans x1.2.2.1)
  subst el0
  obtain ⟨w1, w2⟩ := GV.place (N' := (upd2 N.1 la0 i1 none, N.2)) (I1 := I) (nl' := nl) (LA' := LA) (r' := upd2 r 3 (20 * g0 + i1) (-1)) h' hZ hst (by omega) hg x1 hi1 set_gww (fun _ _ => rfl) (Nat.le_refl _) (by omega) (fun _ _ => rfl) hLN.2.1 hLN.2.2.1 (fun f hf => by rw [upd2_ne (by omega)]) (by rw [upd2_ne (by omega)]; exact hLN.1.1) (fun j hj => by rw [upd2_row, up_ne hj]) (fun u hu => by rw [upd2_ne (by omega)]) (fun o a1 a2 a3 => upd2_ne a2)
    (Or.inl ⟨by show upd2 N.1 la0 i1 none la0 i1 = none; rw [upd2_row, up_s], by rw [upd2_row, up_s]⟩) (fun p hp => by
      have : upd2 N.1 la0 i1 none la0 i1 = some p := hp
      rw [upd2_row, up_s] at this
      exact absurd this (by simp))
  have h3 := h2 (hF.grow hsz set_gww (by omega))
  rw [v1] at h3
  exact ⟨v, 0, 0, _, _, _, _, _, by omega, by omega, (by intro u hu; exact ⟨rfl, pt_out (by omega), rfl⟩), h1, h3, _, _, _, _, _, _, _, _, _, _, _, _, _, _, _, w2⟩
theorem j_lay (h : GV X i ng nt ns mem nth sc nl N I L r rl n q S k kl LA) (hZ : Zr N I L) (hi : i ≤ 520) : JR l D B X i vi mX11_lay mX12_lay [vi x, vi y, vi f, vi w] N I L := by
  have h' := h
  obtain ⟨⟨hA, hF, hsz⟩, ⟨⟨v1, v2⟩, v3, v4⟩, hT, ⟨⟨g1, g2⟩, ⟨g3, g4⟩, g5, ⟨g6, g6'⟩, g7⟩, hAU, hSc, ⟨hLN, hnl⟩, hC⟩ := h
  have hng := hT.2.2.2.1.1
  have s16 := h'.s16
  have hX := hA.2.2.1
  have hGr : GrP N (X + 1) ng := fun j hj => by
    obtain ⟨ga, la, zz, x1, -⟩ := place hT hj
    exact ⟨ga, la, zz, x1⟩
  by_cases hok : inR x ng ∧ inR f ng
  · obtain ⟨hx, hf⟩ := id hok
    obtain ⟨g0, hg, rfl⟩ := inR_of hx (by omega)
    obtain ⟨f0, hf0, rfl⟩ := inR_of hf (by omega)
    obtain ⟨ga, la, z, x1, ⟨xa, xb⟩, x4, x5, ⟨x6, x7, x8⟩, x9⟩ := place hT hg
    obtain ⟨fa, lf, zf, y1, ⟨ya, yb⟩, y4, y5, ⟨y6, y7, y8⟩, y9⟩ := place hT hf0
    by_cases hst : n 246 = nI 1
    · exact JR.same (v := -2) h' (g_lay_state hA.1 hX h'.fp g1 hng hg x1 hf0 y1 (by rw [s16]; exact hst)) (n_lay_state hF g7 g2 hng hok (hst.trans s1_1))
    · have hst1 : ¬ n 246 = 1 := fun y => hst (y.trans s1_1.symm)
      have hst2 : ¬ I (X + 6 + 0) 16 = nI 1 := by rw [s16]; exact hst
      by_cases hix : inR w zf ∧ inR y z
      · obtain ⟨hw, hy⟩ := id hix
        obtain ⟨j1, hj1, rfl⟩ := inR_of hw (by omega)
        obtain ⟨i1, hi1, rfl⟩ := inR_of hy (by omega)
        rcases y9 j1 hj1 with ⟨a1, a2⟩ | ⟨p, np, m, l0, a1, a2, a3, a4, a5, a6, a7, a8⟩
        · refine j_none h' hZ hst hi hg x1 hi1 (g_lay_ok0 hA.1 hX h'.fp g1 hng hg x1 hf0 y1 hst2 hi1 hj1 a1) (fun hF' => ?_)
          have h2 := n_lay_ok (l := l) (D := D) (B := B) (r := r) (n := n) (G := I) (L := L) hF' g7 g2 hng hg hf0 x6 x7 y6 y7 hst1 hi1 hj1 (fun e => absurd (show r 3 (20 * f0 + j1) < 0 by rw [a2]; decide) e)
          rw [a2, if_pos (by decide)] at h2
          exact h2
        · have hnn : ¬ r 3 (20 * f0 + j1) < 0 := by
            rw [a4]
            exact fun e => absurd ((nI_ltI (a := l0) (b := 0) (by omega) (by omega)).mp e) (by omega)
          by_cases hkd : I p 0 = I ga 0
          · have ek : r 1 g0 = r 1 f0 := by rw [← x4, ← a7, hkd]
            have h1 := g_lay_ok (l := l) (D := D) (B := B) (L := L) hA.1 hX h'.fp g1 hng hg x1 hf0 y1 hst2 hi1 hj1 a1 hkd
            obtain ⟨q1, q2, q3, q4⟩ := hLN.at (by omega) hf0 y1 a1 a4 (by omega) (by omega)
            have hpl : p ≠ la := fun e => by
              have s1 := a1.2.1
              rw [e, x1.2.2.2.1] at s1
              exact absurd (congrArg Prod.fst s1) (by simp)
            obtain ⟨w1, w2⟩ := GV.place (N' := (upd2 N.1 la i1 (some p), N.2)) (I1 := I) (nl' := nl) (LA' := LA) (r' := upd2 r 3 (20 * g0 + i1) (nI l0)) h' hZ hst (by omega) hg x1 hi1 set_gww (fun _ _ => rfl) (Nat.le_refl _) (by omega) (fun _ _ => rfl) hLN.2.1 hLN.2.2.1 (fun f hf => by rw [upd2_ne (by omega)]) (by rw [upd2_ne (by omega)]; exact hLN.1.1) (fun j hj => by rw [upd2_row, up_ne hj]) (fun u hu => by rw [upd2_ne (by omega)]) (fun o a1 a2 a3 => upd2_ne a2)
              (Or.inr ⟨p, np, m, l0, ⟨by show upd2 N.1 la i1 (some p) la i1 = _; rw [upd2_row, up_s], a1.2.1, by show upd2 N.1 la i1 (some p) p 1 = _; rw [upd2_ne hpl]; exact a1.2.2.1, a1.2.2.2⟩, a2, a3, by rw [upd2_row, up_s], a5, by rw [upd2_ne (by omega)]; exact a6, by rw [show RI (X + 111) (upd2 r 3 (20 * g0 + i1) (nI l0)) n I p = I p from pt_out (by omega), upd2_ne (by omega), ek]; exact a7, a8⟩) (fun p' hp => by
                have e : upd2 N.1 la i1 (some p) la i1 = some p' := hp
                rw [upd2_row, up_s] at e
                have e2 : p = p' := Option.some.inj e
                subst e2
                exact ⟨by show upd2 N.1 la i1 (some p) p 1 = _; rw [upd2_ne hpl, ← q2]; exact a1.2.2.1, l0, q3, by rw [upd2_row, up_s], q4⟩)
            have h2 := n_lay_ok (l := l) (D := D) (B := B) (r := r) (n := n) (G := I) (L := L) (hF.grow hsz (set_gww (la := la) (i1 := i1) (v := some p)) (by omega)) g7 g2 hng hg hf0 x6 x7 y6 y7 hst1 hi1 hj1 (fun _ => ek)
            rw [if_neg hnn, v1, a4] at h2
            exact ⟨_, 0, 0, _, _, _, _, _, by omega, by omega, (by intro u hu; exact ⟨rfl, pt_out (by omega), rfl⟩), h1, h2, _, _, _, _, _, _, _, _, _, _, _, _, _, _, _, w2⟩
          · exact JR.same (v := -14) h' (g_lay_store hA.1 hX h'.fp g1 hng hg x1 hf0 y1 hst2 hi1 hj1 a1 hkd) (n_lay_store hF g7 g2 hng hg hf0 x6 x7 y6 y7 hst1 hi1 hj1 hnn (fun e => hkd (by rw [a7, x4, e])))
      · exact JR.same (v := -12) h' (g_lay_index hA.1 hX h'.fp g1 hng hg x1 hf0 y1 hst2 hix) (n_lay_index hF g7 g2 hng hg hf0 x6 x7 y6 y7 hst1 hix)
  · exact JR.same (v := -1) h' (g_lay_bad hA.1 h'.fp g1 hng hGr hok) (n_lay_bad hF g7 g2 hng hok)
theorem j_line (h : GV X i ng nt ns mem nth sc nl N I L r rl n q S k kl LA) (hZ : Zr N I L) (hi : i ≤ 520) : JR l D B X i vi mX11_line mX12_line [vi x, vi y, vi w] N I L := by
  have h' := h
  obtain ⟨⟨hA, hF, hsz⟩, ⟨⟨v1, v2⟩, v3, v4⟩, hT, ⟨⟨g1, g2⟩, ⟨g3, g4⟩, g5, ⟨g6, g6'⟩, g7⟩, hAU, hSc, ⟨hLN, hnl⟩, hC⟩ := h
  have hng := hT.2.2.2.1.1
  have s16 := h'.s16
  have hX := hA.2.2.1
  have hGr : GrP N (X + 1) ng := fun j hj => by
    obtain ⟨ga, la, zz, x1, -⟩ := place hT hj
    exact ⟨ga, la, zz, x1⟩
  by_cases hok : inR x ng ∧ ¬ nI 13 < w
  · obtain ⟨hx, hw⟩ := id hok
    obtain ⟨g0, hg, rfl⟩ := inR_of hx (by omega)
    obtain ⟨ga, la, z, x1, ⟨xa, xb⟩, x4, x5, ⟨x6, x7, x8⟩, x9⟩ := place hT hg
    by_cases hst : n 246 = nI 1
    · exact JR.same (v := -2) h' (g_line_state hA.1 hX h'.fp g1 hng hg x1 hw (by rw [s16]; exact hst)) (n_line_state hF g7 g2 hng hok (hst.trans s1_1))
    · have hst1 : ¬ n 246 = 1 := fun y => hst (y.trans s1_1.symm)
      have hst2 : ¬ I (X + 6 + 0) 16 = nI 1 := by rw [s16]; exact hst
      by_cases hw0 : w < 0
      · exact JR.same (v := -15) h' (g_line_size hA.1 hX h'.fp g1 hng hg x1 hw hst2 hw0) (n_line_size hF g7 g2 hng hok hst1 hw0)
      · obtain ⟨ww, -, hw13, rfl⟩ := rng_of (a := 0) (c := 13) (Int32.not_lt.mp hw0) (Int32.not_lt.mp hw) (by omega) (by omega)
        by_cases hy : inR y z
        · obtain ⟨i1, hi1, rfl⟩ := inR_of hy (by omega)
          by_cases h13 : ww = 13
          · subst h13
            exact j_none h' hZ hst hi hg x1 hi1 (g_line_ok13 hA.1 hX h'.fp g1 hng hg x1 hst2 hi1) (fun hF' => n_line_ok13 hF' g7 g2 hng hg x6 x7 hst1 hi1)
          · have h1 := g_line_ok (l := l) (D := D) (B := B) (I := I) (L := L) hA.1 hX h'.fp g1 hng hg x1 (w := ww) (by omega) hst2 hi1 (hZ.lt x1.2.2.2.1 (by omega))
            have hla := hZ.lt x1.2.2.2.1 (by omega)
            have hN : Gww N (upd2 (nlN N ww).1 la i1 (some N.2.2), (nlN N ww).2) la i1 := ⟨by show N.2.2 ≤ N.2.2 + 1 + 1; omega, fun u hu => by
                show up (up N.2.1 N.2.2 (3, 2)) (N.2.2 + 1) (13, ww) u = _
                rw [up_ne (by omega), up_ne (by omega)], fun u j hu hne => by
              show upd2 (upd2 N.1 N.2.2 1 (some (N.2.2 + 1))) la i1 (some N.2.2) u j = _
              by_cases e : u = la
              · subst e
                rw [upd2_row, up_ne (fun e2 => hne ⟨rfl, e2⟩), upd2_ne (by omega)]
              · rw [upd2_ne e, upd2_ne (by omega)]⟩
            have hnl6 : nl < 600 := by omega
            have sp : up (up N.2.1 N.2.2 (3, 2)) (N.2.2 + 1) (13, ww) N.2.2 = (3, 2) := by rw [up_ne (by omega), up_s]
            obtain ⟨r', hr'⟩ : ∃ r', upd2 (upd2 (upd2 r 4 nl (nI ww)) 0 7 (nI (nl + 1))) 3 (20 * g0 + i1) (nI nl) = r' := ⟨_, rfl⟩
            have r1 : r' 1 = r 1 := by rw [← hr', upd2_ne (by omega), upd2_ne (by omega), upd2_ne (by omega)]
            have r4 : r' 4 nl = nI ww := by rw [← hr', upd2_ne (by omega), upd2_ne (by omega), upd2_row, up_s]
            have r3 : r' 3 (20 * g0 + i1) = nI nl := by rw [← hr', upd2_row, up_s]
            obtain ⟨w1, w2⟩ := GV.place (N' := (upd2 (nlN N ww).1 la i1 (some N.2.2), (nlN N ww).2)) (I1 := upd2 I N.2.2 0 (I ga 0)) (nl' := nl + 1) (LA' := up LA nl N.2.2) (r' := r') h' hZ hst (by omega) hg x1 hi1 hN (fun u hu => upd2_ne (by omega)) (by omega) (by omega) (fun u hu => up_ne (by omega)) (fun u u' a b => by
                by_cases e : u' = nl
                · subst e
                  rw [up_s, up_ne (by omega)]
                  exact (hLN.2.2.1 u a).2.1
                · rw [up_ne e, up_ne (by omega)]
                  exact hLN.2.1 u u' a (by omega)) (fun u hu => by
                by_cases e : u = nl
                · subst e
                  rw [up_s]
                  exact ⟨by omega, by show N.2.2 + 1 < N.2.2 + 1 + 1; omega, sp⟩
                · rw [up_ne e]
                  obtain ⟨c1, c2, c3⟩ := hLN.2.2.1 u (by omega)
                  exact ⟨c1, by show LA u + 1 < N.2.2 + 1 + 1; omega, by rw [hN.2.1 _ (by omega)]; exact c3⟩) (fun f hf => by rw [← hr', upd2_ne (by omega), upd2_row, up_ne hf, upd2_ne (by omega)]) (by rw [← hr', upd2_ne (by omega), upd2_row, up_s]) (fun j hj => by rw [← hr', upd2_row, up_ne hj, upd2_ne (by omega), upd2_ne (by omega)]) (fun u hu => by rw [← hr', upd2_ne (by omega), upd2_ne (by omega), upd2_row, up_ne (by omega)]) (fun o a1 a2 a3 => by rw [← hr', upd2_ne a2, upd2_ne a1, upd2_ne a3])
              (Or.inr ⟨N.2.2, N.2.2 + 1, ww, nl, ⟨by show upd2 (upd2 N.1 N.2.2 1 (some (N.2.2 + 1))) la i1 (some N.2.2) la i1 = _; rw [upd2_row, up_s], sp, by show upd2 (upd2 N.1 N.2.2 1 (some (N.2.2 + 1))) la i1 (some N.2.2) N.2.2 1 = _; rw [upd2_ne (by omega), upd2_row, up_s], up_s _ _ _, by omega⟩, by omega, by omega, r3, hnl6, r4, by rw [show RI (X + 111) r' n (upd2 I N.2.2 0 (I ga 0)) N.2.2 = upd2 I N.2.2 0 (I ga 0) N.2.2 from pt_out (by omega), upd2_row, up_s, r1]; exact x4, fun j hj => by rw [hLN.1.2 nl (Nat.le_refl _) hnl6 j (by omega)]; exact ((hZ (N.2.2 + 1) (by omega)).2 j).2.1⟩) (fun p' hp => by
                have e : upd2 (upd2 N.1 N.2.2 1 (some (N.2.2 + 1))) la i1 (some N.2.2) la i1 = some p' := hp
                rw [upd2_row, up_s] at e
                have e2 : N.2.2 = p' := Option.some.inj e
                subst e2
                exact ⟨by show upd2 (upd2 N.1 N.2.2 1 (some (N.2.2 + 1))) la i1 (some N.2.2) N.2.2 1 = _; rw [upd2_ne (by omega), upd2_row, up_s], nl, by omega, r3, up_s _ _ _⟩)
            have h2 := n_line_ok (l := l) (D := D) (B := B) (r := r) (n := n) (G := upd2 I N.2.2 0 (I ga 0)) (L := L) (w := ww) (hF.grow hsz hN (by omega)) g7 g2 hng hg x6 x7 hw13 h13 hst1 hi1 hLN.1.1 hnl6
            rw [hr', w1] at h2
            exact ⟨_, 2, 14, _, _, _, _, _, by omega, by omega, (by intro u hu; exact ⟨upd2_ne (by omega), (show RI (X + 111) r' n (upd2 I N.2.2 0 (I ga 0)) u = upd2 I N.2.2 0 (I ga 0) u from pt_out (by omega)).trans (upd2_ne (by omega)), hN.2.1 u (by omega)⟩), h1, h2, _, _, _, _, _, _, _, _, _, _, _, _, _, _, _, w2⟩
        · exact JR.same (v := -12) h' (g_line_index hA.1 hX h'.fp g1 hng hg x1 hw13 hst2 hy) (n_line_index hF g7 g2 hng hg x6 x7 hw13 hst1 hy)
  · exact JR.same (v := -1) h' (g_line_bad hA.1 hX h'.fp g1 hng hGr hok) (n_line_bad hF g7 g2 hng hok)
end LAY

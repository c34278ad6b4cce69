/-! ===== grid, on both sides ===== -/
section GRID2
variable {l : Launch} {D : va_G} {B X i ng nt ns mem nth sc nl nl' F P g0 ga la z i1 w : Nat} {N N' : NT} {I I1 : MI} {L L1 : ML} {r r' : MI} {rl rl' : ML} {n n' : Nat → Int32} {q q' : Nat → Int64} {S S' : Int64} {k k' : MI} {kl kl' : ML} {LA LA' : Nat → Nat} {x y v kd : Int32}
theorem j_grid (h : GV X i ng nt ns mem nth sc nl N I L r rl n q S k kl LA) (hZ : Zr N I L) (hi : i ≤ 520) : JR l D B X i vi mX11_grid mX12_grid [vi kd, vi x, vi y] N I L := by
  have h' := h
  obtain ⟨⟨hA, hF, hsz⟩, ⟨⟨v1, v2⟩, v3, v4⟩, hT, ⟨⟨g1, g2⟩, ⟨g3, g4⟩, g5, ⟨g6, g6'⟩, g7⟩, hAU, hSc, ⟨hLN, hnl⟩, hC⟩ := h
  have hng := hT.2.2.2.1.1
  have s16 := h'.s16
  have hX := hA.2.2.1
  by_cases hok : (nI 0 ≤ kd ∧ kd ≤ nI 5) ∧ ¬ nI 12 < x ∧ ¬ nI 13 < y
  · by_cases hst : n 246 = nI 1
    · exact JR.same (v := -2) h' (g_grid_state hA.1 hX hok (by rw [s16]; exact hst)) (n_grid_state hF g7 g2 hng hok (hst.trans s1_1))
    · have hst1 : ¬ n 246 = 1 := fun y => hst (y.trans s1_1.symm)
      have hst2 : ¬ I (X + 6 + 0) 16 = nI 1 := by rw [s16]; exact hst
      by_cases hng2 : ng < 6
      · by_cases hneg : x < 0 ∨ y < 0
        · exact JR.same (v := -15) h' (g_grid_size hA.1 hX h'.fp hok hst2 g1 hng2 hneg) (n_grid_size hF g7 g2 hng hng2 hok hst1 hneg)
        · obtain ⟨hk, hx, hy⟩ := hok
          obtain ⟨z, -, hz, rfl⟩ := rng_of (a := 0) (c := 12) (Int32.not_lt.mp (fun e => hneg (Or.inl e))) (Int32.not_lt.mp hx) (by omega) (by omega)
          obtain ⟨w, -, hw, rfl⟩ := rng_of (a := 0) (c := 13) (Int32.not_lt.mp (fun e => hneg (Or.inr e))) (Int32.not_lt.mp hy) (by omega) (by omega)
          obtain ⟨kk, -, hkk, hkd⟩ := rng_of hk.1 hk.2 (by omega) (by omega)
          have h1 := g_grid_ok (l := l) (D := D) (B := B) (I := I) (L := L) hA.1 hX h'.fp hk hz hw hst2 g1 hng2 (by omega) (by omega)
          -- the cells made
          obtain ⟨N0, hN0⟩ : ∃ N0, gdN N z = N0 := ⟨_, rfl⟩
          have z0 : N0.2.2 = N.2.2 + 2 := by rw [← hN0]; rfl
          have sh0 : ∀ a, a < N.2.2 → N0.2.1 a = N.2.1 a := fun a ha => by
            rw [← hN0]
            show up (up N.2.1 N.2.2 (1, 2)) (N.2.2 + 1) (16, z) a = _
            rw [up_ne (by omega), up_ne (by omega)]
          have sh1 : N0.2.1 N.2.2 = (1, 2) := by
            rw [← hN0]
            show up (up N.2.1 N.2.2 (1, 2)) (N.2.2 + 1) (16, z) N.2.2 = _
            rw [up_ne (by omega), up_s]
          have sh2 : N0.2.1 (N.2.2 + 1) = (16, z) := by rw [← hN0]; exact up_s _ _ _
          have rf0 : ∀ a, a ≠ N.2.2 → N0.1 a = N.1 a := fun a ha => by
            rw [← hN0]
            show upd2 N.1 N.2.2 1 (some (N.2.2 + 1)) a = _
            exact upd2_ne ha
          have rf1 : N0.1 N.2.2 1 = some (N.2.2 + 1) := by
            rw [← hN0]
            show upd2 N.1 N.2.2 1 (some (N.2.2 + 1)) N.2.2 1 = _
            rw [upd2_row, up_s]
          rw [hN0] at h1
          obtain ⟨M, hM⟩ : ∃ M, F_gdN N0 w (N.2.2 + 1) z = M := ⟨_, rfl⟩
          have mge : N0.2.2 ≤ M.2.2 := by rw [← hM]; exact F_gdN_ge z
          have msh : ∀ a, a < N0.2.2 → M.2.1 a = N0.2.1 a := fun a ha => by rw [← hM]; exact F_gdN_sh ha z
          have mrf : ∀ a, a < N0.2.2 → a ≠ N.2.2 + 1 → M.1 a = N0.1 a := fun a ha hb => by rw [← hM]; exact F_gdN_rf ha hb z
          have mlas : ∀ i0, z ≤ i0 → M.1 (N.2.2 + 1) i0 = none := fun i0 hi0 => by
            rw [← hM, gd_out (by omega) z i0 hi0, rf0 _ (by omega)]
            exact ((hZ (N.2.2 + 1) (by omega)).2 i0).2.2
          have mln : ¬ w = 13 → ∀ i0, i0 < z → M.1 (N.2.2 + 1) i0 = some (N.2.2 + 2 + 2 * i0) ∧ M.2.1 (N.2.2 + 2 + 2 * i0) = (3, 2) ∧ M.1 (N.2.2 + 2 + 2 * i0) 1 = some (N.2.2 + 2 + 2 * i0 + 1) ∧ M.2.1 (N.2.2 + 2 + 2 * i0 + 1) = (13, w) := fun hw3 i0 hi0 => by
            have e := gd_line (N := N0) (w := w) (la := N.2.2 + 1) hw3 (by omega) z i0 hi0
            rw [hM, z0] at e
            exact e
          have mno : w = 13 → ∀ i0, i0 < z → M.1 (N.2.2 + 1) i0 = none := fun hw3 i0 hi0 => by rw [← hM]; exact gd_no hw3 z i0 hi0
          have msz : M.2.2 = if w = 13 then N.2.2 + 2 else N.2.2 + 2 + 2 * z := by
            rw [← hM, F_gdN_sz, z0]
          obtain ⟨I1, hI1⟩ : ∃ I1, upd2 (F_gdI (upd2 I N.2.2 0 kd) kd N0 w (N.2.2 + 1) z) (X + 1) 4 (nI (ng + 1)) = I1 := ⟨_, rfl⟩
          rw [hM, hI1] at h1
          have hN : Gww N (upd2 M.1 (X + 1 + 1) ng (some N.2.2), M.2) (X + 2) ng := ⟨by show N.2.2 ≤ M.2.2; omega, fun u hu => (msh u (by omega)).trans (sh0 u hu), fun u j hu hne => by
            show upd2 M.1 (X + 1 + 1) ng (some N.2.2) u j = _
            have em : M.1 u = N.1 u := (mrf u (by omega) (by omega)).trans (rf0 u (by omega))
            by_cases e : u = X + 1 + 1
            · subst e
              rw [upd2_row, up_ne (fun e2 => hne ⟨rfl, e2⟩), em]
            · rw [upd2_ne e, em]⟩
          obtain ⟨r', hr'⟩ : ∃ r', upd2 (F_gr r ng nl w kd z z) 0 3 (nI (ng + 1)) = r' := ⟨_, rfl⟩
          have ro : ∀ o, o ≠ 0 → r' o = F_gr r ng nl w kd z z o := fun o ho => by rw [← hr', upd2_ne ho]
          have r1 : r' 1 = up (r 1) ng kd ∧ r' 2 = up (r 2) ng (nI z) := by rw [ro 1 (by omega), ro 2 (by omega)]; exact grr_12 z
          have iP : ∀ f, f ≠ 4 → I1 (X + 1) f = I (X + 1) f := fun f hf => by
            rw [← hI1, upd2_row, up_ne hf, F_gdI_lt (by omega), upd2_ne (by omega)]
          have iO : ∀ u, u < N.2.2 → u ≠ X + 1 → I1 u = I u := fun u hu hne => by
            rw [← hI1, upd2_ne hne, F_gdI_lt (by omega), upd2_ne (by omega)]
          have iG : I1 N.2.2 0 = kd := by
            rw [← hI1, upd2_ne (by omega), F_gdI_lt (by omega), upd2_row, up_s]
          have iL : ¬ w = 13 → ∀ i0, i0 < z → I1 (N.2.2 + 2 + 2 * i0) 0 = kd := fun hw3 i0 hi0 => by
            rw [← hI1, upd2_ne (by omega), ← z0]; exact gd_I hw3 z i0 hi0
          have nM : ∀ a, a ≠ X + 2 → upd2 M.1 (X + 1 + 1) ng (some N.2.2) a = M.1 a := fun a ha => upd2_ne ha
          have gww : ∀ nl' LA', nl ≤ nl' → nl' ≤ nl + z → r' 0 7 = nI nl' → (∀ u, u < nl → LA' u = LA u) → (∀ u u', u < u' → u' < nl' → LA' u + 1 < LA' u') → (∀ u, u < nl' → X + 137 ≤ LA' u ∧ LA' u + 1 < M.2.2 ∧ M.2.1 (LA' u) = (3, 2)) → (∀ i0, i0 < z → LnR (upd2 M.1 (X + 1 + 1) ng (some N.2.2), M.2) (RI (X + 111) r' n I1) L r' rl (X + 137) (N.2.2 + 1) ng i0) → (∀ j p, j < 20 → M.1 (N.2.2 + 1) j = some p → M.1 p 1 = some (p + 1) ∧ p ≠ X + 2 ∧ ∃ u, u < nl' ∧ r' 3 (20 * ng + j) = nI u ∧ LA' u = p) → RI (X + 111) r n I1 = I1 ∧ GV X (i + 1) (ng + 1) nt ns mem nth sc nl' (upd2 M.1 (X + 1 + 1) ng (some N.2.2), M.2) (RI (X + 111) r' n I1) L r' rl n q S k kl LA' := by
            intro nl' LA' c1 c2 c3 c4 c5 c6 c7 c8
            refine GV.grid h' hZ hst (by omega) hng2 hN ?_ iO iP ?_ c1 (by omega) c4 c5 c6 (fun f a b => ?_) ?_ c3 (fun j hj => ?_) (fun j hj => ?_) (fun u hu => ?_) (fun o ho => ?_) ⟨N.2.2, N.2.2 + 1, z, ⟨?_, ?_, ?_, ?_, hz⟩, by omega, by omega, ?_, ⟨kk, hkk, ?_⟩, ?_, c7⟩ ⟨?_, ?_⟩ (fun j p hj hp => ?_)
            · show upd2 M.1 (X + 1 + 1) ng (some N.2.2) (X + 1 + 1) ng = _
              rw [upd2_row, up_s]
            · rw [← hI1, upd2_row, up_s]
            · rw [← hr', upd2_row, up_ne b]; exact grr_0 a z
            · rw [← hr', upd2_row, up_s]
            · rw [r1.1, r1.2, up_ne hj, up_ne hj]; exact ⟨rfl, rfl⟩
            · rw [ro 3 (by omega)]; exact (grr_3 z).1 j hj
            · rw [ro 4 (by omega)]; exact (grr_4 z).1 u hu
            · rw [ro o (by omega)]; exact grr_o ho z
            · show upd2 M.1 (X + 1 + 1) ng (some N.2.2) (X + 1 + 1) ng = _
              rw [upd2_row, up_s]
            · exact (msh _ (by omega)).trans sh1
            · show upd2 M.1 (X + 1 + 1) ng (some N.2.2) N.2.2 1 = _
              rw [nM _ (by omega), mrf _ (by omega) (by omega)]; exact rf1
            · exact (msh _ (by omega)).trans sh2
            · rw [show RI (X + 111) r' n I1 N.2.2 = I1 N.2.2 from pt_out (by omega), iG, r1.1, up_s]
            · rw [r1.1, up_s]; exact hkd
            · rw [r1.2, up_s]
            · show upd2 M.1 (X + 1 + 1) ng (some N.2.2) N.2.2 1 = _
              rw [nM _ (by omega), mrf _ (by omega) (by omega)]; exact rf1
            · show N.2.2 + 1 < M.2.2
              omega
            · have hp2 : upd2 M.1 (X + 1 + 1) ng (some N.2.2) (N.2.2 + 1) j = some p := hp
              rw [nM _ (by omega)] at hp2
              obtain ⟨d1, d2, d3⟩ := c8 j p hj hp2
              exact ⟨by show upd2 M.1 (X + 1 + 1) ng (some N.2.2) p 1 = _; rw [nM _ d2]; exact d1, d3⟩
          have h2 := n_grid_ok (l := l) (D := D) (B := B) (r := r) (n := n) (G := I1) (L := L) (hF.grow hsz hN (by omega)) g7 g2 hng hng2 hk hz hw hst1 hLN.1.1 (by omega)
          rw [hr'] at h2
          by_cases hw3 : w = 13
          · obtain ⟨e1, e2⟩ := gww nl LA (Nat.le_refl _) (by omega) (by rw [← hr', upd2_row, up_ne (by omega), grr_07 hw3]; exact hLN.1.1) (fun _ _ => rfl) hLN.2.1 (fun u hu => by
                obtain ⟨d1, d2, d3⟩ := hLN.2.2.1 u hu
                exact ⟨d1, by omega, (msh _ (by omega)).trans ((sh0 _ (by omega)).trans d3)⟩) (fun i0 hi0 => Or.inl ⟨by show upd2 M.1 (X + 1 + 1) ng (some N.2.2) (N.2.2 + 1) i0 = _; rw [nM _ (by omega)]; exact mno hw3 i0 hi0, by rw [ro 3 (by omega), (grr_3 z).2 i0 hi0, if_pos hw3]⟩) (fun j p hj hp => by
                exfalso
                by_cases e : j < z
                · rw [mno hw3 j e] at hp; exact absurd hp (by simp)
                · rw [mlas j (by omega)] at hp; exact absurd hp (by simp))
            rw [e1] at h2
            exact ⟨_, 26, 182, _, _, _, _, _, by omega, by omega, (by intro u hu; exact ⟨iO u (by omega) (by omega), (show RI (X + 111) r' n I1 u = I1 u from pt_out (by omega)).trans (iO u (by omega) (by omega)), hN.2.1 u (by omega)⟩), h1, h2, _, _, _, _, _, _, _, _, _, _, _, _, _, _, _, e2⟩
          · rw [if_neg hw3] at msz
            obtain ⟨e1, e2⟩ := gww (nl + z) (fun u => if u < nl then LA u else N.2.2 + 2 + 2 * (u - nl)) (by omega) (Nat.le_refl _) (by rw [← hr', upd2_row, up_ne (by omega)]; exact F_gr_7 hLN.1.1 (by omega) z) (fun u hu => if_pos hu) (fun u u' a b => by
                try simp only
                by_cases e : u' < nl
                · rw [if_pos e, if_pos (show u < nl by omega)]; exact hLN.2.1 u u' a e
                · rw [if_neg e]
                  by_cases e2 : u < nl
                  · rw [if_pos e2]
                    have := (hLN.2.2.1 u e2).2.1
                    omega
                  · rw [if_neg e2]; omega) (fun u hu => by
                try simp only
                by_cases e : u < nl
                · rw [if_pos e]
                  obtain ⟨d1, d2, d3⟩ := hLN.2.2.1 u e
                  exact ⟨d1, by omega, (msh _ (by omega)).trans ((sh0 _ (by omega)).trans d3)⟩
                · rw [if_neg e]
                  exact ⟨by omega, by omega, (mln hw3 (u - nl) (by omega)).2.1⟩) (fun i0 hi0 => by
                obtain ⟨d1, d2, d3, d4⟩ := mln hw3 i0 hi0
                refine Or.inr ⟨N.2.2 + 2 + 2 * i0, N.2.2 + 2 + 2 * i0 + 1, w, nl + i0, ⟨?_, d2, ?_, d4, by omega⟩, by omega, by omega, ?_, by omega, ?_, ?_, fun j hj => ?_⟩
                · show upd2 M.1 (X + 1 + 1) ng (some N.2.2) (N.2.2 + 1) i0 = _
                  rw [nM _ (by omega)]; exact d1
                · show upd2 M.1 (X + 1 + 1) ng (some N.2.2) (N.2.2 + 2 + 2 * i0) 1 = _
                  rw [nM _ (by omega)]; exact d3
                · rw [ro 3 (by omega), (grr_3 z).2 i0 hi0, if_neg hw3]
                · rw [ro 4 (by omega)]; exact (grr_4 z).2 hw3 i0 hi0
                · rw [show RI (X + 111) r' n I1 (N.2.2 + 2 + 2 * i0) = I1 (N.2.2 + 2 + 2 * i0) from pt_out (by omega), iL hw3 i0 hi0, r1.1, up_s]
                · rw [hLN.1.2 (nl + i0) (by omega) (by omega) j (by omega)]
                  exact ((hZ (N.2.2 + 2 + 2 * i0 + 1) (by omega)).2 j).2.1) (fun j p hj hp => by
                by_cases e : j < z
                · obtain ⟨d1, d2, d3, d4⟩ := mln hw3 j e
                  have ep : N.2.2 + 2 + 2 * j = p := Option.some.inj (d1.symm.trans hp)
                  subst ep
                  refine ⟨d3, by omega, nl + j, by omega, by rw [ro 3 (by omega), (grr_3 z).2 j e, if_neg hw3], ?_⟩
                  try simp only
                  rw [if_neg (by omega)]
                  omega
                · rw [mlas j (by omega)] at hp; exact absurd hp (by simp))
            rw [e1] at h2
            exact ⟨_, 26, 182, _, _, _, _, _, by omega, by omega, (by intro u hu; exact ⟨iO u (by omega) (by omega), (show RI (X + 111) r' n I1 u = I1 u from pt_out (by omega)).trans (iO u (by omega) (by omega)), hN.2.1 u (by omega)⟩), h1, h2, _, _, _, _, _, _, _, _, _, _, _, _, _, _, _, e2⟩
      · have e6 : ng = 6 := by omega
        subst e6
        exact JR.same (v := -3) h' (g_grid_full hA.1 hX h'.fp hok hst2 g1) (n_grid_full hF g7 g2 hok hst1)
  · exact JR.same (v := -1) h' (g_grid_bad hok) (n_grid_bad hF g7 g2 hng hok)
end GRID2

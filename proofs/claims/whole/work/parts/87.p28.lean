/-! ===== readers, shares, on both sides ===== -/
section TASKS3
variable {l : Launch} {D : va_G} {B X i ng nt ns mem nth sc nl F P : Nat} {N N' : NT} {I I1 : MI} {L L1 : ML} {r r' : MI} {rl rl' : ML} {n n' : Nat → Int32} {q q' : Nat → Int64} {S S' : Int64} {k k' : MI} {kl kl' : ML} {LA : Nat → Nat} {x y z p f nd bd kd fr to : Int32} {a : Int64}
theorem j_reader (h : GV X i ng nt ns mem nth sc nl N I L r rl n q S k kl LA) (hZ : Zr N I L) : JR l D B X i vi mX11_reader mX12_reader [vi z, vi x, vi kd, vi nd, vi bd] N I L := by
  have h' := h
  obtain ⟨⟨hA, hF, hsz⟩, ⟨⟨v1, v2⟩, v3, v4⟩, hT, ⟨⟨g1, g2⟩, ⟨g3, g4⟩, g5, ⟨g6, g6'⟩, g7⟩, hAU, hSc, hLN, hC⟩ := h
  have hX := hA.2.2.1
  have hng := hT.2.2.2.1.1
  have em : I X 1 = r 0 2 := g4.trans hT.2.2.2.1.2.1.symm
  obtain ⟨rt1, rt2⟩ := rt_eq h'
  have hGr : GrP N (X + 1) ng := fun j hj => by
    obtain ⟨ga, la, zz, x1, -⟩ := place hT hj
    exact ⟨ga, la, zz, x1⟩
  by_cases hok : inR x ng ∧ (nI 0 ≤ kd ∧ kd ≤ nI 5) ∧ ((nI 0 ≤ nd ∧ nd ≤ I X 1) ∧ nI 1 ≤ bd ∧ bd ≤ nI 1000)
  · have hok2 : inR x ng ∧ (nI 0 ≤ kd ∧ kd ≤ nI 5) ∧ NbOk r nd bd := by unfold NbOk; rw [← em]; exact hok
    obtain ⟨hx, hok⟩ := hok
    obtain ⟨g0, hg, rfl⟩ := inR_of hx (by omega)
    obtain ⟨ga, la, zz, x1, -⟩ := place hT hg
    by_cases hst : n 246 = nI 1
    · have h1 := g_reader_ref (l := l) (D := D) (B := B) (L := L) (z := z) hA.1 hX h'.fp g1 hng hg x1 hok (by rw [rt1 hst]; decide)
      rw [rt1 hst] at h1
      exact JR.same (v := -2) h' h1 (n_reader_state hF g7 hT.2.1.2.2 g2 hng hT.2.2.1.2.2 hT.2.2.1.2.1 hok2 (hst.trans s1_1))
    · have hst1 : ¬ n 246 = 1 := fun y => hst (y.trans s1_1.symm)
      by_cases hnt2 : nt < 20
      · have h1 := g_reader_ok (l := l) (D := D) (B := B) (I := I) (L := L) (z := z) hA.1 hX h'.fp g1 hng hg x1 hok (by rw [h'.s16]; exact hst) hT.2.1.1 hnt2 (by omega)
        obtain ⟨so, hso, hso2⟩ : ∃ so, (if z = 0 then nI 2 else nI 3) = so ∧ (so = nI 2 ∨ so = nI 3) := ⟨_, rfl, by split; exact Or.inl rfl; exact Or.inr rfl⟩
        obtain ⟨I1, hI1⟩ : ∃ I1, upd2 (upd2 (T_I I N.2.2 so nd bd) N.2.2 4 kd) (X + 1) 5 (nI (nt + 1)) = I1 := ⟨_, rfl⟩
        obtain ⟨r', hr'⟩ : ∃ r', F_cm (upd2 (upd2 r 12 nt (nI g0)) 13 nt kd) nt so nd bd = r' := ⟨_, rfl⟩
        rw [hso] at h1
        rw [hI1] at h1
        have hN : Gww N (upd2 (upd2 N.1 N.2.2 3 (some ga)) (X + 1 + 2) nt (some N.2.2), (up N.2.1 N.2.2 (5, 5), N.2.2 + 1)) (X + 3) nt := ⟨by show N.2.2 ≤ N.2.2 + 1; omega, fun u hu => up_ne (by omega), fun u j hu hne => by
          show upd2 (upd2 N.1 N.2.2 3 (some ga)) (X + 1 + 2) nt (some N.2.2) u j = _
          by_cases e : u = X + 1 + 2
          · subst e
            rw [upd2_row, up_ne (fun e2 => hne ⟨rfl, e2⟩), upd2_ne (by omega)]
          · rw [upd2_ne e, upd2_ne (by omega)]⟩
        have iN : ∀ j, I1 N.2.2 j = upd2 (T_I I N.2.2 so nd bd) N.2.2 4 kd N.2.2 j := fun j => by rw [← hI1, upd2_ne (by omega)]
        have t0 : r' 6 nt = so ∧ r' 10 nt = nd ∧ r' 11 nt = bd ∧ r' 12 nt = nI g0 ∧ r' 13 nt = kd := by
          rw [← hr']
          unfold F_cm
          refine ⟨?_, ?_, ?_, ?_, ?_⟩ <;> simp (disch := omega) only [upd2_row, upd2_ne, up_ne, up_s]
        have i0 : I1 N.2.2 0 = so ∧ I1 N.2.2 1 = nd ∧ I1 N.2.2 2 = bd ∧ I1 N.2.2 4 = kd := by
          unfold T_I at iN
          refine ⟨?_, ?_, ?_, ?_⟩ <;> (rw [iN]; simp (disch := omega) only [upd2_row, upd2_ne, up_ne, up_s])
        obtain ⟨-, ⟨n1, n2⟩, b1, b2⟩ := hok
        rw [g4] at n2
        obtain ⟨nd', nd1, nd2, nd3⟩ := rng_of n1 n2 (by have := hT.2.2.2.1.2.2; omega) (by omega)
        obtain ⟨bd', bd1, bd2, bd3⟩ := rng_of b1 b2 (by omega) (by omega)
        have hTk : TkR (upd2 (upd2 N.1 N.2.2 3 (some ga)) (X + 1 + 2) nt (some N.2.2), (up N.2.1 N.2.2 (5, 5), N.2.2 + 1)) (RI (X + 111) r' (F_cmN n) I1) (RLg (X + 111) rl S q L) r' rl (X + 137) (X + 1) ng ns mem nt := by
          have o1 : RI (X + 111) r' (F_cmN n) I1 N.2.2 = I1 N.2.2 := pt_out (by omega)
          refine ⟨N.2.2, ?_, by omega, ?_, ?_, ?_, ⟨nd', nd2, ?_⟩, ⟨bd', bd1, bd2, ?_⟩, Or.inr (Or.inl ⟨?_, ?_, g0, ga, hg, ?_, ?_, ?_, ?_⟩)⟩
          · show upd2 (upd2 N.1 N.2.2 3 (some ga)) (X + 1 + 2) nt (some N.2.2) (X + 1 + 2) nt = _
            rw [upd2_row, up_s]
          · rw [o1, i0.1, t0.1]
          · rw [o1, i0.2.1, t0.2.1]
          · rw [o1, i0.2.2.1, t0.2.2.1]
          · rw [t0.2.1]; exact nd3
          · rw [t0.2.2.1]; exact bd3
          · exact up_s _ _ _
          · rw [t0.1]; exact hso2
          · exact t0.2.2.2.1
          · show upd2 (upd2 N.1 N.2.2 3 (some ga)) (X + 1 + 2) nt (some N.2.2) (X + 1 + 1) g0 = _
            rw [upd2_ne (by omega), upd2_ne (by omega)]; exact x1.1
          · show upd2 (upd2 N.1 N.2.2 3 (some ga)) (X + 1 + 2) nt (some N.2.2) N.2.2 3 = _
            rw [upd2_ne (by omega), upd2_row, up_s]
          · rw [o1, i0.2.2.2, t0.2.2.2.2]
        obtain ⟨⟨w1, w2⟩, w3⟩ := GV.task (I1 := I1) (L1 := L) (r' := r') (rl' := rl) h' hZ hst hnt2 hN (fun u hu hne => by rw [← hI1]; unfold T_I; simp (disch := omega) only [upd2_ne]) (fun j hj => by rw [← hI1]; unfold T_I; simp (disch := omega) only [upd2_row, upd2_ne, up_ne]) (by rw [← hI1, upd2_row, up_s]) (fun u hu => rfl) (fun j hj => by rw [← hr']; unfold F_cm; simp (disch := omega) only [upd2_row, upd2_ne, up_ne]) (by rw [← hr']; unfold F_cm; rw [upd2_row, up_s])
          (fun o h1 h2 j hj => by
            refine ⟨?_, rfl⟩
            rw [← hr']
            unfold F_cm
            have e : ∀ (m : MI) (c : Nat) (v : Int32), upd2 m c nt v o j = m o j := fun m c v => by
              by_cases e : o = c
              · subst e; rw [upd2_row, up_ne hj]
              · rw [upd2_ne e]
            rw [upd2_ne (by omega), e, e, e, e, e]) (fun o h1 h2 => ⟨by rw [← hr']; unfold F_cm; simp (disch := omega) only [upd2_ne], rfl⟩) hTk
        have h3 := n_reader_ok (l := l) (D := D) (B := B) (r := r) (n := n) (G := I1) (rl := rl) (S := S) (q := q) (GL := L) (z := z) (hF.grow hsz hN (by omega)) g7 hT.2.1.2.2 g2 hng hT.2.2.1.2.2 hT.2.2.1.2.1 hok2 hst1 hnt2
        rw [hso, hr', w1, w2] at h3
        rw [w2] at w3
        exact ⟨_, 1, 5, _, _, _, _, _, by omega, by omega, (by intro u hu; have e : I1 u = I u := (by rw [← hI1]; unfold T_I; simp (disch := omega) only [upd2_ne]); exact ⟨e, (show RI (X + 111) r' (F_cmN n) I1 u = I1 u from pt_out (by omega)).trans e, up_ne (by omega)⟩), h1, h3, _, _, _, _, _, _, _, _, _, _, _, _, _, _, _, w3⟩
      · have e20 : nt = 20 := by have := hT.2.1.2.1; omega
        have h1 := g_reader_ref (l := l) (D := D) (B := B) (L := L) (z := z) hA.1 hX h'.fp g1 hng hg x1 hok (by rw [(rt2 hst).2 hnt2]; decide)
        rw [(rt2 hst).2 hnt2] at h1
        exact JR.same (v := -3) h' h1 (n_reader_full hF g7 hT.2.1.2.2 g2 hng hT.2.2.1.2.2 hT.2.2.1.2.1 hok2 hst1 (by rw [hT.2.1.2.2, e20]))
  · exact JR.same (v := -1) h' (g_reader_bad hA.1 h'.fp g1 hng hGr hok) (n_reader_bad hF g7 hT.2.1.2.2 g2 hng hT.2.2.1.2.2 hT.2.2.1.2.1 (by unfold NbOk; rw [← em]; exact hok))
theorem j_share (h : GV X i ng nt ns mem nth sc nl N I L r rl n q S k kl LA) (hZ : Zr N I L) : JR l D B X i vi mX11_share mX12_share [vi x, vi fr, vi to, vi nd, vi bd] N I L := by
  have h' := h
  obtain ⟨⟨hA, hF, hsz⟩, ⟨⟨v1, v2⟩, v3, v4⟩, hT, ⟨⟨g1, g2⟩, ⟨g3, g4⟩, g5, ⟨g6, g6'⟩, g7⟩, hAU, hSc, hLN, hC⟩ := h
  have hX := hA.2.2.1
  have hng := hT.2.2.2.1.1
  have hns := hT.2.2.1.2.1
  have em : I X 1 = r 0 2 := g4.trans hT.2.2.2.1.2.1.symm
  obtain ⟨rt1, rt2⟩ := rt_eq h'
  by_cases hok : inR x ns ∧ ¬ fr < 0 ∧ ¬ to < fr ∧ ¬ nI 20 < to ∧ ((nI 0 ≤ nd ∧ nd ≤ I X 1) ∧ nI 1 ≤ bd ∧ bd ≤ nI 1000)
  · have hok2 : inR x ns ∧ ¬ fr < 0 ∧ ¬ to < fr ∧ ¬ nI 20 < to ∧ NbOk r nd bd := by unfold NbOk; rw [← em]; exact hok
    obtain ⟨hx, hok⟩ := hok
    obtain ⟨s, hs, rfl⟩ := inR_of hx (by omega)
    obtain ⟨sa, sg, sga, x1, -⟩ := hT.2.2.2.2.2.1 s hs
    by_cases hst : n 246 = nI 1
    · have h1 := g_share_ref (l := l) (D := D) (B := B) (L := L) hA.1 hX h'.fp hT.2.2.1.1 hns hs hok (by rw [rt1 hst]; decide)
      rw [rt1 hst] at h1
      exact JR.same (v := -2) h' h1 (n_share_state hF g7 hT.2.1.2.2 g2 hng hT.2.2.1.2.2 hT.2.2.1.2.1 hok2 (hst.trans s1_1))
    · have hst1 : ¬ n 246 = 1 := fun y => hst (y.trans s1_1.symm)
      by_cases hnt2 : nt < 20
      · have h1 := g_share_ok (l := l) (D := D) (B := B) (I := I) (L := L) hA.1 hX h'.fp hT.2.2.1.1 hns hs x1 hok (by rw [h'.s16]; exact hst) hT.2.1.1 hnt2 (by omega) (by omega)
        obtain ⟨I1, hI1⟩ : ∃ I1, upd2 (upd2 (upd2 (upd2 (T_I I N.2.2 (nI 4) nd bd) N.2.2 4 (nI s)) N.2.2 5 fr) N.2.2 6 to) (X + 1) 5 (nI (nt + 1)) = I1 := ⟨_, rfl⟩
        obtain ⟨r', hr'⟩ : ∃ r', F_cm (upd2 (upd2 (upd2 r 12 nt (nI s)) 13 nt fr) 14 nt to) nt (nI 4) nd bd = r' := ⟨_, rfl⟩
        rw [hI1] at h1
        have hN : Gww N (upd2 (upd2 N.1 N.2.2 3 (some sa)) (X + 1 + 2) nt (some N.2.2), (up N.2.1 N.2.2 (7, 7), N.2.2 + 1)) (X + 3) nt := ⟨by show N.2.2 ≤ N.2.2 + 1; omega, fun u hu => up_ne (by omega), fun u j hu hne => by
          show upd2 (upd2 N.1 N.2.2 3 (some sa)) (X + 1 + 2) nt (some N.2.2) u j = _
          by_cases e : u = X + 1 + 2
          · subst e
            rw [upd2_row, up_ne (fun e2 => hne ⟨rfl, e2⟩), upd2_ne (by omega)]
          · rw [upd2_ne e, upd2_ne (by omega)]⟩
        have iN : ∀ j, I1 N.2.2 j = upd2 (upd2 (upd2 (T_I I N.2.2 (nI 4) nd bd) N.2.2 4 (nI s)) N.2.2 5 fr) N.2.2 6 to N.2.2 j := fun j => by rw [← hI1, upd2_ne (by omega)]
        have t0 : r' 6 nt = nI 4 ∧ r' 10 nt = nd ∧ r' 11 nt = bd ∧ r' 12 nt = nI s ∧ r' 13 nt = fr ∧ r' 14 nt = to := by
          rw [← hr']
          unfold F_cm
          refine ⟨?_, ?_, ?_, ?_, ?_, ?_⟩ <;> simp (disch := omega) only [upd2_row, upd2_ne, up_ne, up_s]
        have i0 : I1 N.2.2 0 = nI 4 ∧ I1 N.2.2 1 = nd ∧ I1 N.2.2 2 = bd ∧ I1 N.2.2 4 = nI s ∧ I1 N.2.2 5 = fr ∧ I1 N.2.2 6 = to := by
          unfold T_I at iN
          refine ⟨?_, ?_, ?_, ?_, ?_, ?_⟩ <;> (rw [iN]; simp (disch := omega) only [upd2_row, upd2_ne, up_ne, up_s])
        obtain ⟨fr0, tf, t20, ⟨n1, n2⟩, b1, b2⟩ := hok
        rw [g4] at n2
        obtain ⟨nd', nd1, nd2, nd3⟩ := rng_of n1 n2 (by have := hT.2.2.2.1.2.2; omega) (by omega)
        obtain ⟨bd', bd1, bd2, bd3⟩ := rng_of b1 b2 (by omega) (by omega)
        obtain ⟨ff, ff1, ff2⟩ := nn_of fr0
        have tf2 := Int32.not_lt.mp tf
        rw [ff2] at tf2
        have ff3 : ff ≤ 20 := (nI_leI (by omega) (by omega)).mp (Int32.le_trans tf2 (Int32.not_lt.mp t20))
        obtain ⟨tt, tt1, tt2, tt3⟩ := rng_of tf2 (Int32.not_lt.mp t20) (by omega) (by omega)
        have hTk : TkR (upd2 (upd2 N.1 N.2.2 3 (some sa)) (X + 1 + 2) nt (some N.2.2), (up N.2.1 N.2.2 (7, 7), N.2.2 + 1)) (RI (X + 111) r' (F_cmN n) I1) (RLg (X + 111) rl S q L) r' rl (X + 137) (X + 1) ng ns mem nt := by
          have o1 : RI (X + 111) r' (F_cmN n) I1 N.2.2 = I1 N.2.2 := pt_out (by omega)
          refine ⟨N.2.2, ?_, by omega, ?_, ?_, ?_, ⟨nd', nd2, ?_⟩, ⟨bd', bd1, bd2, ?_⟩, Or.inr (Or.inr ⟨?_, ?_, s, sa, ff, tt, hs, ?_, ?_, ?_, ?_, tt1, tt2, ?_, ?_, ?_, ?_⟩)⟩
          · show upd2 (upd2 N.1 N.2.2 3 (some sa)) (X + 1 + 2) nt (some N.2.2) (X + 1 + 2) nt = _
            rw [upd2_row, up_s]
          · rw [o1, i0.1, t0.1]
          · rw [o1, i0.2.1, t0.2.1]
          · rw [o1, i0.2.2.1, t0.2.2.1]
          · rw [t0.2.1]; exact nd3
          · rw [t0.2.2.1]; exact bd3
          · exact up_s _ _ _
          · exact t0.1
          · exact t0.2.2.2.1
          · show upd2 (upd2 N.1 N.2.2 3 (some sa)) (X + 1 + 2) nt (some N.2.2) (X + 1 + 3) s = _
            rw [upd2_ne (by omega), upd2_ne (by omega)]; exact x1
          · show upd2 (upd2 N.1 N.2.2 3 (some sa)) (X + 1 + 2) nt (some N.2.2) N.2.2 3 = _
            rw [upd2_ne (by omega), upd2_row, up_s]
          · rw [o1]; exact i0.2.2.2.1
          · rw [t0.2.2.2.2.1]; exact ff2
          · rw [o1, i0.2.2.2.2.1]; exact ff2
          · rw [t0.2.2.2.2.2]; exact tt3
          · rw [o1, i0.2.2.2.2.2]; exact tt3
        obtain ⟨⟨w1, w2⟩, w3⟩ := GV.task (I1 := I1) (L1 := L) (r' := r') (rl' := rl) h' hZ hst hnt2 hN (fun u hu hne => by rw [← hI1]; unfold T_I; simp (disch := omega) only [upd2_ne]) (fun j hj => by rw [← hI1]; unfold T_I; simp (disch := omega) only [upd2_row, upd2_ne, up_ne]) (by rw [← hI1, upd2_row, up_s]) (fun u hu => rfl) (fun j hj => by rw [← hr']; unfold F_cm; simp (disch := omega) only [upd2_row, upd2_ne, up_ne]) (by rw [← hr']; unfold F_cm; rw [upd2_row, up_s])
          (fun o h1 h2 j hj => by
            refine ⟨?_, rfl⟩
            rw [← hr']
            unfold F_cm
            have e : ∀ (m : MI) (c : Nat) (v : Int32), upd2 m c nt v o j = m o j := fun m c v => by
              by_cases e : o = c
              · subst e; rw [upd2_row, up_ne hj]
              · rw [upd2_ne e]
            rw [upd2_ne (by omega), e, e, e, e, e, e]) (fun o h1 h2 => ⟨by rw [← hr']; unfold F_cm; simp (disch := omega) only [upd2_ne], rfl⟩) hTk
        have h3 := n_share_ok (l := l) (D := D) (B := B) (r := r) (n := n) (G := I1) (rl := rl) (S := S) (q := q) (GL := L) (hF.grow hsz hN (by omega)) g7 hT.2.1.2.2 g2 hng hT.2.2.1.2.2 hT.2.2.1.2.1 hok2 hst1 hnt2
        rw [hr', w1, w2] at h3
        rw [w2] at w3
        exact ⟨_, 1, 7, _, _, _, _, _, by omega, by omega, (by intro u hu; have e : I1 u = I u := (by rw [← hI1]; unfold T_I; simp (disch := omega) only [upd2_ne]); exact ⟨e, (show RI (X + 111) r' (F_cmN n) I1 u = I1 u from pt_out (by omega)).trans e, up_ne (by omega)⟩), h1, h3, _, _, _, _, _, _, _, _, _, _, _, _, _, _, _, w3⟩
      · have e20 : nt = 20 := by have := hT.2.1.2.1; omega
        have h1 := g_share_ref (l := l) (D := D) (B := B) (L := L) hA.1 hX h'.fp hT.2.2.1.1 hns hs hok (by rw [(rt2 hst).2 hnt2]; decide)
        rw [(rt2 hst).2 hnt2] at h1
        exact JR.same (v := -3) h' h1 (n_share_full hF g7 hT.2.1.2.2 g2 hng hT.2.2.1.2.2 hT.2.2.1.2.1 hok2 hst1 (by rw [hT.2.1.2.2, e20]))
  · exact JR.same (v := -1) h' (g_share_bad hA.1 h'.fp hT.2.2.1.1 hns hok) (n_share_bad hF g7 hT.2.1.2.2 g2 hng hT.2.2.1.2.2 hT.2.2.1.2.1 (by unfold NbOk; rw [← em]; exact hok))
end TASKS3

/-! ===== ways, readers, shares, on both sides ===== -/
theorem nn_of {f : Int32} (h : ¬ f < 0) : ∃ m, m < 2 ^ 31 ∧ f = nI m := by
  have h0 : 0 ≤ f.toInt := by
    have h1 := Int32.le_iff_toInt_le.mp (Int32.not_lt.mp h)
    have e : (0 : Int32).toInt = 0 := by decide
    omega
  by_cases hm : f.toInt < 2147483647
  · obtain ⟨m, h1, h2⟩ := inR_of (x := f) (n := 2147483647) (by unfold inR; omega) (by omega)
    exact ⟨m, by omega, h2⟩
  · refine ⟨2147483647, by omega, Int32.toInt_inj.mp ?_⟩
    have := f.toInt_lt
    rw [nI_toInt (by omega)]
    omega
section TASKS2
variable {l : Launch} {D : va_G} {B X i ng nt ns mem nth sc nl F P : Nat} {N N' : NT} {I I1 : MI} {L L1 : ML} {r r' : MI} {rl rl' : ML} {n n' : Nat → Int32} {q q' : Nat → Int64} {S S' : Int64} {k k' : MI} {kl kl' : ML} {LA : Nat → Nat} {x y z p f nd bd kd fr to : Int32} {a : Int64}
theorem rt_eq (h : GV X i ng nt ns mem nth sc nl N I L r rl n q S k kl LA) : (n 246 = nI 1 → F_rt (I (X + 6 + 0) 16) (I (X + 1) 5) = -2) ∧ (¬ n 246 = nI 1 → (nt < 20 → F_rt (I (X + 6 + 0) 16) (I (X + 1) 5) = 0) ∧ (¬ nt < 20 → F_rt (I (X + 6 + 0) 16) (I (X + 1) 5) = -3)) := by
  rw [h.s16, h.2.2.1.2.1.1]
  have hnt := h.2.2.1.2.1.2.1
  unfold F_rt
  refine ⟨fun e => if_pos e, fun e => ⟨fun ht => ?_, fun ht => ?_⟩⟩
  · rw [if_neg e, if_pos ((nI_ltI (by omega) (by omega)).mpr ht)]; rfl
  · rw [if_neg e, if_neg (fun y => ht ((nI_ltI (by omega) (by omega)).mp y))]
theorem j_way (h : GV X i ng nt ns mem nth sc nl N I L r rl n q S k kl LA) (hZ : Zr N I L) : JR l D B X i vi mX11_way mX12_way [vi z, vi p, vl a, vi f, vi nd, vi bd] N I L := by
  have h' := h
  obtain ⟨⟨hA, hF, hsz⟩, ⟨⟨v1, v2⟩, v3, v4⟩, hT, ⟨⟨g1, g2⟩, ⟨g3, g4⟩, g5, ⟨g6, g6'⟩, g7⟩, hAU, hSc, hLN, hC⟩ := h
  have hX := hA.2.2.1
  have hng := hT.2.2.2.1.1
  have em : I X 1 = r 0 2 := g4.trans hT.2.2.2.1.2.1.symm
  obtain ⟨rt1, rt2⟩ := rt_eq h'
  by_cases hok : (nI 1 ≤ p ∧ p ≤ 100000) ∧ ¬ a = -9223372036854775808 ∧ ¬ f < 0 ∧ ((nI 0 ≤ nd ∧ nd ≤ I X 1) ∧ nI 1 ≤ bd ∧ bd ≤ nI 1000)
  · have hok2 : (nI 1 ≤ p ∧ p ≤ 100000) ∧ ¬ a = -9223372036854775808 ∧ ¬ f < 0 ∧ NbOk r nd bd := by unfold NbOk; rw [← em]; exact hok
    by_cases hst : n 246 = nI 1
    · have h1 := g_way_ref (l := l) (D := D) (B := B) (L := L) (z := z) hA.1 hX h'.fp hok (by rw [rt1 hst]; decide)
      rw [rt1 hst] at h1
      exact JR.same (v := -2) h' h1 (n_way_state hF g7 hT.2.1.2.2 g2 hng hT.2.2.1.2.2 hT.2.2.1.2.1 hok2 (hst.trans s1_1))
    · have hst1 : ¬ n 246 = 1 := fun y => hst (y.trans s1_1.symm)
      by_cases hnt2 : nt < 20
      · have h1 := g_way_ok (l := l) (D := D) (B := B) (I := I) (L := L) (z := z) hA.1 hX h'.fp hok (by rw [h'.s16]; exact hst) hT.2.1.1 hnt2 (by omega)
        obtain ⟨so, hso, hso2⟩ : ∃ so, (if z = 0 then nI 0 else nI 1) = so ∧ (so = nI 0 ∨ so = nI 1) := ⟨_, rfl, by split; exact Or.inl rfl; exact Or.inr rfl⟩
        obtain ⟨I1, hI1⟩ : ∃ I1, upd2 (upd2 (upd2 (T_I I N.2.2 so nd bd) N.2.2 3 p) N.2.2 5 f) (X + 1) 5 (nI (nt + 1)) = I1 := ⟨_, rfl⟩
        obtain ⟨r', hr'⟩ : ∃ r', F_cm (upd2 (upd2 r 7 nt p) 9 nt f) nt so nd bd = r' := ⟨_, rfl⟩
        rw [hso] at h1
        rw [hI1] at h1
        have hN : Gww N (upd2 N.1 (X + 1 + 2) nt (some N.2.2), (up N.2.1 N.2.2 (8, 6), N.2.2 + 1)) (X + 3) nt := ⟨by show N.2.2 ≤ N.2.2 + 1; omega, fun u hu => up_ne (by omega), fun u j hu hne => by
          show upd2 N.1 (X + 1 + 2) nt (some N.2.2) u j = _
          by_cases e : u = X + 1 + 2
          · subst e
            rw [upd2_row, up_ne (fun e2 => hne ⟨rfl, e2⟩)]
          · rw [upd2_ne e]⟩
        have iN : ∀ j, I1 N.2.2 j = upd2 (upd2 (T_I I N.2.2 so nd bd) N.2.2 3 p) N.2.2 5 f N.2.2 j := fun j => by rw [← hI1, upd2_ne (by omega)]
        have t0 : r' 6 nt = so ∧ r' 10 nt = nd ∧ r' 11 nt = bd ∧ r' 7 nt = p ∧ r' 9 nt = f := by
          rw [← hr']
          unfold F_cm
          refine ⟨?_, ?_, ?_, ?_, ?_⟩ <;> simp (disch := omega) only [upd2_row, upd2_ne, up_ne, up_s]
        have i0 : I1 N.2.2 0 = so ∧ I1 N.2.2 1 = nd ∧ I1 N.2.2 2 = bd ∧ I1 N.2.2 3 = p ∧ I1 N.2.2 5 = f := by
          unfold T_I at iN
          refine ⟨?_, ?_, ?_, ?_, ?_⟩ <;> (rw [iN]; simp (disch := omega) only [upd2_row, upd2_ne, up_ne, up_s])
        obtain ⟨⟨p1, p2⟩, -, f0, ⟨n1, n2⟩, b1, b2⟩ := hok
        rw [g4] at n2
        obtain ⟨nd', nd1, nd2, nd3⟩ := rng_of n1 n2 (by have := hT.2.2.2.1.2.2; omega) (by omega)
        obtain ⟨bd', bd1, bd2, bd3⟩ := rng_of b1 b2 (by omega) (by omega)
        obtain ⟨pp, pp1, pp2, pp3⟩ := rng_of p1 (show p ≤ nI 100000 from p2) (by omega) (by omega)
        obtain ⟨ff, ff1, ff2⟩ := nn_of f0
        have hTk : TkR (upd2 N.1 (X + 1 + 2) nt (some N.2.2), (up N.2.1 N.2.2 (8, 6), N.2.2 + 1)) (RI (X + 111) r' (F_cmN n) I1) (RLg (X + 111) (upd2 rl 8 nt a) S q (upd2 L N.2.2 4 a)) r' (upd2 rl 8 nt a) (X + 137) (X + 1) ng ns mem nt := by
          have o1 : RI (X + 111) r' (F_cmN n) I1 N.2.2 = I1 N.2.2 := pt_out (by omega)
          have o2 : RLg (X + 111) (upd2 rl 8 nt a) S q (upd2 L N.2.2 4 a) N.2.2 = upd2 L N.2.2 4 a N.2.2 := pt_out (by omega)
          refine ⟨N.2.2, ?_, by omega, ?_, ?_, ?_, ⟨nd', nd2, ?_⟩, ⟨bd', bd1, bd2, ?_⟩, Or.inl ⟨?_, ?_, ?_, ?_, ?_, ⟨pp, pp1, pp2, ?_⟩, ff, ff1, ?_⟩⟩
          · show upd2 N.1 (X + 1 + 2) nt (some N.2.2) (X + 1 + 2) nt = _
            rw [upd2_row, up_s]
          · rw [o1, i0.1, t0.1]
          · rw [o1, i0.2.1, t0.2.1]
          · rw [o1, i0.2.2.1, t0.2.2.1]
          · rw [t0.2.1]; exact nd3
          · rw [t0.2.2.1]; exact bd3
          · exact up_s _ _ _
          · rw [t0.1]; exact hso2
          · rw [o1, i0.2.2.2.1, t0.2.2.2.1]
          · rw [o2, upd2_row, up_s, upd2_row, up_s]
          · rw [o1, i0.2.2.2.2, t0.2.2.2.2]
          · rw [t0.2.2.2.1]; exact pp3
          · rw [t0.2.2.2.2]; exact ff2
        obtain ⟨⟨w1, w2⟩, w3⟩ := GV.task (I1 := I1) (L1 := upd2 L N.2.2 4 a) (r' := r') (rl' := upd2 rl 8 nt a) h' hZ hst hnt2 hN (fun u hu hne => by rw [← hI1]; unfold T_I; simp (disch := omega) only [upd2_ne]) (fun j hj => by rw [← hI1]; unfold T_I; simp (disch := omega) only [upd2_row, upd2_ne, up_ne]) (by rw [← hI1, upd2_row, up_s]) (fun u hu => upd2_ne (by omega)) (fun j hj => by rw [← hr']; unfold F_cm; simp (disch := omega) only [upd2_row, upd2_ne, up_ne]) (by rw [← hr']; unfold F_cm; rw [upd2_row, up_s])
          (fun o h1 h2 j hj => by
            refine ⟨?_, ?_⟩
            · rw [← hr']
              unfold F_cm
              have e : ∀ (m : MI) (c : Nat) (v : Int32), upd2 m c nt v o j = m o j := fun m c v => by
                by_cases e : o = c
                · subst e; rw [upd2_row, up_ne hj]
                · rw [upd2_ne e]
              rw [upd2_ne (by omega), e, e, e, e, e]
            · by_cases e : o = 8
              · subst e; rw [upd2_row, up_ne hj]
              · rw [upd2_ne e]) (fun o h1 h2 => ⟨by rw [← hr']; unfold F_cm; simp (disch := omega) only [upd2_ne], upd2_ne (by omega)⟩) hTk
        have h3 := n_way_ok (l := l) (D := D) (B := B) (r := r) (n := n) (G := I1) (rl := rl) (S := S) (q := q) (GL := upd2 L N.2.2 4 a) (z := z) (hF.grow hsz hN (by omega)) g7 hT.2.1.2.2 g2 hng hT.2.2.1.2.2 hT.2.2.1.2.1 hok2 hst1 hnt2
        rw [hso, hr', w1, w2] at h3
        exact ⟨_, 1, 6, _, _, _, _, _, by omega, by omega, (by intro u hu; have e : I1 u = I u := (by rw [← hI1]; unfold T_I; simp (disch := omega) only [upd2_ne]); exact ⟨e, (show RI (X + 111) r' (F_cmN n) I1 u = I1 u from pt_out (by omega)).trans e, up_ne (by omega)⟩), h1, h3, _, _, _, _, _, _, _, _, _, _, _, _, _, _, _, w3⟩
      · have e20 : nt = 20 := by have := hT.2.1.2.1; omega
        have h1 := g_way_ref (l := l) (D := D) (B := B) (L := L) (z := z) hA.1 hX h'.fp hok (by rw [(rt2 hst).2 hnt2]; decide)
        rw [(rt2 hst).2 hnt2] at h1
        exact JR.same (v := -3) h' h1 (n_way_full hF g7 hT.2.1.2.2 g2 hng hT.2.2.1.2.2 hT.2.2.1.2.1 hok2 hst1 (by rw [hT.2.1.2.2, e20]))
  · exact JR.same (v := -1) h' (g_way_bad hA.1 hok) (n_way_bad hF g7 hT.2.1.2.2 g2 hng hT.2.2.1.2.2 hT.2.2.1.2.1 (by unfold NbOk; rw [← em]; exact hok))
end TASKS2

/-! ===== the calls on runs, on both sides ===== -/
theorem rng_of {x : Int32} {a c : Nat} (h1 : nI a ≤ x) (h2 : x ≤ nI c) (hc : c < 2 ^ 30) (ha : a < 2 ^ 30) : ∃ z, a ≤ z ∧ z ≤ c ∧ x = nI z := by
  have e1 := Int32.le_iff_toInt_le.mp h1
  have e2 := Int32.le_iff_toInt_le.mp h2
  rw [nI_toInt (by omega)] at e1 e2
  obtain ⟨z, y1, y2⟩ := inR_of (x := x) (n := c + 1) (by unfold inR; omega) (by omega)
  subst y2
  rw [nI_toInt (by omega)] at e1
  exact ⟨z, by omega, by omega, rfl⟩
section RUNS
variable {l : Launch} {D : va_G} {B X i ng nt ns mem nth sc nl : Nat} {N : NT} {I I2 : MI} {L L2 : ML} {r r' : MI} {rl rl' : ML} {n n' : Nat → Int32} {q q' : Nat → Int64} {S S' : Int64} {k k' : MI} {kl kl' : ML} {LA : Nat → Nat} {x y : Int32}
theorem GV.kc (h : GV X i ng nt ns mem nth sc nl N I L r rl n q S k kl LA) {o : Nat} (ho : o < 35) : I (X + 6 + o) = k o := by
  have e := congrFun h.2.1.2.1 (X + 6 + o)
  rw [pt_row ho] at e
  exact e.symm
theorem GV.lc (h : GV X i ng nt ns mem nth sc nl N I L r rl n q S k kl LA) {o : Nat} (ho : o < 35) : L (X + 6 + o) = kl o := by
  have e := congrFun h.2.1.2.2 (X + 6 + o)
  rw [pt_row ho] at e
  exact e.symm
theorem GV.s16 (h : GV X i ng nt ns mem nth sc nl N I L r rl n q S k kl LA) : I (X + 6 + 0) 16 = n 246 := by
  rw [h.kc (by omega)]; exact h.2.2.2.2.2.2.2.1.2.2.2
theorem GV.fp (h : GV X i ng nt ns mem nth sc nl N I L r rl n q S k kl LA) : FixP (X + 6) (X + 1) N := h.2.2.1.1.1.p (Or.inl (by omega))
theorem CS.st (h : CS r nt ns mem nth i k kl n q) : n 246 = 0 ∨ n 246 = nI 1 ∨ n 246 = nI 2 ∨ n 246 = nI 3 := by
  rcases h.2 with ⟨a, -⟩ | ⟨a, -⟩ | ⟨a, -⟩
  · exact Or.inl a
  · exact Or.inr (Or.inl a)
  · exact Or.inr (Or.inr a)
theorem Fr.set (h : Fr r nt n q) {v : Int32} : Fr r nt (up n 246 v) q := by
  obtain ⟨f1, ⟨f2, f3, f4, f5⟩, ⟨g1, g2, g3, f6⟩, f7, f8, f9⟩ := h
  refine ⟨fun t ht j hj h5 => by rw [up_ne (by omega)]; exact f1 t ht j hj h5, ⟨?_, ?_, ?_, ?_⟩, ⟨?_, ?_, ?_, ?_⟩, fun h hh => by rw [up_ne (by omega)]; exact f7 h hh, fun s hs => by rw [up_ne (by omega)]; exact f8 s hs, fun t ht => f9 t ht⟩
  all_goals (rw [up_ne (by omega)]; assumption)
theorem j_run (h : GV X i ng nt ns mem nth sc nl N I L r rl n q S k kl LA) (hi : i ≤ 1000) : JR l D B X i vi mX11_run mX12_run [vi x] N I L := by
  have h' := h
  obtain ⟨⟨hA, hF, hsz⟩, hV, hT, ⟨⟨g1, g2⟩, ⟨g3, g4⟩, g5, ⟨g6, g6'⟩, g7⟩, hAU, hSc, hLN, hC⟩ := h
  have hX := hA.2.2.1
  by_cases hx : nI 1 ≤ x ∧ x ≤ nI 1000
  · have s16 := h'.s16
    by_cases hst : n 246 = nI 2 ∨ n 246 = nI 3
    · exact JR.same (v := -2) h' (g_run_state hA.1 hX hx (by rw [s16]; exact hst)) (n_run_state hF g7 hx (by rcases hst with y | y <;> (rw [y]; decide)))
    · obtain ⟨z, z1, z2, rfl⟩ := rng_of hx.1 hx.2 (by omega) (by omega)
      have hst2 : n 246 ≤ nI 1 := by
        rcases hC.st with y | y | y
        · rw [y]; decide
        · rw [y]; decide
        · exact absurd y hst
      have hng : ¬ I (X + 6 + 0) 16 = nI 2 ∧ ¬ I (X + 6 + 0) 16 = nI 3 := by
        rw [s16]; exact ⟨fun y => hst (Or.inl y), fun y => hst (Or.inr y)⟩
      obtain ⟨⟨k1, k2, k3, k4⟩, hcs⟩ := hC
      -- the run is open, or opens
      obtain ⟨k0, hk0, c0, hJ, hc, hc0, e16, e2, e10⟩ : ∃ k0 : MI, ((k 0 16 = 0 → k0 = upd2 (upd2 k 0 16 (nI 1)) 0 17 (I (X + 1) 5)) ∧ (¬ k 0 16 = 0 → k0 = k)) ∧ ∃ c0, JI r nt ns mem nth k0 kl (up n 246 (nI 1)) q ∧ c0 ≤ 1000 * i ∧ up n 246 (nI 1) 240 = nI c0 ∧ k0 0 16 = nI 1 ∧ k0 0 2 = nI 1 ∧ k0 0 10 = nI nth := by
        rcases hcs with ⟨a1, a2, a3, a4, a5⟩ | ⟨a1, a2, c0, a3, a4⟩ | ⟨a1, a2⟩
        · refine ⟨_, ⟨fun _ => rfl, fun y => absurd (k4.trans a1) y⟩, 0, Fr.ji hT g6' (((a2.put16).put17).putN Mp_n6) a3.set ⟨?_, a4.2⟩ ?_ ?_ ?_, by omega, ?_, ?_, ?_, ?_⟩
          · rw [upd2_row, up_ne (by omega), upd2_row, up_ne (by omega)]; exact a4.1
          · intro s hs
            rw [up_ne (by have := hT.2.2.1.2.1; omega)]; exact a5 s hs
          · rw [upd2_row, up_ne (by omega), upd2_row, up_ne (by omega)]; exact k1
          · rw [upd2_row, up_s, up_ne (by omega), hT.2.1.1, a3.2.1.2.2.1]
          · rw [up_ne (by omega)]; exact a3.2.2.1.1
          · rw [upd2_row, up_ne (by omega), upd2_row, up_s]
          · rw [upd2_row, up_ne (by omega), upd2_row, up_ne (by omega)]; exact k2
          · rw [upd2_row, up_ne (by omega), upd2_row, up_ne (by omega)]; exact k3
        · have e : up n 246 (nI 1) = n := by
            funext j
            by_cases e : j = 246
            · subst e; rw [up_s]; exact a1.symm
            · exact up_ne e
          rw [e]
          exact ⟨k, ⟨fun y => absurd (k4.symm.trans y) (by rw [a1]; decide), fun _ => rfl⟩, c0, a2, a3, a4, k4.trans a1, k2, k3⟩
        · exact absurd a1 hst
      obtain ⟨v, k', kl', n', q', x1, x2, x3, x4, x5⟩ := go_run (l := l) (D := D) (B := B) (z := z) (c0 := c0) hT hX (by omega) (by omega) hF g7 g6 g6' g5 z1 z2 hSc hk0 rfl hst2 hJ e16 (by rw [e2]; decide) e10 hc0 (by omega)
      refine JR.run (v := v) (k' := k') (kl' := kl') (n' := n') (q' := q') h' (g_run_go hA.1 hX hx ?_ x1) (fun G2 GL2 => x2 G2 S GL2) ?_
      · rw [hV.2.1]; exact hng
      · refine ⟨⟨?_, (x3 2 (by omega)).trans e2, (x3 10 (by omega)).trans e10, x4⟩, ?_⟩
        · rcases x5 with ⟨-, w, -⟩ | ⟨-, w⟩
          · exact w.2.2.2.1
          · exact w.2.1
        · rcases x5 with ⟨w1, w2, c1, w3, w4⟩ | ⟨w1, w2⟩
          · exact Or.inr (Or.inl ⟨w1, w2, c1, by omega, w4⟩)
          · exact Or.inr (Or.inr ⟨Or.inl w1, w2⟩)
  · exact JR.same (v := -1) h' (g_run_bad hx) (n_run_bad hF g7 hx)
theorem j_interrupt (h : GV X i ng nt ns mem nth sc nl N I L r rl n q S k kl LA) : JR l D B X i vi mX11_interrupt mX12_interrupt [vi x] N I L := by
  have h' := h
  obtain ⟨⟨hA, hF, hsz⟩, hV, hT, ⟨⟨g1, g2⟩, ⟨g3, g4⟩, g5, ⟨g6, g6'⟩, g7⟩, hAU, hSc, hLN, hC⟩ := h
  have hX := hA.2.2.1
  have hnt := hT.2.1.2.1
  have s16 := h'.s16
  by_cases hx : inR x nt
  · by_cases hst : n 246 = nI 1
    · obtain ⟨t, ht, rfl⟩ := inR_of hx (by omega)
      obtain ⟨⟨k1, k2, k3, k4⟩, hcs⟩ := hC
      rcases hcs with ⟨a1, -⟩ | ⟨a1, a2, c0, a3, a4⟩ | ⟨a1, a2⟩
      · exact absurd (hst.symm.trans a1) (by decide)
      · obtain ⟨v, k', n', x1, x2, x3, x4, x5, x6⟩ := int_sim (l := l) (D := D) (B := B) hT hX (by omega) (by omega) hF g7 g6' ht (hst.trans s1_1) a2
        refine JR.run (v := v) (k' := k') (kl' := kl) (n' := n') (q' := q) h' (g_int_go hA.1 hX h'.fp (nt := nt) ?_ hnt hx ?_ (x1 _)) (fun G2 GL2 => ⟨S, x2 G2 _⟩) ⟨⟨x5.2.2.2.1, (x6 2 (by omega)).trans k2, (x6 10 (by omega)).trans k3, ?_⟩, Or.inr (Or.inl ⟨x3.trans hst, x5, c0, by omega, x4.trans a4⟩)⟩
        · rw [hV.2.1]; exact hT.2.1.1
        · rw [hV.2.1]; exact s16.trans hst
        · rw [x6 16 (by omega), k4, x3]
      · rcases a1 with y | y <;> exact absurd (hst.symm.trans y) (by decide)
    · exact JR.same (v := -2) h' (g_int_state hA.1 hX h'.fp hT.2.1.1 hnt hx (by rw [s16]; exact hst)) (n_int_state hF g7 hT.2.1.2.2 hnt hx (fun y => hst (y.trans s1_1.symm)))
  · exact JR.same (v := -1) h' (g_int_bad hA.1 h'.fp hT.2.1.1 hnt hx) (n_int_bad hF g7 hT.2.1.2.2 hnt hx)
theorem j_close (h : GV X i ng nt ns mem nth sc nl N I L r rl n q S k kl LA) : JR l D B X i vi mX11_close mX12_close [] N I L := by
  have h' := h
  obtain ⟨⟨hA, hF, hsz⟩, hV, hT, ⟨⟨g1, g2⟩, ⟨g3, g4⟩, g5, ⟨g6, g6'⟩, g7⟩, hAU, hSc, hLN, hC⟩ := h
  have hX := hA.2.2.1
  have s16 := h'.s16
  by_cases hst : n 246 = nI 1
  · obtain ⟨⟨k1, k2, k3, k4⟩, hcs⟩ := hC
    rcases hcs with ⟨a1, -⟩ | ⟨a1, a2, c0, a3, a4⟩ | ⟨a1, a2⟩
    · exact absurd (hst.symm.trans a1) (by decide)
    · obtain ⟨v, k', n', x1, x2, x3, x4, x5, x6⟩ := close_sim (l := l) (D := D) (B := B) hT hX (by omega) (by omega) hF g7 g6' g5 k3 (hst.trans s1_1) a2
      refine JR.run (v := v) (k' := k') (kl' := kl) (n' := n') (q' := q) h' (g_close_go hA.1 hX ?_ (x1 _)) (fun G2 GL2 => ⟨S, x2 G2 _⟩) ⟨⟨x5.2.1, (x6 2 (by omega)).trans k2, (x6 10 (by omega)).trans k3, x4.trans x3.symm⟩, Or.inr (Or.inr ⟨Or.inr x3, x5⟩)⟩
      rw [hV.2.1]; exact s16.trans hst
    · rcases a1 with y | y <;> exact absurd (hst.symm.trans y) (by decide)
  · exact JR.same (v := -2) h' (g_close_state hA.1 hX (by rw [s16]; exact hst)) (n_close_state hF g7 (fun y => hst (y.trans s1_1.symm)))
theorem j_anew (h : GV X i ng nt ns mem nth sc nl N I L r rl n q S k kl LA) : JR l D B X i vi mX11_anew mX12_anew [] N I L := by
  have h' := h
  obtain ⟨⟨hA, hF, hsz⟩, hV, hT, ⟨⟨g1, g2⟩, ⟨g3, g4⟩, g5, ⟨g6, g6'⟩, g7⟩, hAU, hSc, hLN, hC⟩ := h
  have hX := hA.2.2.1
  obtain ⟨⟨k1, k2, k3, k4⟩, hcs⟩ := hC
  have hb := c_begin (l := l) (D := D) (B := B) (k := k) (kl := kl) (G := I) (GL := L) hX h'.fp (x := I X 0) hT.2.2.1.1 hT.2.2.1.2.1 (hT.se (by omega))
  obtain ⟨b1, b2, b3, b4, b5, b6, b7, b8, b9⟩ := begin_sim (k := k) (n := n) (kl := kl) (q := q) (x := I X 0) hT k1
  refine JR.run (v := nI nt) (k' := F_b4 (F_b3 (F_bhK (F_bwK k 20) ns) 6) (I X 0)) (kl' := F_bhL N (X + 1) L (F_bwL kl 20) ns) (n' := F_bgN r n) (q' := F_bgQ rl q) h' ?_ (fun G2 GL2 => ⟨S, ?_⟩) ⟨⟨b6, b7.trans k2, b8.trans g3, b9.trans b3.symm⟩, Or.inl ⟨b3, b1, b2, b4, b5⟩⟩
  · have e0 : pt (X + 6) 35 k I X = I X := pt_out (by omega)
    have h1 := g_anew (l := l) (D := D) (B := B) (I := pt (X + 6) 35 k I) (L := pt (X + 6) 35 kl L) hA.1 hX h'.fp (by rw [e0]; exact hb)
    rw [show pt (X + 6) 35 (F_b4 (F_b3 (F_bhK (F_bwK k 20) ns) 6) (I X 0)) I (X + 1) 5 = nI nt by rw [pt_out (by omega)]; exact hT.2.1.1] at h1
    exact h1
  · have h2 := n_anew (l := l) (D := D) (B := B) (r := r) (n := n) (G := G2) (rl := rl) (S := S) (q := q) (GL := GL2) hF g7
    rw [hT.2.1.2.2] at h2
    exact h2
end RUNS

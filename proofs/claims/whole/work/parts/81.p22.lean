/-! ===== turn, equal, and the answers, on both sides ===== -/
section ANSWERS
variable {l : Launch} {D : va_G} {B X i ng nt ns mem nth sc nl F P : Nat} {N : NT} {I I2 G G' : MI} {L L2 GL GL' : ML} {r r' : MI} {rl rl' : ML} {n n' : Nat → Int32} {q q' : Nat → Int64} {S S' : Int64} {k k' : MI} {kl kl' : ML} {LA : Nat → Nat} {x y : Int32}
theorem Stc.heapP (h5 : G' P 5 = G P 5) (h6 : G' P 6 = G P 6) (hG : ∀ a, F ≤ a → G' a = G a) (hL : ∀ a, F ≤ a → GL' a = GL a) (h : Stc N G GL r rl F P ng nt ns mem) : Stc N G' GL' r rl F P ng nt ns mem := by
  have h' : Stc N (fun a => if a = P then G' P else if F ≤ a then G a else G' a) GL' r rl F P ng nt ns mem := by
    obtain ⟨x1, x2, x3, x4, x5, x6, x7⟩ := h
    have hPF := x1.2
    have hG2 : ∀ a, F ≤ a → (fun a => if a = P then G' P else if F ≤ a then G a else G' a) a = G a := fun a ha => by
      show (if a = P then G' P else if F ≤ a then G a else G' a) = G a
      rw [if_neg (by omega), if_pos ha]
    have h0 : Stc N (upd2 (upd2 G P 5 (G P 5)) P 6 (G P 6)) GL' r rl F P ng nt ns mem := by
      refine Stc.heap (G := G) (GL := GL) (fun a ha => ?_) hL ⟨x1, x2, x3, x4, x5, x6, x7⟩
      funext j
      by_cases e : a = P
      · subst e
        rw [upd2_row]
        by_cases e6 : j = 6
        · subst e6; exact up_s _ _ _
        · rw [up_ne e6, upd2_row]
          by_cases e5 : j = 5
          · subst e5; exact up_s _ _ _
          · rw [up_ne e5]
      · rw [upd2_ne e, upd2_ne e]
    obtain ⟨-, -, -, -, y5, y6, y7⟩ := h0
    refine ⟨x1, ⟨?_, x2.2⟩, ⟨?_, x3.2⟩, x4, fun g hg => ?_, fun s hs => ?_, fun t ht => ?_⟩
    · show (if P = P then G' P else _) 5 = _
      rw [if_pos rfl, h5]; exact x2.1
    · show (if P = P then G' P else _) 6 = _
      rw [if_pos rfl, h6]; exact x3.1
    · obtain ⟨ga, la, z, w1, w2, w3, w4, w5, w6, w7⟩ := x5 g hg
      refine ⟨ga, la, z, w1, w2, w3, by rw [hG2 ga w2]; exact w4, w5, w6, fun i hi => ?_⟩
      rcases w7 i hi with y | ⟨p, np, m, l, y1, y2, y3, y4, y5, y6, y7, y8⟩
      · exact Or.inl y
      · exact Or.inr ⟨p, np, m, l, y1, y2, y3, y4, y5, y6, by rw [hG2 p y2]; exact y7, fun j hj => by rw [hL np y3]; exact y8 j hj⟩
    · obtain ⟨sa, g, ga, w1, w2, w3, w4⟩ := x6 s hs
      exact ⟨sa, g, ga, w1, w2, w3, by rw [hG2 sa w3, hL sa w3]; exact w4⟩
    · obtain ⟨a, w1, w2, w3⟩ := x7 t ht
      exact ⟨a, w1, w2, by rw [hG2 a w2, hL a w2]; exact w3⟩
  have e : (fun a => if a = P then G' P else if F ≤ a then G a else G' a) = G' := by
    funext a
    by_cases e1 : a = P
    · subst e1; rw [if_pos rfl]
    · rw [if_neg e1]
      by_cases e2 : F ≤ a
      · rw [if_pos e2, hG a e2]
      · rw [if_neg e2]
  rw [e] at h'
  exact h'
theorem CS.congr (hnt : nt ≤ 20) (hns : ns ≤ 8) (hth : nth ≤ 6) (hn : ∀ j, j < 310 → n' j = n j) (hq : ∀ j, j < 36 → q' j = q j) (h : CS r nt ns mem nth i k kl n q) : CS r nt ns mem nth i k kl n' q' := by
  obtain ⟨⟨h1, h2, h3, h4⟩, h5⟩ := h
  have e := hn 246 (by omega)
  refine ⟨⟨h1, h2, h3, h4.trans e.symm⟩, ?_⟩
  rw [e, hn 240 (by omega)]
  rcases h5 with ⟨a1, a2, a3, a4, a5⟩ | ⟨a1, a2, a3⟩ | ⟨a1, a2⟩
  · exact Or.inl ⟨a1, a2.congr hns hn, a3.congr hn hq, a4, a5.congr hns hn hq⟩
  · exact Or.inr (Or.inl ⟨a1, a2.congr hnt hns hth hn hq, a3⟩)
  · exact Or.inr (Or.inr ⟨a1, a2.congr hnt hns hn hq⟩)
theorem j_equal (h : GV X i ng nt ns mem nth sc nl N I L r rl n q S k kl LA) : JR l D B X i vi mX11_equal mX12_equal [vi x] N I L := by
  have h' := h
  obtain ⟨⟨hA, hF, hsz⟩, ⟨⟨v1, v2⟩, v3, v4⟩, hT, ⟨⟨g1, g2⟩, ⟨g3, g4⟩, g5, ⟨g6, g6'⟩, g7⟩, hAU, hSc, hLN, hC⟩ := h
  by_cases hx : nI 1 ≤ x ∧ x ≤ nI 6
  · obtain ⟨z, z1, z2, rfl⟩ := rng_of hx.1 hx.2 (by omega) (by omega)
    obtain ⟨v, kd, kld, ke, kle, r', rl', n', q', x1, x2, x3, x4, x5, x6, x7, x8⟩ := equal_sim (l := l) (D := D) (B := B) (n := n) (q := q) (x := z) hT hA.1 hA.2.2.2.1 hA.2.2.2.2 (by omega) (by omega) (by omega) hF g7 z1 z2 hAU.1.1 hAU.1.2 hAU.2.1 hAU.2.2
    obtain ⟨S', x2⟩ := x2 (pt (X + 76) 35 ke (pt (X + 41) 35 kd I)) S (pt (X + 76) 35 kle (pt (X + 41) 35 kld L))
    have e1 : RI (X + 111) r n (pt (X + 76) 35 ke (pt (X + 41) 35 kd I)) = pt (X + 76) 35 ke (pt (X + 41) 35 kd I) := by
      show pt _ _ _ _ = _
      rw [pt_comm (Or.inr (by omega)), pt_comm (b := X + 111) (Or.inr (by omega))]
      exact congrArg (fun z => pt (X + 76) 35 ke (pt (X + 41) 35 kd z)) v1
    have e2 : RLg (X + 111) rl S q (pt (X + 76) 35 kle (pt (X + 41) 35 kld L)) = pt (X + 76) 35 kle (pt (X + 41) 35 kld L) := by
      show pt _ _ _ _ = _
      rw [pt_comm (Or.inr (by omega)), pt_comm (b := X + 111) (Or.inr (by omega))]
      exact congrArg (fun z => pt (X + 76) 35 kle (pt (X + 41) 35 kld z)) v2
    rw [e1, e2] at x2
    have o1 : ∀ a, RI (X + 111) r' n' (pt (X + 76) 35 ke (pt (X + 41) 35 kd I)) a = if a < X + 41 ∨ X + 137 ≤ a then I a else RI (X + 111) r' n' (pt (X + 76) 35 ke (pt (X + 41) 35 kd I)) a := fun a => by
      split
      · rename_i ha
        rw [show RI (X + 111) r' n' (pt (X + 76) 35 ke (pt (X + 41) 35 kd I)) a = pt (X + 76) 35 ke (pt (X + 41) 35 kd I) a from pt_out (by omega), pt_out (by omega), pt_out (by omega)]
      · rfl
    refine ⟨v, 0, 0, _, _, N, _, _, by omega, by omega, (by intro a ha; exact ⟨by rw [pt_out (by omega), pt_out (by omega)], by rw [o1, if_pos (by omega)], rfl⟩), x1, x2, ng, nt, ns, mem, nth, sc, nl, r', rl', n', q', S', k, kl, LA, h'.again (fun a ha => ?_) (fun a ha => ?_) ⟨⟨pt_pt, pt_pt⟩, ?_, ?_⟩ (fun o ho => x3 o (by omega) (by omega)) (fun o h1 h2 => x4 o (by omega) (by omega)) ?_ ((hC.congr hT.2.1.2.1 hT.2.2.1.2.1 g6' x5 x6).tr (by omega) rfl)⟩
    · rw [o1, if_pos (by omega)]
    · rw [show RLg (X + 111) rl' S' q' (pt (X + 76) 35 kle (pt (X + 41) 35 kld L)) a = pt (X + 76) 35 kle (pt (X + 41) 35 kld L) a from pt_out (by omega), pt_out (by omega), pt_out (by omega)]
    · show pt _ _ _ (pt _ _ _ _) = _
      rw [pt_comm (b := X + 6) (c := X + 111) (Or.inl (by omega)), pt_comm (b := X + 6) (c := X + 76) (Or.inl (by omega)), pt_comm (b := X + 6) (c := X + 41) (Or.inl (by omega)), v3]
    · show pt _ _ _ (pt _ _ _ _) = _
      rw [pt_comm (b := X + 6) (c := X + 111) (Or.inl (by omega)), pt_comm (b := X + 6) (c := X + 76) (Or.inl (by omega)), pt_comm (b := X + 6) (c := X + 41) (Or.inl (by omega)), v4]
    · have p1 : RI (X + 111) r' n' (pt (X + 76) 35 ke (pt (X + 41) 35 kd I)) (X + 41) = kd 0 := by
        rw [show RI (X + 111) r' n' (pt (X + 76) 35 ke (pt (X + 41) 35 kd I)) (X + 41) = pt (X + 76) 35 ke (pt (X + 41) 35 kd I) (X + 41) from pt_out (by omega), pt_out (by omega)]
        exact pt_row (b := X + 41) (n := 35) (o := 0) (by omega)
      have p2 : RI (X + 111) r' n' (pt (X + 76) 35 ke (pt (X + 41) 35 kd I)) (X + 76) = ke 0 := by
        rw [show RI (X + 111) r' n' (pt (X + 76) 35 ke (pt (X + 41) 35 kd I)) (X + 76) = pt (X + 76) 35 ke (pt (X + 41) 35 kd I) (X + 76) from pt_out (by omega)]
        exact pt_row (b := X + 76) (n := 35) (o := 0) (by omega)
      unfold AU
      rw [p1, p2]
      exact ⟨x7, x8⟩
  · exact JR.same (v := -1) h' (g_equal_bad hx) (n_equal_bad hF g7 hx)
theorem j_turn (h : GV X i ng nt ns mem nth sc nl N I L r rl n q S k kl LA) : JR l D B X i vi mX11_turn mX12_turn [vi x] N I L := by
  have h' := h
  obtain ⟨⟨hA, hF, hsz⟩, ⟨⟨v1, v2⟩, v3, v4⟩, hT, ⟨⟨g1, g2⟩, ⟨g3, g4⟩, g5, ⟨g6, g6'⟩, g7⟩, hAU, ⟨s1, s2, s3, s4⟩, ⟨⟨l1, l2, l3, l4, l5, l6⟩, hnl⟩, hC⟩ := h
  have hX := hA.2.2.1
  have s16 := h'.s16
  by_cases hx : inR x nth
  · by_cases hst : n 246 = nI 1
    · exact JR.same (v := -2) h' (g_turn_state hA.1 hX g3 g6' hx (by rw [s16]; exact hst)) (n_turn_state hF g7 g5 g6' hx (hst.trans s1_1))
    · have hst1 : ¬ n 246 = 1 := fun y => hst (y.trans s1_1.symm)
      have hst2 : ¬ I (X + 6 + 0) 16 = nI 1 := by rw [s16]; exact hst
      by_cases hsc : sc < 400
      · have h1 := g_turn_ok (l := l) (D := D) (B := B) (L := L) hA.1 hX h'.fp g3 g6' hx hst2 s1 hsc
        have h2 := n_turn_ok (l := l) (D := D) (B := B) (r := r) (n := n) (G := upd2 (upd2 I (X + 1 + 4) sc x) (X + 1) 7 (nI (sc + 1))) (L := L) hF g7 g5 g6' hx hst1 s2 hsc
        have e1 : RI (X + 111) r n (upd2 (upd2 I (X + 1 + 4) sc x) (X + 1) 7 (nI (sc + 1))) = upd2 (upd2 I (X + 1 + 4) sc x) (X + 1) 7 (nI (sc + 1)) := by
          funext a
          by_cases e : X + 111 ≤ a ∧ a < X + 111 + 26
          · have ea := congrFun v1 a
            rw [upd2_ne (by omega), upd2_ne (by omega), ← ea]
            show pt _ _ _ _ a = pt _ _ _ _ a
            unfold pt
            rw [if_pos e, if_pos e]
          · exact pt_out (by omega)
        rw [e1] at h2
        obtain ⟨t, ht, hxt⟩ := inR_of hx (by omega)
        obtain ⟨r', hr'⟩ : ∃ r', upd2 (upd2 r 19 sc x) 0 25 (nI (sc + 1)) = r' := ⟨_, rfl⟩
        rw [hr'] at h2
        have ro : ∀ o, o ≠ 19 → o ≠ 0 → r' o = r o := fun o a b => by rw [← hr', upd2_ne b, upd2_ne a]
        have r0 : ∀ f, f ≠ 25 → r' 0 f = r 0 f := fun f a => by rw [← hr', upd2_row, up_ne a, upd2_ne (by omega)]
        have t1 : tr r' = tr r := tr_eq (fun o a b => ro o (by omega) (by omega)) r0
        have oo : ∀ a, ¬ (X + 111 ≤ a ∧ a < X + 137) → RI (X + 111) r' n (upd2 (upd2 I (X + 1 + 4) sc x) (X + 1) 7 (nI (sc + 1))) a = upd2 (upd2 I (X + 1 + 4) sc x) (X + 1) 7 (nI (sc + 1)) a := fun a ha => pt_out (by omega)
        have o2 : ∀ a, ¬ (X + 111 ≤ a ∧ a < X + 137) → a ≠ X + 1 → a ≠ X + 5 → RI (X + 111) r' n (upd2 (upd2 I (X + 1 + 4) sc x) (X + 1) 7 (nI (sc + 1))) a = I a := fun a ha h1 h2 => by rw [oo a ha, upd2_ne h1, upd2_ne h2]
        have o3 : ∀ f, f ≠ 7 → RI (X + 111) r' n (upd2 (upd2 I (X + 1 + 4) sc x) (X + 1) 7 (nI (sc + 1))) (X + 1) f = I (X + 1) f := fun f hf => by rw [oo _ (by omega), upd2_row, up_ne hf, upd2_ne (by omega)]
        refine ⟨_, 0, 0, _, _, N, _, _, by omega, by omega, (by intro a ha; exact ⟨by rw [upd2_ne (by omega), upd2_ne (by omega)], o2 a (by omega) (by omega) (by omega), rfl⟩), h1, h2, ng, nt, ns, mem, nth, sc + 1, nl, r', rl, n, q, S, k, kl, LA, ⟨hA, hF, hsz⟩, ⟨⟨pt_pt, v2⟩, ?_, v4⟩, (hT.heapP (o3 5 (by omega)) (o3 6 (by omega)) (fun a ha => o2 a (by omega) (by omega) (by omega)) (fun _ _ => rfl)).ref t1 rfl, ⟨⟨(o3 4 (by omega)).trans g1, (r0 3 (by omega)).trans g2⟩, ⟨by rw [o2 _ (by omega) (by omega) (by omega)]; exact g3, by rw [o2 _ (by omega) (by omega) (by omega)]; exact g4⟩, (r0 1 (by omega)).trans g5, ⟨g6, g6'⟩, (r0 0 (by omega)).trans g7⟩, ?_, ⟨?_, ?_, by omega, fun j hj => ?_⟩, ⟨⟨⟨(r0 7 (by omega)).trans l1.1, l1.2⟩, l2, l3, l4, l5, fun g ga j p b1 b0 b2 b3 => ?_⟩, by omega⟩, hC.tr (by omega) t1⟩
        · funext a
          by_cases e : X + 6 ≤ a ∧ a < X + 6 + 35
          · have ea := congrFun v3 a
            rw [o2 a (by omega) (by omega) (by omega), ← ea]
            show pt _ _ _ _ a = pt _ _ _ _ a
            unfold pt
            rw [if_pos e, if_pos e]
          · exact pt_out (by omega)
        · unfold AU
          rw [o2 _ (by omega) (by omega) (by omega), o2 _ (by omega) (by omega) (by omega), r0 2 (by omega)]
          exact hAU
        · rw [oo _ (by omega), upd2_row, up_s]
        · rw [← hr', upd2_row, up_s]
        · rw [oo _ (by omega), upd2_ne (by omega), upd2_row, ← hr', upd2_ne (by omega), upd2_row]
          by_cases e : j = sc
          · subst e
            exact ⟨t, ht, by rw [up_s]; exact hxt, by rw [up_s]; exact hxt⟩
          · rw [up_ne e, up_ne e]
            exact s4 j (by omega)
        · rw [ro 3 (by omega) (by omega)]; exact l6 g ga j p b1 b0 b2 b3
      · have e : sc = 400 := by omega
        subst e
        exact JR.same (v := -3) h' (g_turn_full hA.1 hX h'.fp g3 g6' hx hst2 s1) (n_turn_full hF g7 g5 g6' hx hst1 s2)
  · exact JR.same (v := -1) h' (g_turn_bad hA.1 g3 g6' hx) (n_turn_bad hF g7 g5 g6' hx)
end ANSWERS

/-! ===== items, sizes, numbers put, on both sides ===== -/
section ITEMS
variable {l : Launch} {D : va_G} {B X i ng nt ns mem nth sc nl F P : Nat} {N : NT} {I I2 G G' : MI} {L L2 GL GL' : ML} {r r' : MI} {rl rl' : ML} {n n' : Nat → Int32} {q q' : Nat → Int64} {S S' : Int64} {k k' : MI} {kl kl' : ML} {LA : Nat → Nat} {x y kd w : Int32}
/-- a place of a grid, on both sides -/
theorem place (hT : Stc N G GL r rl F P ng nt ns mem) {g0 : Nat} (hg : g0 < ng) : ∃ ga la z, GrA N P g0 ga la z ∧ (F ≤ ga ∧ F ≤ la) ∧ G ga 0 = r 1 g0 ∧ (∃ kd, kd ≤ 5 ∧ r 1 g0 = nI kd) ∧ (r 2 g0 = nI z ∧ z ≤ 12 ∧ PlOk r g0 z) ∧ ∀ i, i < z → LnR N G GL r rl F la g0 i := by
  obtain ⟨ga, la, z, x1, x2, x3, x4, x5, x6, x7⟩ := hT.2.2.2.2.1 g0 hg
  refine ⟨ga, la, z, x1, ⟨x2, x3⟩, x4, x5, ⟨x6, x1.2.2.2.2, fun i hi => ?_⟩, x7⟩
  rcases x7 i hi with ⟨-, q⟩ | ⟨p, np, m, l, hL, -, -, q1, q2, q3, -, -⟩
  · exact Or.inl q
  · exact Or.inr ⟨l, q2, q1, m, hL.2.2.2.2, q3⟩
/-- what is at a place: nothing there, missing, or a line of m numbers -/
theorem place3 {g0 la z : Nat} (h2 : r 2 g0 = nI z) (hz : z ≤ 12) (hl : ∀ i, i < z → LnR N G GL r rl F la g0 i) (y : Int32) :
    (¬ inR y z ∧ F_fo N la z y = nI 2 ∧ ∀ k, F_ag r g0 y k = nI 2) ∨ (∃ i1, i1 < z ∧ y = nI i1 ∧ N.1 la i1 = none ∧ r 3 (20 * g0 + i1) = -1 ∧ F_fo N la z y = nI 1 ∧ ∀ k, F_ag r g0 y k = nI 1) ∨ ∃ i1 p np m l, i1 < z ∧ y = nI i1 ∧ LnA N la i1 p np m ∧ (F ≤ p ∧ F ≤ np) ∧ r 3 (20 * g0 + i1) = nI l ∧ l < 600 ∧ r 4 l = nI m ∧ m ≤ 12 ∧ G p 0 = r 1 g0 ∧ (∀ j, j < m → GL np j = rl 5 (12 * l + j)) ∧ ∀ k, F_ag r g0 y k = if inR k m then nI 0 else nI 2 := by
  by_cases hy : inR y z
  · obtain ⟨i1, h1, rfl⟩ := inR_of hy (by omega)
    rcases hl i1 h1 with ⟨a1, a2⟩ | ⟨p, np, m, l, a1, a2, a3, a4, a5, a6, a7, a8⟩
    · exact Or.inr (Or.inl ⟨i1, h1, rfl, a1, a2, F_fo_no h1 hz a1, fun k => F_ag_mi h2 hz h1 a2⟩)
    · exact Or.inr (Or.inr ⟨i1, p, np, m, l, h1, rfl, a1, ⟨a2, a3⟩, a4, a5, a6, a1.2.2.2.2, a7, a8, fun k => F_ag_ln h2 hz h1 a5 a4 a1.2.2.2.2 a6⟩)
  · exact Or.inl ⟨hy, F_fo_out hy, fun k => F_ag_out h2 hz hy⟩
theorem j_item (h : GV X i ng nt ns mem nth sc nl N I L r rl n q S k kl LA) : JR l D B X i vl mX11_item mX12_item [vi x, vi kd, vi y, vi w] N I L := by
  have h' := h
  obtain ⟨⟨hA, hF, hsz⟩, ⟨⟨v1, v2⟩, v3, v4⟩, hT, ⟨⟨g1, g2⟩, ⟨g3, g4⟩, g5, ⟨g6, g6'⟩, g7⟩, hAU, hSc, hLN, hC⟩ := h
  have hng := hT.2.2.2.1.1
  by_cases hx : inR x ng
  · obtain ⟨g0, hg, rfl⟩ := inR_of hx (by omega)
    obtain ⟨ga, la, z, x1, -, x4, x5, ⟨x6, x7, x8⟩, x9⟩ := place hT hg
    by_cases hk : I ga 0 = kd
    · have hk2 : kd = r 1 g0 := hk.symm.trans x4
      rcases place3 x6 x7 x9 y with ⟨a1, a2, a3⟩ | ⟨i1, a1, rfl, a2, a3, a4, a5⟩ | ⟨i1, p, np, m, l', a1, rfl, a2, -, a3, a4, a5, a6, a7, a8, a9⟩
      · exact JR.same h' (g_item_fault hA.1 h'.fp g1 hng hg x1 (by rw [a2]; decide)) (n_item_fault hF g7 g2 hng hg x6 x7 x8 hk2 (by rw [a3]; decide))
      · exact JR.same h' (g_item_fault hA.1 h'.fp g1 hng hg x1 (by rw [a4]; decide)) (n_item_fault hF g7 g2 hng hg x6 x7 x8 hk2 (by rw [a5]; decide))
      · by_cases hw : inR w m
        · obtain ⟨j, hj, rfl⟩ := inR_of hw (by omega)
          have h1 := g_item_ok (l := l) (D := D) (B := B) (L := L) hA.1 h'.fp g1 hng hg x1 hk a1 a2 hj
          rw [a8 j hj] at h1
          exact JR.same h' h1 (n_item_ok hF g7 g2 hng hg x6 x7 x8 hk2 a1 a3 a4 a5 a6 hj)
        · exact JR.same h' (g_item_index hA.1 h'.fp g1 hng hg x1 a1 a2 hw) (n_item_fault hF g7 g2 hng hg x6 x7 x8 hk2 (by rw [a9, if_neg hw]; decide))
    · exact JR.same h' (g_item_cast hA.1 h'.fp g1 hng hg x1 hk) (n_item_cast hF g7 g2 hng hg x6 x7 x8 (fun e => hk (x4.trans e.symm)))
  · exact JR.same h' (g_item_bad hA.1 h'.fp g1 hng hx) (n_item_bad hF g7 g2 hng hx)
theorem j_size (h : GV X i ng nt ns mem nth sc nl N I L r rl n q S k kl LA) : JR l D B X i vi mX11_size mX12_size [vi x, vi y] N I L := by
  have h' := h
  obtain ⟨⟨hA, hF, hsz⟩, ⟨⟨v1, v2⟩, v3, v4⟩, hT, ⟨⟨g1, g2⟩, ⟨g3, g4⟩, g5, ⟨g6, g6'⟩, g7⟩, hAU, hSc, hLN, hC⟩ := h
  have hng := hT.2.2.2.1.1
  by_cases hx : inR x ng
  · obtain ⟨g0, hg, rfl⟩ := inR_of hx (by omega)
    obtain ⟨ga, la, z, x1, -, x4, x5, ⟨x6, x7, x8⟩, x9⟩ := place hT hg
    by_cases hy : y = -1
    · subst hy
      have h2 := n_size_all (l := l) (D := D) (B := B) (r := r) (n := n) (G := I) (L := RLg (X + 111) rl S q L) (N := N) hF g7 g2 hng hg
      rw [x6] at h2
      exact JR.same h' (g_size_all hA.1 h'.fp g1 hng hg x1) h2
    · rcases place3 x6 x7 x9 y with ⟨a1, a2, a3⟩ | ⟨i1, a1, rfl, a2, a3, a4, a5⟩ | ⟨i1, p, np, m, l', a1, rfl, a2, -, a3, a4, a5, a6, a7, a8, a9⟩
      · have h1 := g_size_fault (l := l) (D := D) (B := B) (L := L) hA.1 h'.fp g1 hng hg x1 hy (by rw [a2]; decide)
        rw [a2, show (-10 : Int32) - nI 2 = -12 by decide] at h1
        exact JR.same (v := -12) h' h1 (n_size_index hF g7 g2 hng hg x6 x7 hy a1)
      · have h1 := g_size_fault (l := l) (D := D) (B := B) (L := L) hA.1 h'.fp g1 hng hg x1 hy (by rw [a4]; decide)
        rw [a4, show (-10 : Int32) - nI 1 = -11 by decide] at h1
        exact JR.same (v := -11) h' h1 (n_size_null hF g7 g2 hng hg x6 x7 a1 a3)
      · have h2 := n_size_ok (l := l) (D := D) (B := B) (r := r) (n := n) (G := I) (L := RLg (X + 111) rl S q L) (N := N) hF g7 g2 hng hg x6 x7 a1 a3 a4
        rw [a5] at h2
        exact JR.same h' (g_size_ok hA.1 h'.fp g1 hng hg x1 a1 a2) h2
  · exact JR.same (v := -1) h' (g_size_bad hA.1 h'.fp g1 hng hx) (n_size_bad hF g7 g2 hng hx)
/-- a line's number and its address -/
theorem LNi.at (h : LNi X ng nl N r rl LA) {g0 ga la z i1 p np m l0 : Nat} (hnl : nl < 2 ^ 31) (hg : g0 < ng) (hG : GrA N (X + 1) g0 ga la z) (hL : LnA N la i1 p np m) (h3 : r 3 (20 * g0 + i1) = nI l0) (hl : l0 < 2 ^ 31) (hi20 : i1 < 20) : la = ga + 1 ∧ np = p + 1 ∧ l0 < nl ∧ LA l0 = p := by
  obtain ⟨l1, l2, l3, l4, l5, l6⟩ := h
  obtain ⟨c1, c2⟩ := l5 g0 ga hg hG.1
  have e1 : la = ga + 1 := Option.some.inj (hG.2.2.1.symm.trans c1)
  subst e1
  obtain ⟨d1, l', d2, d3, d4⟩ := l6 g0 ga i1 p hg hi20 hG.1 hL.1
  have e2 : np = p + 1 := Option.some.inj (hL.2.2.1.symm.trans d1)
  have e3 : l0 = l' := nI_eq_of (h3.symm.trans d3) hl (by omega)
  subst e3
  exact ⟨rfl, e2, d2, d4⟩
theorem LNi.inj (h : LNi X ng nl N r rl LA) {a c : Nat} (ha : a < nl) (hc : c < nl) (he : LA a = LA c) : a = c := by
  rcases Nat.lt_trichotomy a c with y | y | y
  · have := h.2.1 a c y hc; omega
  · exact y
  · have := h.2.1 c a y ha; omega
theorem j_put {v : Int64} (h : GV X i ng nt ns mem nth sc nl N I L r rl n q S k kl LA) (hi : i ≤ 1000) : JR l D B X i vi mX11_put mX12_put [vi x, vi y, vi w, vl v] N I L := by
  have h' := h
  obtain ⟨⟨hA, hF, hsz⟩, ⟨⟨v1, v2⟩, v3, v4⟩, hT, ⟨⟨g1, g2⟩, ⟨g3, g4⟩, g5, ⟨g6, g6'⟩, g7⟩, hAU, hSc, ⟨hLN, hnl⟩, hC⟩ := h
  have hng := hT.2.2.2.1.1
  have s16 := h'.s16
  have hX := hA.2.2.1
  by_cases hx : inR x ng
  · obtain ⟨g0, hg, rfl⟩ := inR_of hx (by omega)
    obtain ⟨ga, la, z, x1, -, x4, ⟨gk, x5, x5'⟩, ⟨x6, x7, x8⟩, x9⟩ := place hT hg
    by_cases hst : n 246 = nI 1
    · exact JR.same (v := -2) h' (g_put_state hA.1 hX h'.fp g1 hng hg x1 (by rw [s16]; exact hst)) (n_put_state hF g7 g2 hng hx (hst.trans s1_1))
    · have hst1 : ¬ n 246 = 1 := fun y => hst (y.trans s1_1.symm)
      have hst2 : ¬ I (X + 6 + 0) 16 = nI 1 := by rw [s16]; exact hst
      rcases place3 x6 x7 x9 y with ⟨a1, a2, a3⟩ | ⟨i1, a1, rfl, a2, a3, a4, a5⟩ | ⟨i1, p, np, m, l', a1, rfl, a2, ⟨af, af2⟩, a3, a4, a5, a6, a7, a8, a9⟩
      · have h1 := g_put_fault (l := l) (D := D) (B := B) (L := L) (k := w) (v := v) hA.1 hX h'.fp g1 hng hg x1 hst2 (by rw [a2]; decide)
        have h2 := n_put_fault (l := l) (D := D) (B := B) (r := r) (n := n) (G := I) (rl := rl) (S := S) (q := q) (GL := L) (N := N) (k := w) (v := v) (y := y) hF g7 g2 hng hg x6 x7 x8 hst1 (by rw [a3]; decide)
        rw [a2] at h1
        rw [a3] at h2
        exact JR.same h' h1 h2
      · have h1 := g_put_fault (l := l) (D := D) (B := B) (L := L) (k := w) (v := v) hA.1 hX h'.fp g1 hng hg x1 hst2 (by rw [a4]; decide)
        have h2 := n_put_fault (l := l) (D := D) (B := B) (r := r) (n := n) (G := I) (rl := rl) (S := S) (q := q) (GL := L) (N := N) (k := w) (v := v) (y := nI i1) hF g7 g2 hng hg x6 x7 x8 hst1 (by rw [a5]; decide)
        rw [a4] at h1
        rw [a5] at h2
        exact JR.same h' h1 h2
      · by_cases hw : inR w m
        · obtain ⟨j, hj, rfl⟩ := inR_of hw (by omega)
          have h1 := g_put_ok (l := l) (D := D) (B := B) (L := L) (v := v) hA.1 hX h'.fp g1 hng hg x1 hst2 a1 a2 hj (a7.trans x5') x5
          have h2 := n_put_ok (l := l) (D := D) (B := B) (r := r) (n := n) (G := I) (rl := rl) (S := S) (q := q) (GL := upd2 L np j (F_ak gk v)) (N := N) (v := v) hF g7 g2 hng hg x6 x7 x8 hst1 a1 a3 a4 a5 a6 hj x5' x5
          have e2 : RLg (X + 111) rl S q (upd2 L np j (F_ak gk v)) = upd2 L np j (F_ak gk v) := by
            funext a
            by_cases e : X + 111 ≤ a ∧ a < X + 111 + 26
            · have ea := congrFun v2 a
              rw [upd2_ne (by omega), ← ea]
              show pt _ _ _ _ a = pt _ _ _ _ a
              unfold pt
              rw [if_pos e, if_pos e]
            · exact pt_out (by omega)
          rw [v1, e2] at h2
          obtain ⟨q1, q2, q3, q4⟩ := hLN.at (by omega) hg x1 a2 a3 (by omega) (by omega)
          have out : ∀ a, ¬ (X + 111 ≤ a ∧ a < X + 137) → RLg (X + 111) (upd2 rl 5 (12 * l' + j) (F_ak gk v)) S q (upd2 L np j (F_ak gk v)) a = upd2 L np j (F_ak gk v) a := fun a ha => pt_out (by omega)
          have out2 : ∀ a, ¬ (X + 111 ≤ a ∧ a < X + 137) → a ≠ np → RLg (X + 111) (upd2 rl 5 (12 * l' + j) (F_ak gk v)) S q (upd2 L np j (F_ak gk v)) a = L a := fun a ha hne => by rw [out a ha, upd2_ne hne]
          refine ⟨_, 0, 0, _, _, N, _, _, by omega, by omega, (by intro a ha; exact ⟨rfl, rfl, rfl⟩), h1, h2, ng, nt, ns, mem, nth, sc, nl, r, upd2 rl 5 (12 * l' + j) (F_ak gk v), n, q, S, k, kl, LA, ⟨hA, hF, hsz⟩, ⟨⟨v1, pt_pt⟩, v3, ?_⟩, ?_, ⟨⟨g1, g2⟩, ⟨g3, g4⟩, g5, ⟨g6, g6'⟩, g7⟩, hAU, hSc, ⟨⟨⟨hLN.1.1, fun u hu1 hu2 b hb => ?_⟩, hLN.2⟩, by omega⟩, hC.tr (by omega) rfl⟩
          · funext a
            by_cases e : X + 6 ≤ a ∧ a < X + 6 + 35
            · have ea := congrFun v4 a
              rw [out2 a (by omega) (by omega), ← ea]
              show pt _ _ _ _ a = pt _ _ _ _ a
              unfold pt
              rw [if_pos e, if_pos e]
            · exact pt_out (by omega)
          · obtain ⟨t1, t2, t3, t4, t5, t6, t7⟩ := hT
            refine ⟨t1, t2, t3, t4, fun g hg' => ?_, fun s hs => ?_, fun t ht => ?_⟩
            · obtain ⟨ga', la', z', y1, y2, y3, y4, y5, y6, y7⟩ := t5 g hg'
              refine ⟨ga', la', z', y1, y2, y3, y4, y5, y6, fun i2 hi2 => ?_⟩
              rcases y7 i2 hi2 with u | ⟨p', np', m', l2, u1, u2, u3, u4, u5, u6, u7, u8⟩
              · exact Or.inl u
              · refine Or.inr ⟨p', np', m', l2, u1, u2, u3, u4, u5, u6, u7, fun b hb => ?_⟩
                obtain ⟨w1, w2, w3, w4⟩ := hLN.at (by omega) hg' y1 u1 u4 (by omega) (by have := y1.2.2.2.2; omega)
                have hm' := u1.2.2.2.2
                rw [out np' (by omega)]
                by_cases e : l2 = l'
                · subst e
                  have ep : p' = p := w4.symm.trans q4
                  have en : np' = np := by omega
                  subst en
                  rw [upd2_row, upd2_row]
                  by_cases eb : b = j
                  · subst eb; rw [up_s, up_s]
                  · rw [up_ne eb, up_ne (by omega)]; exact u8 b hb
                · have en : np' ≠ np := fun en => e (hLN.inj w3 q3 (by omega))
                  rw [upd2_ne en, upd2_row, up_ne (by omega)]
                  exact u8 b hb
            · obtain ⟨sa, g, ga', y1, y2, y3, y4⟩ := t6 s hs
              have hne : sa ≠ np := fun e => by rw [e] at y2; exact absurd (congrArg Prod.fst (y2.symm.trans a2.2.2.2.1)) (by simp)
              exact ⟨sa, g, ga', y1, y2, y3, by rw [out2 sa (by omega) hne, upd2_ne (show (18 : Nat) ≠ 5 by omega)]; exact y4⟩
            · obtain ⟨a, y1, y2, y3⟩ := t7 t ht
              have hne : a ≠ np := fun e => by
                have sh := a2.2.2.2.1
                rw [← e] at sh
                rcases y3.2.2.2.2.2 with ⟨c1, -⟩ | ⟨c1, -⟩ | ⟨c1, -⟩ <;> exact absurd (congrArg Prod.fst (c1.symm.trans sh)) (by simp)
              exact ⟨a, y1, y2, by rw [out2 a (by omega) hne, upd2_ne (show (8 : Nat) ≠ 5 by omega)]; exact y3⟩
          · rw [upd2_row, up_ne (by omega)]; exact hLN.1.2 u hu1 hu2 b hb
        · have h2 := n_put_fault (l := l) (D := D) (B := B) (r := r) (n := n) (G := I) (rl := rl) (S := S) (q := q) (GL := L) (N := N) (k := w) (v := v) (y := nI i1) hF g7 g2 hng hg x6 x7 x8 hst1 (by rw [a9, if_neg hw]; decide)
          rw [a9, if_neg hw, show (-10 : Int32) - nI 2 = -12 by decide] at h2
          exact JR.same h' (g_put_index hA.1 hX h'.fp g1 hng hg x1 hst2 a1 a2 hw) h2
  · exact JR.same (v := -1) h' (g_put_bad hA.1 h'.fp g1 hng hx) (n_put_bad hF g7 g2 hng hx)
end ITEMS

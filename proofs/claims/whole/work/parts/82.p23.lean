/-! ===== the answers, on both sides ===== -/
section TOLD
variable {l : Launch} {D : va_G} {B X i ng nt ns mem nth sc nl F P : Nat} {N : NT} {I I2 G G' : MI} {L L2 GL GL' : ML} {r r' : MI} {rl rl' : ML} {n n' : Nat → Int32} {q q' : Nat → Int64} {S S' : Int64} {k k' : MI} {kl kl' : ML} {LA : Nat → Nat} {x y : Int32}
theorem j_taken (h : GV X i ng nt ns mem nth sc nl N I L r rl n q S k kl LA) : JR l D B X i vi mX11_taken mX12_taken [] N I L := by
  have h' := h
  obtain ⟨⟨hA, hF, hsz⟩, hV, hT, ⟨⟨g1, g2⟩, ⟨g3, g4⟩, g5, ⟨g6, g6'⟩, g7⟩, hAU, hSc, hLN, hC⟩ := h
  have hO := hC.oj hT
  have h1 := g_taken (l := l) (D := D) (B := B) (I := I) (L := L) hA.1 hA.2.2.1
  rw [h'.kc (by omega), hO.1.t15] at h1
  exact JR.same h' h1 (n_taken hF g7)
theorem j_answer (h : GV X i ng nt ns mem nth sc nl N I L r rl n q S k kl LA) : JR l D B X i vl mX11_answer mX12_answer [vi x] N I L := by
  have h' := h
  obtain ⟨⟨hA, hF, hsz⟩, ⟨⟨v1, v2⟩, v3, v4⟩, hT, ⟨⟨g1, g2⟩, ⟨g3, g4⟩, g5, ⟨g6, g6'⟩, g7⟩, hAU, hSc, hLN, hC⟩ := h
  have hO := hC.oj hT
  have hnt := hT.2.1.2.1
  have hX := hA.2.2.1
  by_cases hx : inR x nt
  · obtain ⟨t, ht, rfl⟩ := inR_of hx (by omega)
    refine JR.same h' (g_answer_yes hA.1 hX h'.fp hT.2.1.1 hnt hx ?_) (n_answer_yes hF g7 hT.2.1.2.2 hnt ht)
    have e0 := hO.1.tr (t := t) (f := 0) (by omega) (by omega)
    obtain ⟨a, f1, -, -, -, -, -, -, f8⟩ := hT.2.2.2.2.2.2 t ht
    obtain ⟨a', e1, e2, e3⟩ := hT.tk (c := X + 6) (by omega) t ht
    have ea : a' = a := Option.some.inj (e1.symm.trans f1)
    subst ea
    by_cases h2 : n (12 * t + 0) = nI 2
    · have hy := c_answer_yes (l := l) (D := D) (B := B) (k := k) (kl := kl) (G := I) (GL := L) hX h'.fp hT.2.1.1 hnt ht e1 e2 e3 (e0.trans h2)
      rw [v3, v4] at hy
      refine (congrArg (fun z => Cq l D B mX0_answerOf [vr (some (X + 6 + 0)), vi (nI t)] I L N (some (vl z)) I L) ?_).mp hy
      unfold foundK
      rcases f8 with ⟨c1, c2, -, c4, -⟩ | ⟨c1, c2, -⟩ | ⟨c1, c2, -⟩
      · rw [if_pos c1, c4, if_pos ⟨by rcases c2 with y | y <;> (rw [y]; decide), h2⟩, if_pos]
        rcases c2 with y | y <;> (rw [y]; decide)
      · rw [if_neg (by rw [c1]; decide), if_pos c1, hO.2.2.1 t ht c2 h2, if_pos ⟨by rcases c2 with y | y <;> (rw [y]; decide), h2⟩, if_neg]
        rcases c2 with y | y <;> (rw [y]; decide)
      · rw [if_neg (by rw [c1]; decide), if_neg (by rw [c1]; decide), if_neg (fun y => y.1 c2)]
    · have hy := c_answer_no (l := l) (D := D) (B := B) (k := k) (G := I) (L := L) hX h'.fp (x := nI t) hT.2.1.1 hnt (fun j hj hx h3 => by
        have : t = j := nI_eq_of hx (by omega) (by omega)
        subst this
        exact h2 (e0.symm.trans h3))
      rw [v3] at hy
      rw [if_neg (fun y => h2 y.2)]
      exact hy
  · exact JR.same h' (g_answer_no hA.1 h'.fp hT.2.1.1 hnt hx) (n_answer_no hF g7 hT.2.1.2.2 hnt hx)
theorem j_note (h : GV X i ng nt ns mem nth sc nl N I L r rl n q S k kl LA) : JR l D B X i vi mX11_note mX12_note [vi x] N I L := by
  have h' := h
  obtain ⟨⟨hA, hF, hsz⟩, ⟨⟨v1, v2⟩, v3, v4⟩, hT, ⟨⟨g1, g2⟩, ⟨g3, g4⟩, g5, ⟨g6, g6'⟩, g7⟩, hAU, hSc, hLN, hC⟩ := h
  have hO := hC.oj hT
  obtain ⟨o1, -, -, -, o5, -, K, o7, o8⟩ := hO
  have e9 : I (X + 6 + 0) 9 = nI K := by rw [h'.kc (by omega)]; exact o1.t9.trans o8
  by_cases hx : inR x K
  · obtain ⟨j, hj, rfl⟩ := inR_of hx (by omega)
    have h1 := g_note_yes (l := l) (D := D) (B := B) (L := L) hA.1 hA.2.2.1 e9 o7 hj
    rw [h'.kc (by omega), o5 K o8 o7 j hj] at h1
    exact JR.same h' h1 (n_note_yes hF g7 o8 o7 hj)
  · exact JR.same (v := -9) h' (g_note_no hA.1 hA.2.2.1 e9 o7 hx) (n_note_no hF g7 o8 o7 hx)
theorem j_finished (h : GV X i ng nt ns mem nth sc nl N I L r rl n q S k kl LA) : JR l D B X i vi mX11_finished mX12_finished [vi x] N I L := by
  have h' := h
  obtain ⟨⟨hA, hF, hsz⟩, ⟨⟨v1, v2⟩, v3, v4⟩, hT, ⟨⟨g1, g2⟩, ⟨g3, g4⟩, g5, ⟨g6, g6'⟩, g7⟩, hAU, hSc, hLN, hC⟩ := h
  have hO := hC.oj hT
  by_cases hx : inR x nth
  · obtain ⟨j, hj, rfl⟩ := inR_of hx (by omega)
    have h1 := g_finished_yes (l := l) (D := D) (B := B) (L := L) hA.1 hA.2.2.1 g3 g6' hj
    rw [h'.kc (by omega), hO.1.te (by omega)] at h1
    exact JR.same h' h1 (n_finished_yes hF g7 g5 g6' hj)
  · exact JR.same (v := -1) h' (g_finished_no hA.1 g3 g6' hx) (n_finished_no hF g7 g5 g6' hx)
theorem nine_of {y : Int32} {c : Nat} (hc : c < 2 ^ 30) (h : ¬ (y.toInt < 0 ∨ (c : Int) < y.toInt)) : ∃ m, m ≤ c ∧ y = nI m := by
  obtain ⟨m, h1, h2⟩ := inR_of (x := y) (n := c + 1) (by unfold inR; omega) (by omega)
  exact ⟨m, by omega, h2⟩
theorem j_count (h : GV X i ng nt ns mem nth sc nl N I L r rl n q S k kl LA) : JR l D B X i vi mX11_count mX12_count [vi y] N I L := by
  have h' := h
  obtain ⟨⟨hA, hF, hsz⟩, ⟨⟨v1, v2⟩, v3, v4⟩, hT, ⟨⟨g1, g2⟩, ⟨g3, g4⟩, g5, ⟨g6, g6'⟩, g7⟩, hAU, hSc, hLN, hC⟩ := h
  have hO := hC.oj hT
  have h1 := g_count (l := l) (D := D) (B := B) (I := I) (L := L) (y := y) hA.1 hA.2.2.1 h'.fp
  have e : G_countV I (X + 1) (X + 6) y = F_count r n y := by
    by_cases ho : y.toInt < 0 ∨ 8 < y.toInt
    · rw [G_count_o ho, F_count_o ho]
    · obtain ⟨m, m1, rfl⟩ := nine_of (c := 8) (by omega) ho
      have kk := h'.kc (o := 0) (by omega)
      rcases (show m = 0 ∨ m = 1 ∨ m = 2 ∨ m = 3 ∨ m = 4 ∨ m = 5 ∨ m = 6 ∨ m = 7 ∨ m = 8 by omega) with rfl | rfl | rfl | rfl | rfl | rfl | rfl | rfl | rfl
      · show I (X + 1) 4 = r 0 3
        rw [g1, g2]
      · show I (X + 1) 5 = r 0 10
        rw [hT.2.1.1, hT.2.1.2.2]
      · show I (X + 1) 6 = r 0 20
        rw [hT.2.2.1.1, hT.2.2.1.2.2]
      · show I (X + 6 + 0) 13 = n 240
        rw [kk]; exact hO.1.t13
      · show I (X + 6 + 0) 14 = n 241
        rw [kk]; exact hO.1.t14
      · show I (X + 6 + 0) 11 = n 242
        rw [kk]; exact hO.1.t11
      · show I (X + 6 + 0) 12 = n 243
        rw [kk]; exact hO.1.t12
      · show I (X + 6 + 0) 9 = n 244
        rw [kk]; exact hO.1.t9
      · show I (X + 6 + 0) 16 = n 246
        exact h'.s16
  rw [e] at h1
  exact JR.same h' h1 (n_count hF g7)
theorem j_told (h : GV X i ng nt ns mem nth sc nl N I L r rl n q S k kl LA) : JR l D B X i vi mX11_told mX12_told [vi x, vi y] N I L := by
  have h' := h
  obtain ⟨⟨hA, hF, hsz⟩, ⟨⟨v1, v2⟩, v3, v4⟩, hT, ⟨⟨g1, g2⟩, ⟨g3, g4⟩, g5, ⟨g6, g6'⟩, g7⟩, hAU, hSc, hLN, hC⟩ := h
  have hO := hC.oj hT
  have hnt := hT.2.1.2.1
  by_cases hx : inR x nt
  · obtain ⟨t, ht, rfl⟩ := inR_of hx (by omega)
    obtain ⟨a, f1, f2, f3, -, -, -, -, f8⟩ := hT.2.2.2.2.2.2 t ht
    obtain ⟨a', e1, e2, e3⟩ := hT.tk (c := X + 6) (by omega) t ht
    have ea : a' = a := Option.some.inj (e1.symm.trans f1)
    subst ea
    have h1 := g_told_yes (l := l) (D := D) (B := B) (I := I) (L := L) (y := y) hA.1 hA.2.2.1 h'.fp hT.2.1.1 hnt ht e1 e2
    have e : G_toldV N I a' (X + 6 + (7 + t)) y = F_told r n t y := by
      by_cases ho : y.toInt < 0 ∨ 8 < y.toInt
      · rw [G_told_o ho, F_told_o ho]
      · obtain ⟨m, m1, rfl⟩ := nine_of (c := 8) (by omega) ho
        have kk := h'.kc (o := 7 + t) (by omega)
        have tt : ∀ f, f < 9 → I (X + 6 + (7 + t)) f = n (12 * t + f) := fun f hf => by rw [kk]; exact hO.1.tr (by omega) hf
        rcases (show m = 0 ∨ m = 1 ∨ m = 2 ∨ m = 3 ∨ m = 4 ∨ m = 5 ∨ m = 6 ∨ m = 7 ∨ m = 8 by omega) with rfl | rfl | rfl | rfl | rfl | rfl | rfl | rfl | rfl
        · exact f3
        · exact tt 0 (by omega)
        · exact tt 1 (by omega)
        · exact tt 2 (by omega)
        · exact tt 3 (by omega)
        · exact tt 4 (by omega)
        · exact tt 5 (by omega)
        · exact tt 6 (by omega)
        · rw [G_told_8, F_told_8, f3]
          unfold rankK
          rcases f8 with ⟨c1, c2, -⟩ | ⟨c1, c2, -⟩ | ⟨c1, c2, -⟩
          · rw [if_pos c1]
            rcases c2 with y | y <;> (rw [y]; decide)
          · rw [if_neg (by rw [c1]; decide), if_pos c1]
            rcases c2 with y | y <;> (rw [y]; decide)
          · rw [if_neg (by rw [c1]; decide), if_neg (by rw [c1]; decide), if_pos c2]
    rw [e] at h1
    exact JR.same h' h1 (n_told_yes hF g7 hT.2.1.2.2 hnt ht)
  · exact JR.same (v := -1) h' (g_told_bad hA.1 h'.fp hT.2.1.1 hnt hx) (n_told_bad hF g7 hT.2.1.2.2 hnt hx)
theorem ls_bl {s : Nat} (hT : Stc N G GL r rl F P ng nt ns mem) (hS : Sim ns k n) (hs : s < 2 ^ 31) : ∀ (f j : Nat) (x : Int32), j + f = nt → x = F_bl r n s j → F_ls k G N P (nI s) f j x = F_bl r n s nt
  | 0, j, x, h, hx => by
    have e : j = nt := by omega
    subst e; exact hx
  | f + 1, j, x, h, hx => by
    have hnt := hT.2.1.2.1
    show F_ls k G N P (nI s) f (j + 1) _ = _
    refine ls_bl hT hS hs f (j + 1) _ (by omega) ?_
    show _ = F_bl r n s j + _
    obtain ⟨a, f1, f2, f3, -, -, -, -, f8⟩ := hT.2.2.2.2.2.2 j (by omega)
    rw [tkA_of f1, hS.tr (t := j) (f := 6) (by omega) (by omega), hx]
    rcases f8 with ⟨c1, c2, -⟩ | ⟨c1, c2, -⟩ | ⟨c1, c2, s', sa, fr, to, d1, d2, d3, d4, d5, -⟩
    · rw [if_neg (fun y => absurd (c1.symm.trans y.1) (by decide)), if_neg (fun y => by rcases c2 with z | z <;> exact absurd (z.symm.trans y.1) (by decide))]
      exact (Int32.add_zero _).symm
    · rw [if_neg (fun y => absurd (c1.symm.trans y.1) (by decide)), if_neg (fun y => by rcases c2 with z | z <;> exact absurd (z.symm.trans y.1) (by decide))]
      exact (Int32.add_zero _).symm
    · rw [d5, d2]
      by_cases e : nI s' = nI s
      · rw [if_pos ⟨c1, e⟩, if_pos ⟨c2, e⟩]
      · rw [if_neg (fun y => e y.2), if_neg (fun y => e y.2)]
        exact (Int32.add_zero _).symm
theorem Gb1 {h : Nat} {lo : Int32} : G_bestV I L h lo (nI 1) = (I h 1).toInt64 := rfl
theorem Gb2 {h : Nat} {lo : Int32} : G_bestV I L h lo (nI 2) = L h 2 := rfl
theorem Gb3 {h : Nat} {lo : Int32} : G_bestV I L h lo (nI 3) = lo.toInt64 := rfl
theorem Fb0 {s : Nat} : F_best r n q s nt (nI 0) = q (20 + s) := rfl
theorem Fb1 {s : Nat} : F_best r n q s nt (nI 1) = (n (302 + s)).toInt64 := rfl
theorem Fb2 {s : Nat} : F_best r n q s nt (nI 2) = q (28 + s) := rfl
theorem Fb3 {s : Nat} : F_best r n q s nt (nI 3) = (F_bl r n s nt).toInt64 := rfl
theorem j_best (h : GV X i ng nt ns mem nth sc nl N I L r rl n q S k kl LA) : JR l D B X i vl mX11_best mX12_best [vi x, vi y] N I L := by
  have h' := h
  obtain ⟨⟨hA, hF, hsz⟩, ⟨⟨v1, v2⟩, v3, v4⟩, hT, ⟨⟨g1, g2⟩, ⟨g3, g4⟩, g5, ⟨g6, g6'⟩, g7⟩, hAU, hSc, hLN, hC⟩ := h
  have hO := hC.oj hT
  have hnt := hT.2.1.2.1
  have hns := hT.2.2.1.2.1
  by_cases hx : inR x ns
  · obtain ⟨s, hs, rfl⟩ := inR_of hx (by omega)
    have hlo := c_lostOf (l := l) (D := D) (B := B) (k := k) (G := I) (L := L) hA.2.2.1 h'.fp (y := nI s) hT.2.1.1 hnt (hT.tk (by omega))
    rw [v3, ls_bl hT hO.1 (by omega) nt 0 (nI 0) (by omega) rfl] at hlo
    have h1 := g_best_yes (l := l) (D := D) (B := B) (y := y) hA.1 hA.2.2.1 h'.fp hT.2.2.1.1 hns hs hlo
    have e : G_bestV I L (X + 6 + (27 + s)) (F_bl r n s nt) y = F_best r n q s nt y := by
      by_cases ho : y.toInt < 0 ∨ 3 < y.toInt
      · rw [G_best_o ho, F_best_o ho]
      · obtain ⟨m, m1, rfl⟩ := nine_of (c := 3) (by omega) ho
        have kk := h'.kc (o := 27 + s) (by omega)
        have kl2 := h'.lc (o := 27 + s) (by omega)
        have e1 : I (X + 6 + (27 + s)) 1 = n (302 + s) := by rw [kk]; exact hO.1.tb hs
        obtain ⟨b1, b2, b3⟩ := hO.2.2.2.1 s hs
        rcases (show m = 0 ∨ m = 1 ∨ m = 2 ∨ m = 3 by omega) with rfl | rfl | rfl | rfl
        · rw [G_best_0, Fb0, e1, kl2]
          by_cases h9 : n (302 + s) = -9
          · rw [if_pos h9, (b2 h9).2]
          · rw [if_neg h9, b3 h9]
        · rw [Gb1, Fb1, e1]
        · rw [Gb2, Fb2, kl2]; exact b1
        · rw [Gb3, Fb3]
    rw [e] at h1
    exact JR.same h' h1 (n_best_yes hF g7 hT.2.2.1.2.2 hns hT.2.1.2.2 hnt hs)
  · exact JR.same (v := -1) h' (g_best_bad hA.1 h'.fp hT.2.2.1.1 hns hx) (n_best_bad hF g7 hT.2.2.1.2.2 hns hT.2.1.2.2 hnt hx)
end TOLD

/-! ===== what holds between two calls; the calls on runs ===== -/
/-- the course, by its status -/
def CS (r : MI) (nt ns mem nth i : Nat) (k : MI) (kl : ML) (n : Nat → Int32) (q : Nat → Int64) : Prop :=
  (k 0 1 = r 0 2 ∧ k 0 2 = nI 1 ∧ k 0 10 = nI nth ∧ k 0 16 = n 246) ∧
  ((n 246 = 0 ∧ Sim ns k n ∧ Fr r nt n q ∧ FrK k kl ∧ LSh ns n kl q) ∨ (n 246 = nI 1 ∧ JI r nt ns mem nth k kl n q ∧ ∃ c0, c0 ≤ 1000 * i ∧ n 240 = nI c0) ∨ ((n 246 = nI 2 ∨ n 246 = nI 3) ∧ OJ r nt ns k kl n q))
/-- the numbers told at the start -/
def GB (X ng mem nth : Nat) (I : MI) (r : MI) : Prop := (I (X + 1) 4 = nI ng ∧ r 0 3 = nI ng) ∧ (I X 0 = nI nth ∧ I X 1 = nI mem) ∧ r 0 1 = nI nth ∧ (1 ≤ nth ∧ nth ≤ 6) ∧ r 0 0 = nI 0
/-- the two other courses -/
def AU (X : Nat) (I : MI) (r : MI) : Prop := (I (X + 41) 1 = r 0 2 ∧ I (X + 41) 2 = 0) ∧ I (X + 76) 1 = r 0 2 ∧ I (X + 76) 2 = 0
/-- lines and grids, by number and by address -/
def LNi (X ng nl : Nat) (N : NT) (r : MI) (rl : ML) (LA : Nat → Nat) : Prop :=
  (r 0 7 = nI nl ∧ ∀ l, nl ≤ l → l < 600 → ∀ j, j < 12 → rl 5 (12 * l + j) = 0) ∧ (∀ l l', l < l' → l' < nl → LA l + 1 < LA l') ∧ (∀ l, l < nl → X + 137 ≤ LA l ∧ LA l + 1 < N.2.2 ∧ N.2.1 (LA l) = (3, 2)) ∧ (∀ g g' ga ga', g < g' → g' < ng → N.1 (X + 2) g = some ga → N.1 (X + 2) g' = some ga' → ga + 1 < ga') ∧ (∀ g ga, g < ng → N.1 (X + 2) g = some ga → N.1 ga 1 = some (ga + 1) ∧ ga + 1 < N.2.2) ∧
  ∀ g ga i p, g < ng → i < 20 → N.1 (X + 2) g = some ga → N.1 (ga + 1) i = some p → N.1 p 1 = some (p + 1) ∧ ∃ l, l < nl ∧ r 3 (20 * g + i) = nI l ∧ LA l = p
def GV (X i ng nt ns mem nth sc nl : Nat) (N : NT) (I : MI) (L : ML) (r : MI) (rl : ML) (n : Nat → Int32) (q : Nat → Int64) (S : Int64) (k : MI) (kl : ML) (LA : Nat → Nat) : Prop :=
  (FixA X N ∧ FixR (X + 111) N ∧ X + 137 ≤ N.2.2) ∧ ((RI (X + 111) r n I = I ∧ RLg (X + 111) rl S q L = L) ∧ pt (X + 6) 35 k I = I ∧ pt (X + 6) 35 kl L = L) ∧ Stc N I L r rl (X + 137) (X + 1) ng nt ns mem ∧ GB X ng mem nth I r ∧ AU X I r ∧ ScR I r (X + 1) nth sc ∧ (LNi X ng nl N r rl LA ∧ nl ≤ 12 * ng + i) ∧ CS r nt ns mem nth i k kl n q
def GInv (X i : Nat) (N : NT) (I : MI) (L : ML) : Prop := ∃ ng nt ns mem nth sc nl r rl n q S k kl LA, GV X i ng nt ns mem nth sc nl N I L r rl n q S k kl LA
/-- a call on both sides: the same answer, and all holds again -/
def JR {α : Type} (l : Launch) (D : va_G) (B X i : Nat) (mk : α → MV) (M1 M2 : MD) (as : List MV) (N : NT) (I : MI) (L : ML) : Prop :=
  ∃ v mc ms I1 L1 N1 I2 L2, mc ≤ 26 ∧ ms ≤ 182 ∧ (∀ a, a < X → I1 a = I a ∧ I2 a = I a ∧ N1.2.1 a = N.2.1 a) ∧ Cn l D B M1 (vr (some X) :: as) I L N mc ms (some (mk v)) I1 L1 N1 ∧ Cq l D B M2 (vr (some (X + 111 + 0)) :: as) I1 L1 N1 (some (mk v)) I2 L2 ∧ GInv X (i + 1) N1 I2 L2
section CALLS
variable {l : Launch} {D : va_G} {B X i ng nt ns mem nth sc nl : Nat} {N : NT} {I I2 : MI} {L L2 : ML} {r r' : MI} {rl rl' : ML} {n n' : Nat → Int32} {q q' : Nat → Int64} {S S' : Int64} {k k' : MI} {kl kl' : ML} {LA : Nat → Nat}
theorem CS.tr {i' : Nat} (h : CS r nt ns mem nth i k kl n q) (hi : i ≤ i') (e : tr r' = tr r) : CS r' nt ns mem nth i' k kl n q := by
  obtain ⟨⟨h1, h2, h3, h4⟩, h5⟩ := h
  have e2 : r' 0 2 = r 0 2 := congrFun (congrFun e 0) 2
  refine ⟨⟨h1.trans e2.symm, h2, h3, h4⟩, ?_⟩
  rcases h5 with ⟨a1, a2, a3, a4⟩ | ⟨a1, a2, c0, a3, a4⟩ | ⟨a1, a2⟩
  · exact Or.inl ⟨a1, a2, by rw [Fr_tr, e, ← Fr_tr]; exact a3, a4⟩
  · exact Or.inr (Or.inl ⟨a1, by rw [JI_tr, e, ← JI_tr]; exact a2, c0, by omega, a4⟩)
  · exact Or.inr (Or.inr ⟨a1, by rw [OJ_tr, e, ← OJ_tr]; exact a2⟩)
/-- whatever the status: what the answers look at -/
theorem CS.oj (hT : Stc N I L r rl (X + 137) (X + 1) ng nt ns mem) (h : CS r nt ns mem nth i k kl n q) : OJ r nt ns k kl n q := by
  obtain ⟨⟨h1, h2, h3, h4⟩, h5⟩ := h
  have hnt := hT.2.1.2.1
  rcases h5 with ⟨a1, a2, ⟨f1, ⟨f2, f3, f4, f5⟩, ⟨-, -, -, f6⟩, f7, f8, f9⟩, a4, a5⟩ | ⟨a1, ⟨hS, hL, hNF, hM, hR, hK, hLS, hZ, hNR, hXI⟩, -⟩ | ⟨a1, a2⟩
  · refine ⟨a2, h1, fun t ht _ h2 => absurd ((f1 t (by omega) 0 (by omega) (by omega)).symm.trans h2) (by decide), a5, fun K hK hK2 j hj => ?_, ⟨fun u h1 h2 => f1 u h2 0 (by omega) (by omega), fun s h1 h2 => f8 s h2⟩, 0, by omega, f6⟩
    have : K = 0 := by
      have e : nI 0 = nI K := by rw [← hK, f6]; rfl
      exact ((nI_eq (by omega) (by omega)).mp e).symm
    omega
  · obtain ⟨-, -, ⟨K, c3, c4⟩, -⟩ := hR.2.2.1
    exact ⟨hS, hM, fun t ht h23 _ => hLS.1 t ht h23, hLS.2.2, hNR, hXI, K, by omega, c3⟩
  · exact a2
/-- all holds again, when only the courses and the reference have changed -/
theorem GV.again (h : GV X i ng nt ns mem nth sc nl N I L r rl n q S k kl LA) (hI : ∀ a, a < X + 6 ∨ X + 137 ≤ a → I2 a = I a) (hL : ∀ a, a < X + 6 ∨ X + 137 ≤ a → L2 a = L a) (hV : (RI (X + 111) r' n' I2 = I2 ∧ RLg (X + 111) rl' S' q' L2 = L2) ∧ pt (X + 6) 35 k' I2 = I2 ∧ pt (X + 6) 35 kl' L2 = L2) (hr : ∀ o, o ≤ 19 → r' o = r o) (hrl : ∀ o, 1 ≤ o → o ≤ 18 → rl' o = rl o) (hA : AU X I2 r) (hC : CS r nt ns mem nth (i + 1) k' kl' n' q') : GV X (i + 1) ng nt ns mem nth sc nl N I2 L2 r' rl' n' q' S' k' kl' LA := by
  obtain ⟨a1, a2, a3, ⟨⟨g1, g2⟩, ⟨g3, g4⟩, g5, g6, g7⟩, a5, ⟨s1, s2, s3, s4⟩, ⟨⟨l1, l2, l3, l4, l5, l6⟩, a8⟩, a9⟩ := h
  have e0 := hr 0 (by omega)
  have t1 : tr r' = tr r := tr_eq (fun o h1 h2 => hr o (by omega)) (fun f _ => by rw [e0])
  have t2 : trl rl' = trl rl := trl_eq hrl
  refine ⟨a1, hV, (a3.heap (fun a ha => hI a (by omega)) (fun a ha => hL a (by omega))).ref t1 t2, ⟨⟨by rw [hI _ (by omega)]; exact g1, by rw [e0]; exact g2⟩, ⟨by rw [hI _ (by omega)]; exact g3, by rw [hI _ (by omega)]; exact g4⟩, by rw [e0]; exact g5, g6, by rw [e0]; exact g7⟩, ?_, ⟨by rw [hI _ (by omega)]; exact s1, by rw [e0]; exact s2, s3, fun j hj => ?_⟩, ⟨⟨⟨by rw [e0]; exact l1.1, by rw [hrl 5 (by omega) (by omega)]; exact l1.2⟩, l2, l3, l4, l5, fun g ga j p b1 b0 b2 b3 => ?_⟩, by omega⟩, hC.tr (Nat.le_refl _) t1⟩
  · unfold AU; rw [e0]; exact hA
  · rw [hI _ (by omega), hr 19 (by omega)]; exact s4 j hj
  · rw [hr 3 (by omega)]; exact l6 g ga j p b1 b0 b2 b3
theorem GV.mono (h : GV X i ng nt ns mem nth sc nl N I L r rl n q S k kl LA) : GV X (i + 1) ng nt ns mem nth sc nl N I L r rl n q S k kl LA :=
  h.again (fun _ _ => rfl) (fun _ _ => rfl) h.2.1 (fun _ _ => rfl) (fun _ _ _ => rfl) h.2.2.2.2.1 (h.2.2.2.2.2.2.2.tr (by omega) rfl)
/-- a call that changes nothing -/
theorem JR.same {α : Type} {mk : α → MV} {M1 M2 : MD} {as : List MV} {v : α} (h : GV X i ng nt ns mem nth sc nl N I L r rl n q S k kl LA) (h1 : Cq l D B M1 (vr (some X) :: as) I L N (some (mk v)) I L) (h2 : Cq l D B M2 (vr (some (X + 111 + 0)) :: as) (RI (X + 111) r n I) (RLg (X + 111) rl S q L) N (some (mk v)) (RI (X + 111) r n I) (RLg (X + 111) rl S q L)) : JR l D B X i mk M1 M2 as N I L := by
  rw [h.2.1.1.1, h.2.1.1.2] at h2
  exact ⟨v, 0, 0, I, L, N, I, L, by omega, by omega, fun _ _ => ⟨rfl, rfl, rfl⟩, h1, h2, ng, nt, ns, mem, nth, sc, nl, r, rl, n, q, S, k, kl, LA, h.mono⟩
/-- a call on the course: the class's changes its cells, the reference's its rows of now -/
theorem JR.run {α : Type} {mk : α → MV} {M1 M2 : MD} {as : List MV} {v : α} (h : GV X i ng nt ns mem nth sc nl N I L r rl n q S k kl LA) (h1 : Cq l D B M1 (vr (some X) :: as) (pt (X + 6) 35 k I) (pt (X + 6) 35 kl L) N (some (mk v)) (pt (X + 6) 35 k' I) (pt (X + 6) 35 kl' L)) (h2 : ∀ G2 GL2, ∃ S', Cq l D B M2 (vr (some (X + 111 + 0)) :: as) (RI (X + 111) r n G2) (RLg (X + 111) rl S q GL2) N (some (mk v)) (RI (X + 111) r n' G2) (RLg (X + 111) rl S' q' GL2)) (hC : CS r nt ns mem nth (i + 1) k' kl' n' q') : JR l D B X i mk M1 M2 as N I L := by
  obtain ⟨⟨v1, v2⟩, v3, v4⟩ := h.2.1
  obtain ⟨S', h3⟩ := h2 (pt (X + 6) 35 k' I) (pt (X + 6) 35 kl' L)
  have e1 : RI (X + 111) r n (pt (X + 6) 35 k' I) = pt (X + 6) 35 k' I := by
    show pt _ _ _ _ = _
    rw [pt_comm (Or.inr (by omega))]
    exact congrArg (pt (X + 6) 35 k') v1
  have e2 : RLg (X + 111) rl S q (pt (X + 6) 35 kl' L) = pt (X + 6) 35 kl' L := by
    show pt _ _ _ _ = _
    rw [pt_comm (Or.inr (by omega))]
    exact congrArg (pt (X + 6) 35 kl') v2
  rw [e1, e2] at h3
  rw [v3, v4] at h1
  refine ⟨v, 0, 0, pt (X + 6) 35 k' I, _, N, RI (X + 111) r n' (pt (X + 6) 35 k' I), _, by omega, by omega, fun a ha => ⟨pt_out (by omega), (pt_out (by omega)).trans (pt_out (by omega)), rfl⟩, h1, h3, ng, nt, ns, mem, nth, sc, nl, r, rl, n', q', S', k', kl', LA, h.again (fun a ha => ?_) (fun a ha => ?_) ⟨⟨pt_pt, pt_pt⟩, ?_, ?_⟩ (fun _ _ => rfl) (fun _ _ _ => rfl) ?_ hC⟩
  · rw [show RI (X + 111) r n' (pt (X + 6) 35 k' I) a = pt (X + 6) 35 k' I a from pt_out (by omega), pt_out (by omega)]
  · rw [show RLg (X + 111) rl S' q' (pt (X + 6) 35 kl' L) a = pt (X + 6) 35 kl' L a from pt_out (by omega), pt_out (by omega)]
  · show pt _ _ _ (pt _ _ _ _) = _
    rw [pt_comm (b := X + 6) (c := X + 111) (Or.inl (by omega)), pt_pt]
  · show pt _ _ _ (pt _ _ _ _) = _
    rw [pt_comm (b := X + 6) (c := X + 111) (Or.inl (by omega)), pt_pt]
  · have o : ∀ a, X + 41 ≤ a → a < X + 111 → RI (X + 111) r n' (pt (X + 6) 35 k' I) a = I a := fun a h1 h2 => by
      rw [show RI (X + 111) r n' (pt (X + 6) 35 k' I) a = pt (X + 6) 35 k' I a from pt_out (by omega), pt_out (by omega)]
    unfold AU
    rw [o _ (by omega) (by omega), o _ (by omega) (by omega)]
    exact h.2.2.2.2.1
theorem s1_1 : nI 1 = (1 : Int32) := by decide
end CALLS

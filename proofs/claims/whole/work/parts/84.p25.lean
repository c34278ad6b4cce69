/-! ===== what is told grows ===== -/
/-- cells are made behind, and one reference set -/
def Gww (N N' : NT) (ea ej : Nat) : Prop := N.2.2 ≤ N'.2.2 ∧ (∀ a, a < N.2.2 → N'.2.1 a = N.2.1 a) ∧ ∀ a j, a < N.2.2 → ¬ (a = ea ∧ j = ej) → N'.1 a j = N.1 a j
def Zr (N : NT) (I : MI) (L : ML) : Prop := ∀ a, N.2.2 ≤ a → (N.2.1 a).1 = 21 ∧ ∀ k, I a k = 0 ∧ L a k = 0 ∧ N.1 a k = none
section GROW
variable {N N' : NT} {G G' : MI} {GL GL' : ML} {r r' : MI} {rl rl' : ML} {F P X ng ng' nt ns ns' mem ea ej : Nat}
theorem Zr.lt (h : Zr N G GL) {a c m : Nat} (hs : N.2.1 a = (c, m)) (hc : c < 21) : a < N.2.2 := by
  rcases Nat.lt_or_ge a N.2.2 with y | y
  · exact y
  · have := (h a y).1
    rw [hs] at this
    have e : c = 21 := this
    omega
theorem Gww.obj (h : Gww N N' ea ej) (hZ : Zr N G GL) (he : 14 ≤ (N.2.1 ea).1) {a c m : Nat} (hs : N.2.1 a = (c, m)) (hc : c < 14) : N'.2.1 a = (c, m) ∧ N'.1 a = N.1 a ∧ a < N.2.2 := by
  have hlt := hZ.lt hs (by omega)
  refine ⟨(h.2.1 a hlt).trans hs, ?_, hlt⟩
  funext j
  refine h.2.2 a j hlt (fun y => ?_)
  rw [← y.1, hs] at he
  exact absurd (show 14 ≤ c from he) (by omega)
theorem FixA.grow (h : FixA X N) (hsz : X + 137 ≤ N.2.2) (hN : Gww N N' ea ej) (h1 : ea ≠ X) (h2 : ea ≠ X + 1) (h3 : ea < X + 6 ∨ X + 137 ≤ ea) : FixA X N' := by
  have rf : ∀ a, a < X + 137 → a ≠ ea → N'.1 a = N.1 a := fun a ha hne => funext (fun j => hN.2.2 a j (by omega) (fun y => hne y.1))
  have sh : ∀ a, a < X + 137 → N'.2.1 a = N.2.1 a := fun a ha => hN.2.1 a (by omega)
  obtain ⟨⟨a1, a2, a3, a4, a5⟩, ⟨b1, b2, b3, b4, b5, b6, b7, b8, b9⟩, c1, c2, c3⟩ := h
  refine ⟨⟨?_, ?_, ?_, ?_, ?_⟩, ⟨?_, ?_, ?_, ?_, ?_, ?_, ?_, ?_, ?_⟩, c1.keep (fun a x y => ⟨sh a (by omega), rf a (by omega) (by omega)⟩), c2.keep (fun a x y => ⟨sh a (by omega), rf a (by omega) (by omega)⟩), c3.keep (fun a x y => ⟨sh a (by omega), rf a (by omega) (by omega)⟩)⟩
  · rw [sh _ (by omega)]; exact a1
  · rw [rf _ (by omega) (by omega)]; exact a2
  · rw [rf _ (by omega) (by omega)]; exact a3
  · rw [rf _ (by omega) (by omega)]; exact a4
  · rw [rf _ (by omega) (by omega)]; exact a5
  · rw [sh _ (by omega)]; exact b1
  · rw [rf _ (by omega) (by omega)]; exact b2
  · rw [rf _ (by omega) (by omega)]; exact b3
  · rw [rf _ (by omega) (by omega)]; exact b4
  · rw [rf _ (by omega) (by omega)]; exact b5
  · rw [sh _ (by omega)]; exact b6
  · rw [sh _ (by omega)]; exact b7
  · rw [sh _ (by omega)]; exact b8
  · rw [sh _ (by omega)]; exact b9
theorem FixR.grow (h : FixR (X + 111) N) (hsz : X + 137 ≤ N.2.2) (hN : Gww N N' ea ej) (h3 : ea < X + 6 ∨ X + 137 ≤ ea) : FixR (X + 111) N' :=
  ⟨fun o ho => (hN.2.1 _ (by omega)).trans (h.1 o ho), fun j o hj => (hN.2.2 _ j (by omega) (fun y => by omega)).trans (h.2 j o hj)⟩
theorem LnR.grow {la g i : Nat} (h : LnR N G GL r rl F la g i) (hZ : Zr N G GL) (hN : Gww N N' ea ej) (he : 14 ≤ (N.2.1 ea).1) (hla : la < N.2.2) (hne : ¬ (la = ea ∧ i = ej)) (hG : ∀ a, F ≤ a → a < N.2.2 → G' a = G a) (hL : ∀ a, F ≤ a → a < N.2.2 → GL' a = GL a) (hr1 : r' 1 g = r 1 g) (hr3 : r' 3 (20 * g + i) = r 3 (20 * g + i)) (hr4 : ∀ l p, N.1 la i = some p → l < 600 → r 3 (20 * g + i) = nI l → r' 4 l = r 4 l ∧ ∀ j, j < 12 → rl' 5 (12 * l + j) = rl 5 (12 * l + j)) : LnR N' G' GL' r' rl' F la g i := by
  have e := hN.2.2 la i hla hne
  rcases h with ⟨a1, a2⟩ | ⟨p, np, m, l, ⟨b1, b2, b3, b4, b5⟩, a2, a3, a4, a5, a6, a7, a8⟩
  · exact Or.inl ⟨e.trans a1, hr3.trans a2⟩
  · obtain ⟨o1, o2, o3⟩ := hN.obj hZ he b2 (by omega)
    obtain ⟨q1, q2, q3⟩ := hN.obj hZ he b4 (by omega)
    obtain ⟨c1, c2⟩ := hr4 l p b1 a5 a4
    exact Or.inr ⟨p, np, m, l, ⟨e.trans b1, o1, by rw [o2]; exact b3, q1, b5⟩, a2, a3, hr3.trans a4, a5, c1.trans a6, by rw [hG p a2 o3, hr1]; exact a7, fun j hj => by rw [hL np a3 q3, c2 j (by omega)]; exact a8 j hj⟩
theorem GrA.grow {g ga la z : Nat} (h : GrA N P g ga la z) (hZ : Zr N G GL) (hN : Gww N N' ea ej) (he : 14 ≤ (N.2.1 ea).1) (hP : P + 1 < N.2.2) (hne : ¬ (P + 1 = ea ∧ g = ej)) : GrA N' P g ga la z := by
  obtain ⟨a1, a2, a3, a4, a5⟩ := h
  obtain ⟨o1, o2, o3⟩ := hN.obj hZ he a2 (by omega)
  exact ⟨(hN.2.2 _ _ hP hne).trans a1, o1, by rw [o2]; exact a3, (hN.2.1 la (hZ.lt a4 (by omega))).trans a4, a5⟩
theorem SeR.grow {s : Nat} (h : SeR N G GL r rl F P ng s) (hZ : Zr N G GL) (hN : Gww N N' ea ej) (he : 14 ≤ (N.2.1 ea).1) (hP : P + 5 ≤ N.2.2) (hne : ¬ (P + 3 = ea ∧ s = ej)) (hne2 : ∀ g, g < ng → ¬ (P + 1 = ea ∧ g = ej)) (hng : ng ≤ ng') (hG : ∀ a, F ≤ a → a < N.2.2 → G' a = G a) (hL : ∀ a, F ≤ a → a < N.2.2 → GL' a = GL a) (hr : r' 15 s = r 15 s ∧ r' 16 s = r 16 s ∧ r' 17 s = r 17 s ∧ rl' 18 s = rl 18 s) : SeR N' G' GL' r' rl' F P ng' s := by
  obtain ⟨sa, g, ga, a1, a2, a3, a4, a5, a6, a7, a8, a9, a10⟩ := h
  obtain ⟨o1, o2, o3⟩ := hN.obj hZ he a2 (by omega)
  exact ⟨sa, g, ga, (hN.2.2 _ _ (by omega) hne).trans a1, o1, a3, by omega, hr.1.trans a5, (hN.2.2 _ _ (by omega) (hne2 g a4)).trans a6, by rw [o2]; exact a7, by rw [hG sa a3 o3, hr.2.1]; exact a8, by rw [hG sa a3 o3, hr.2.2.1]; exact a9, by rw [hL sa a3 o3, hr.2.2.2]; exact a10⟩
theorem TkR.grow {t : Nat} (h : TkR N G GL r rl F P ng ns mem t) (hZ : Zr N G GL) (hN : Gww N N' ea ej) (he : 14 ≤ (N.2.1 ea).1) (hP : P + 5 ≤ N.2.2) (hne : ¬ (P + 2 = ea ∧ t = ej)) (hne2 : ∀ g, g < ng → ¬ (P + 1 = ea ∧ g = ej)) (hne3 : ∀ s, s < ns → ¬ (P + 3 = ea ∧ s = ej)) (hng : ng ≤ ng') (hns : ns ≤ ns') (hG : ∀ a, F ≤ a → a < N.2.2 → G' a = G a) (hL : ∀ a, F ≤ a → a < N.2.2 → GL' a = GL a) (hr : ∀ o, 6 ≤ o → o ≤ 14 → r' o t = r o t ∧ rl' o t = rl o t) : TkR N' G' GL' r' rl' F P ng' ns' mem t := by
  obtain ⟨a, a1, a2, a3, a4, a5, a6, a7, a8⟩ := h
  have e : ∀ c m, N.2.1 a = (c, m) → c < 14 → N'.2.1 a = (c, m) ∧ N'.1 a = N.1 a ∧ G' a = G a ∧ GL' a = GL a := fun c m hs hc => by
    obtain ⟨o1, o2, o3⟩ := hN.obj hZ he hs hc
    exact ⟨o1, o2, hG a a2 o3, hL a a2 o3⟩
  have e2 : G' a = G a ∧ GL' a = GL a := by
    rcases a8 with ⟨c1, -⟩ | ⟨c1, -⟩ | ⟨c1, -⟩
    · exact (e _ _ c1 (by omega)).2.2
    · exact (e _ _ c1 (by omega)).2.2
    · exact (e _ _ c1 (by omega)).2.2
  have r6 := (hr 6 (by omega) (by omega)).1
  have r7 := (hr 7 (by omega) (by omega)).1
  have r9 := (hr 9 (by omega) (by omega)).1
  have r10 := (hr 10 (by omega) (by omega)).1
  have r11 := (hr 11 (by omega) (by omega)).1
  have r12 := (hr 12 (by omega) (by omega)).1
  have r13 := (hr 13 (by omega) (by omega)).1
  have r14 := (hr 14 (by omega) (by omega)).1
  have r8 := (hr 8 (by omega) (by omega)).2
  refine ⟨a, (hN.2.2 _ _ (by omega) hne).trans a1, a2, by rw [e2.1, r6]; exact a3, by rw [e2.1, r10]; exact a4, by rw [e2.1, r11]; exact a5, by rw [r10]; exact a6, by rw [r11]; exact a7, ?_⟩
  rcases a8 with ⟨c1, c2⟩ | ⟨c1, c2, g, ga, c3, c4, c5, c6, c7⟩ | ⟨c1, c2, s, sa, fr, to, c3, c4, c5, c6, c7⟩
  · refine Or.inl ⟨(e _ _ c1 (by omega)).1, ?_⟩
    rw [e2.1, e2.2, r6, r7, r9, r8]; exact c2
  · obtain ⟨o1, o2, -⟩ := e _ _ c1 (by omega)
    exact Or.inr (Or.inl ⟨o1, by rw [r6]; exact c2, g, ga, by omega, by rw [r12]; exact c4, (hN.2.2 _ _ (by omega) (hne2 g c3)).trans c5, by rw [o2]; exact c6, by rw [e2.1, r13]; exact c7⟩)
  · obtain ⟨o1, o2, -⟩ := e _ _ c1 (by omega)
    exact Or.inr (Or.inr ⟨o1, by rw [r6]; exact c2, s, sa, fr, to, by omega, by rw [r12]; exact c4, (hN.2.2 _ _ (by omega) (hne3 s c3)).trans c5, by rw [o2]; exact c6, by rw [e2.1, r13, r14]; exact c7⟩)
end GROW

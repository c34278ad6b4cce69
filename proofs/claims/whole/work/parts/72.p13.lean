/-! ===== all failed shares, on both sides ===== -/
section AGAIN2
variable {r : MI} {rl : ML}
theorem agI_S {t s g : Nat} : ∀ (k i : Nat) (n : Nat → Int32) (q : Nat → Int64) (S S' : Int64), (F_agI r rl t s g k i n q S).1 = (F_agI r rl t s g k i n q S').1 ∧ (F_agI r rl t s g k i n q S).2.1 = (F_agI r rl t s g k i n q S').2.1
  | 0, _, _, _, _, _ => ⟨rfl, rfl⟩
  | k + 1, i, n, q, S, S' => by rw [F_agI_s, F_agI_s]; exact ⟨rfl, rfl⟩
theorem agT_S : ∀ (k t : Nat) (n : Nat → Int32) (q : Nat → Int64) (S S' : Int64), (F_agT r rl k t n q S).1 = (F_agT r rl k t n q S').1 ∧ (F_agT r rl k t n q S).2.1 = (F_agT r rl k t n q S').2.1
  | 0, _, _, _, _, _ => ⟨rfl, rfl⟩
  | k + 1, t, n, q, S, S' => by
    by_cases h : r 6 t = nI 4 ∧ n (12 * t + 0) = nI 3
    · rw [F_agT_y h, F_agT_y h]
      obtain ⟨e1, e2⟩ := agI_S (r := r) (rl := rl) (t := t) (s := (r 12 t).toNatClampNeg) (g := (r 15 (r 12 t).toNatClampNeg).toNatClampNeg) ((r 14 t).toNatClampNeg - (r 13 t).toNatClampNeg) (r 13 t).toNatClampNeg n q S S'
      rw [e1, e2]
      exact agT_S k (t + 1) _ _ _ _
    · rw [F_agT_n h, F_agT_n h]
      exact agT_S k (t + 1) _ _ _ _
end AGAIN2
theorem Sim.spare {ns : Nat} {k k' : MI} {n : Nat → Int32} (h : Sim ns k n) (hk : ∀ a, a ≠ 3 → k' a = k a) : Sim ns k' n := by
  intro j hj
  have e : (lo j).1 ≠ 3 := fun q => lo_no3 hj (f := (lo j).2) (by rw [← q])
  rw [hk _ e]
  exact h j hj
section AGAIN3
variable {l : Launch} {D : va_G} {B b : Nat} {N : NT} {G : MI} {GL : ML} {r : MI} {rl : ML} {F P ng nt ns mem c : Nat} {k : MI} {n : Nat → Int32} {kl : ML} {q : Nat → Int64}
abbrev AS : Type := (MI × ML) × ((Nat → Int32) × ((Nat → Int64) × Int64))
def AI (r : MI) (rl : ML) (nt ns : Nat) (k0 : MI) (n0 : Nat → Int32) (q0 : Nat → Int64) (Z : (Nat → Int32) × ((Nat → Int64) × Int64)) (i : Nat) (a : AS) : Prop :=
  Sim ns a.1.1 a.2.1 ∧ LSr r nt a.1.2 a.2.2.1 ∧ LSh ns a.2.1 a.1.2 a.2.2.1 ∧ (∀ u, i ≤ u → u < nt → r 6 u = nI 4 → a.2.1 (12 * u + 6) = 0) ∧ F_agT r rl (nt - i) i a.2.1 a.2.2.1 a.2.2.2 = Z ∧ (∀ j, j < 302 → (∀ u, u < 20 → j ≠ 12 * u + 6) → a.2.1 j = n0 j) ∧ (∀ j, j < 20 → a.2.2.1 j = q0 j) ∧ (∀ a0, a0 < 7 → a0 ≠ 3 → a.1.1 a0 = k0 a0) ∧ ∀ s, ns ≤ s → s < 8 → a.2.1 (302 + s) = n0 (302 + s) ∧ a.2.2.1 (20 + s) = q0 (20 + s)
def AR (l : Launch) (D : va_G) (B c P : Nat) (N : NT) (G : MI) (GL : ML) (i : Nat) (a a' : AS) : Prop :=
  ((a.1.1 (7 + i) 0 = nI 3 → ∀ x, N.1 (P + 2) i = some x → ¬ N.2.1 x = (7, 7)) → a'.1.1 = a.1.1 ∧ a'.1.2 = a.1.2) ∧
  ∀ x, N.1 (P + 2) i = some x → a.1.1 (7 + i) 0 = nI 3 → N.2.1 x = (7, 7) → ∃ nu, nu < 8 ∧ G x 4 = nI nu ∧ ∃ k2 kl2 y, Cq l D B mX7_doAgain [vr (some x), vr (some (c + 3)), vr (some (c + (27 + nu)))] (pt c 35 a.1.1 G) (pt c 35 a.1.2 GL) N (some (vi y)) (pt c 35 k2 G) (pt c 35 kl2 GL) ∧ a'.1.1 = upd2 k2 (7 + i) 6 y ∧ a'.1.2 = kl2
theorem again_step {i : Nat} {n0 : Nat → Int32} {k0 : MI} {q0 : Nat → Int64} {Z : (Nat → Int32) × ((Nat → Int64) × Int64)} (hT : Stc N G GL r rl F P ng nt ns mem) (hX : FixC c P N) (hcF : c + 35 ≤ F) (hi : i < nt) (a : AS) (hA : AI r rl nt ns k0 n0 q0 Z i a) : ∃ a', AI r rl nt ns k0 n0 q0 Z (i + 1) a' ∧ AR l D B c P N G GL i a a' := by
  have hnt := hT.2.1.2.1
  have hns := hT.2.2.1.2.1
  have hng := hT.2.2.2.1.1
  have i20 : i < 20 := by omega
  obtain ⟨hS, hLr, hLh, hZ, hE, hfr, hq, hk0, hxs⟩ := hA
  obtain ⟨x, t1, t2, t3, t4, t5, -, -, t8⟩ := hT.2.2.2.2.2.2 i hi
  have e0 : a.1.1 (7 + i) 0 = a.2.1 (12 * i + 0) := hS.tr i20 (by omega)
  rw [show nt - i = (nt - (i + 1)) + 1 by omega] at hE
  by_cases hy : r 6 i = nI 4 ∧ a.2.1 (12 * i + 0) = nI 3
  · obtain ⟨h4, h3⟩ := hy
    rcases t8 with w | w | ⟨s7, -, s, sa, fr, to, w1, w2, w3, w4, w5, w6, w7, w8, w9, w10, w11⟩
    · exfalso
      rcases w.2.1 with w | w <;> exact absurd (h4.symm.trans w) (by decide)
    · exfalso
      rcases w.2.1 with w | w <;> exact absurd (h4.symm.trans w) (by decide)
    · obtain ⟨sa', g, ga, f1, f2, f3, f4, f5, f6, f7, f8, f9, -⟩ := hT.2.2.2.2.2.1 s w1
      have esa : sa' = sa := Option.some.inj (f1.symm.trans w3)
      subst esa
      obtain ⟨ga', la, z, hG, fa, fl, gk, -, g2, hl⟩ := hT.2.2.2.2.1 g f4
      have ega : ga' = ga := Option.some.inj (hG.1.symm.trans f6)
      subst ega
      have hz := hG.2.2.2.2
      have hpl : PlOk r g z := by
        obtain ⟨z', y1, y2, y3⟩ := (hT.2.2.2.2.1 g f4).pl
        have : z' = z := nI_eq_of (y2.symm.trans g2) (by omega) (by omega)
        rw [this] at y3
        exact y3
      have hok := (hT.2.2.2.2.1 g f4).ok hcF hG
      have hSh : ShC c N x sa' ga' la z := ⟨s7, Or.inr (by omega), w4, f2, Or.inr (by omega), f7, hG.2.1, Or.inr (by omega), hG.2.2.1, hG.2.2.2.1, hz, hok⟩
      have hc := c_doAgain (l := l) (D := D) (B := B) (k := a.1.1) (G := G) (kl := a.1.2) (GL := GL) hX.b hSh (o := 3) (oh := 27 + s) (by rfl) (shC_h (by omega)) w9 w11 w6 w7
      have hd := do_sim (N := N) (G := G) (GL := GL) (r := r) (rl := rl) (F := F) (g := g) (ga := ga') (la := la) (z := z) (s := s) (sa := sa') (t := i) (fr := fr) (to := to) i20 (by omega) hz w7 g2 hpl hl gk f8 f9 (to - fr) 0 0 (W_begin a.1.1 3) (upd2 (upd2 a.1.2 3 9 0) 3 10 0) a.2.1 a.2.2.1 a.2.2.2 (by omega) (by omega) (W_begin_7 _ _) (W_begin_8 _ _) (by simp (disch := omega) only [upd2_row, up_ne, up_s]) (by rw [hZ i (Nat.le_refl i) hi h4]; rfl) (by
        unfold W_begin
        simp (disch := omega) only [upd2_ne]
        exact hS.tb w1) (by
        unfold HuR
        simp (disch := omega) only [upd2_ne]
        exact hLh s w1)
      rw [F_agT_y ⟨h4, h3⟩, w2, nI_clamp (by omega), f5, nI_clamp (by omega), w8, nI_clamp (by omega), w10, nI_clamp (by omega)] at hE
      rw [show fr + 0 = fr by omega] at hd
      obtain ⟨K, hK⟩ : ∃ K, F_do N G GL sa' ga' la z fr 3 (27 + s) (to - fr) 0 0 (W_begin a.1.1 3) (upd2 (upd2 a.1.2 3 9 0) 3 10 0) = K := ⟨_, rfl⟩
      obtain ⟨M, hM⟩ : ∃ M, F_agI r rl i s g (to - fr) fr a.2.1 a.2.2.1 a.2.2.2 = M := ⟨_, rfl⟩
      rw [hK] at hc
      rw [hK, hM] at hd
      rw [hM] at hE
      obtain ⟨y1, y2, y3, y4, y5, y6, y7⟩ := hd
      have bg : ∀ a0, a0 ≠ 3 → W_begin a.1.1 3 a0 = a.1.1 a0 := fun a0 h => by
        unfold W_begin
        simp (disch := omega) only [upd2_ne]
      have kr : ∀ a0, a0 ≠ 3 → a0 ≠ 27 + s → K.2.1 a0 = a.1.1 a0 := fun a0 h1 h2 => (y2 a0 h1 h2).trans (bg a0 h1)
      have klr : ∀ a0, a0 ≠ 3 → a0 ≠ 27 + s → K.2.2 a0 = a.1.2 a0 := fun a0 h1 h2 => by
        rw [y3 a0 h1 h2]
        simp (disch := omega) only [upd2_ne]
      refine ⟨((upd2 K.2.1 (7 + i) 6 (nI K.1), K.2.2), M), ⟨?_, fun u hu h23 => ?_, fun s' hs' => ?_, fun u hiu hu hu4 => ?_, hE, fun j hj hju => ?_, fun j hj => ?_, fun a0 h7 h3' => ?_, fun s' h1 h2 => ?_⟩, fun hno => ?_, fun x' hx' _ _ => ?_⟩
      · -- Sim
        have S1 : Sim ns (fun a0 => if a0 = 3 then K.2.1 3 else a.1.1 a0) a.2.1 := hS.spare (fun a0 h => by show (if a0 = 3 then K.2.1 3 else a.1.1 a0) = a.1.1 a0; rw [if_neg h])
        refine S1.row i20 (fun a0 ha0 h27 => ?_) (fun s' hs' => ?_) (fun j hj hj2 => y4 j (by omega) (by omega)) (nine ?_ ?_ ?_ ?_ ?_ ?_ ?_ ?_ ?_) ?_ ?_
        · show upd2 K.2.1 (7 + i) 6 (nI K.1) a0 = if a0 = 3 then K.2.1 3 else a.1.1 a0
          rw [upd2_ne ha0]
          by_cases e : a0 = 3
          · rw [if_pos e, e]
          · rw [if_neg e]; exact kr a0 e (by omega)
        · show upd2 K.2.1 (7 + i) 6 (nI K.1) (27 + s') 1 = M.1 (302 + s')
          rw [upd2_ne (by omega)]
          by_cases e : s' = s
          · subst e; exact y6
          · rw [kr _ (by omega) (by omega), y4 _ (by omega) (by omega)]; exact hS.tb hs'
        all_goals show upd2 K.2.1 (7 + i) 6 (nI K.1) (7 + i) _ = M.1 _
        · rw [upd2_row, up_ne (by omega), kr _ (by omega) (by omega), y4 _ (by omega) (by omega)]; exact hS.tr i20 (by omega)
        · rw [upd2_row, up_ne (by omega), kr _ (by omega) (by omega), y4 _ (by omega) (by omega)]; exact hS.tr i20 (by omega)
        · rw [upd2_row, up_ne (by omega), kr _ (by omega) (by omega), y4 _ (by omega) (by omega)]; exact hS.tr i20 (by omega)
        · rw [upd2_row, up_ne (by omega), kr _ (by omega) (by omega), y4 _ (by omega) (by omega)]; exact hS.tr i20 (by omega)
        · rw [upd2_row, up_ne (by omega), kr _ (by omega) (by omega), y4 _ (by omega) (by omega)]; exact hS.tr i20 (by omega)
        · rw [upd2_row, up_ne (by omega), kr _ (by omega) (by omega), y4 _ (by omega) (by omega)]; exact hS.tr i20 (by omega)
        · rw [upd2_row, up_s]; exact y1.symm
        · rw [upd2_row, up_ne (by omega), kr _ (by omega) (by omega), y4 _ (by omega) (by omega)]; exact hS.tr i20 (by omega)
        · rw [upd2_row, up_ne (by omega), kr _ (by omega) (by omega), y4 _ (by omega) (by omega)]; exact hS.tr i20 (by omega)
        · rw [upd2_row, up_ne (by omega), kr _ (by omega) (by omega), y4 _ (by omega) (by omega)]; exact hS.ts i20
        · rw [upd2_row, up_ne (by omega), kr _ (by omega) (by omega), y4 _ (by omega) (by omega)]; exact hS.ti i20
      · show K.2.2 (7 + u) 10 = M.2.1 u
        rw [klr _ (by omega) (by omega), y5 _ (by omega) (by omega)]; exact hLr u hu h23
      · by_cases e : s' = s
        · subst e; exact y7
        · show K.2.2 (27 + s') 2 = M.2.1 (28 + s') ∧ (M.1 (302 + s') = -9 → K.2.2 (27 + s') 0 = 0 ∧ M.2.1 (20 + s') = -9223372036854775808) ∧ (¬ M.1 (302 + s') = -9 → K.2.2 (27 + s') 0 = M.2.1 (20 + s'))
          rw [klr _ (by omega) (by omega), y5 _ (by omega) (by omega), y5 _ (by omega) (by omega), y4 _ (by omega) (by omega)]
          exact hLh s' hs'
      · show M.1 (12 * u + 6) = 0
        rw [y4 _ (by omega) (by omega)]; exact hZ u (by omega) hu hu4
      · show M.1 j = n0 j
        rw [y4 _ (by omega) (hju i i20)]; exact hfr j hj hju
      · show M.2.1 j = q0 j
        rw [y5 _ (by omega) (by omega)]; exact hq j hj
      · show upd2 K.2.1 (7 + i) 6 (nI K.1) a0 = k0 a0
        rw [upd2_ne (by omega), kr _ h3' (by omega)]; exact hk0 a0 h7 h3'
      · show M.1 (302 + s') = n0 (302 + s') ∧ M.2.1 (20 + s') = q0 (20 + s')
        rw [y4 _ (by omega) (by omega), y5 _ (by omega) (by omega)]; exact hxs s' h1 h2
      · exact absurd s7 (hno (e0.trans h3) x t1)
      · have ex : x' = x := Option.some.inj (hx'.symm.trans t1)
        subst ex
        exact ⟨s, by omega, w5, _, _, _, hc, rfl, rfl⟩
  · rw [F_agT_n hy] at hE
    refine ⟨a, ⟨hS, hLr, hLh, fun u hiu hu => hZ u (by omega) hu, hE, hfr, hq, hk0, hxs⟩, fun _ => ⟨rfl, rfl⟩, fun x' hx' h3 h7 => ?_⟩
    have ex : x' = x := Option.some.inj (hx'.symm.trans t1)
    subst ex
    exfalso
    rcases t8 with w | w | w
    · exact absurd (w.1.symm.trans h7) (by decide)
    · exact absurd (w.1.symm.trans h7) (by decide)
    · exact hy ⟨w.2.1, e0.symm.trans h3⟩
/-- failed shares are done again, on both sides -/
theorem again_sim (hT : Stc N G GL r rl F P ng nt ns mem) (hX : FixC c P N) (hP : P + 5 ≤ c) (hcF : c + 35 ≤ F) (hF : FixR b N) (hS : Sim ns k n) (hLr : LSr r nt kl q) (hLh : LSh ns n kl q) (hZ : LZ r nt n) :
    ∃ k' kl' n' q', Cq l D B mX0_doFailedSharesAgain [vr (some (c + 0))] (pt c 35 k G) (pt c 35 kl GL) N none (pt c 35 k' G) (pt c 35 kl' GL) ∧ (∀ G2 S GL2, ∃ S2, Cq l D B mX12_again [vr (some (b + 0))] (RI b r n G2) (RLg b rl S q GL2) N none (RI b r n' G2) (RLg b rl S2 q' GL2)) ∧ Sim ns k' n' ∧ LSr r nt kl' q' ∧ LSh ns n' kl' q' ∧ (∀ j, j < 302 → (∀ u, u < 20 → j ≠ 12 * u + 6) → n' j = n j) ∧ (∀ j, j < 20 → q' j = q j) ∧ (∀ a0, a0 < 7 → a0 ≠ 3 → k' a0 = k a0) ∧ ∀ s, ns ≤ s → s < 8 → n' (302 + s) = n (302 + s) ∧ q' (20 + s) = q (20 + s) := by
  have hnt := hT.2.1.2.1
  have hPP : FixP c P N := hT.1.1.p (Or.inl hP)
  obtain ⟨Z, hZ0⟩ : ∃ Z, F_agT r rl nt 0 n q 0 = Z := ⟨_, rfl⟩
  obtain ⟨f, f1, f2, f3⟩ := seqm (A := AS) (I := AI r rl nt ns k n q Z) (R := AR l D B c P N G GL) nt ((k, kl), (n, (q, 0))) (fun i hi a ha => again_step hT hX hcF hi a ha) ⟨hS, hLr, hLh, fun u _ hu h4 => hZ u hu h4, hZ0, fun _ _ _ => rfl, fun _ _ => rfl, fun _ _ _ => rfl, fun _ _ _ => ⟨rfl, rfl⟩⟩
  have hc := c_failedAgain (l := l) (D := D) (B := B) (k := k) (G := G) (kl := kl) (GL := GL) hX hPP hT.2.1.1 hnt (hT.tk hcF) (Km := fun i => (f i).1.1) (Kl := fun i => (f i).1.2) (by rw [f1]) (by rw [f1]) (fun i hi h => (f3 i hi).1 h) (fun i a hi h1 h2 h3 => (f3 i hi).2 a h1 h2 h3)
  obtain ⟨g1, g2, g3, -, g5, g6, g7, g8, g9⟩ := f2 nt (Nat.le_refl nt)
  rw [Nat.sub_self] at g5
  have g5' : (f nt).2 = Z := g5
  refine ⟨_, _, (f nt).2.1, (f nt).2.2.1, hc, fun G2 S GL2 => ⟨(F_agT r rl nt 0 n q S).2.2, ?_⟩, g1, g2, g3, g6, g7, g8, g9⟩
  have h := n_again (l := l) (D := D) (B := B) (b := b) (r := r) (rl := rl) (G := G2) (GL := GL2) (S := S) (n := n) (q := q) hF hT.2.1.2.2 hnt (fun t ht => hT.sh ht)
  obtain ⟨e1, e2⟩ := agT_S (r := r) (rl := rl) nt 0 n q S 0
  rw [e1, e2, hZ0, ← g5'] at h
  exact h
end AGAIN3

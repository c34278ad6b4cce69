/-! ===== a step of a task on both sides: readers ===== -/
section RD
variable {N : NT} {G : MI} {GL : ML} {r : MI} {rl : ML} {F g la z t : Nat}
/-- where a reader is -/
def RdI (r : MI) (g z ln it : Nat) : Prop := it = 0 ∨ (ln < z ∧ ∃ p m, r 3 (20 * g + ln) = nI p ∧ p < 600 ∧ r 4 p = nI m ∧ it ≤ m)
def RdRes (r : MI) (g z t : Nat) (k : MI) (kl : ML) (n : Nat → Int32) (q : Nat → Int64) (K : MI × ML) (M : Int32 × ((Nat → Int32) × (Nat → Int64))) : Prop :=
  ∃ v, (v = 1 ∨ v = 2 ∨ v = 3) ∧ M.1 = nI v ∧ (∀ a, a ≠ 7 + t → K.1 a = k a) ∧ (∀ a, a ≠ 7 + t → K.2 a = kl a) ∧ (∀ j, j ≠ 12 * t + 1 → j ≠ 12 * t + 4 → j ≠ 12 * t + 6 → j ≠ 12 * t + 7 → j ≠ 12 * t + 8 → M.2.1 j = n j) ∧ (∀ j, j ≠ t → M.2.2 j = q j) ∧
  K.1 (7 + t) 0 = nI v ∧ (∀ f, f = 2 ∨ f = 3 ∨ f = 5 ∨ f = 11 ∨ f = 12 → K.1 (7 + t) f = k (7 + t) f) ∧ (v = 3 → K.1 (7 + t) 1 = nI 1 ∧ M.2.1 (12 * t + 1) = nI 1) ∧ (v ≠ 3 → K.1 (7 + t) 1 = k (7 + t) 1 ∧ M.2.1 (12 * t + 1) = n (12 * t + 1)) ∧
  K.1 (7 + t) 4 = M.2.1 (12 * t + 4) ∧ K.1 (7 + t) 6 = M.2.1 (12 * t + 6) ∧ K.1 (7 + t) 7 = M.2.1 (12 * t + 7) ∧ K.1 (7 + t) 8 = M.2.1 (12 * t + 8) ∧ K.2 (7 + t) 10 = M.2.2 t ∧ (v = 1 → ∃ ln it, M.2.1 (12 * t + 7) = nI ln ∧ ln ≤ z ∧ M.2.1 (12 * t + 8) = nI it ∧ it ≤ 12 ∧ RdI r g z ln it)
theorem rd_sim (ht : t < 20) (hz : z ≤ 12) (hso : r 6 t = nI 2 ∨ r 6 t = nI 3) (hl : ∀ i, i < z → LnR N G GL r rl F la g i) : ∀ (f ln it : Nat) (k : MI) (kl : ML) (n : Nat → Int32) (q : Nat → Int64), z - ln = f → ln ≤ z → it ≤ 12 → k (7 + t) 7 = nI ln → n (12 * t + 7) = nI ln → k (7 + t) 8 = nI it → n (12 * t + 8) = nI it → RdI r g z ln it → k (7 + t) 4 = n (12 * t + 4) → k (7 + t) 6 = n (12 * t + 6) → kl (7 + t) 10 = q t → k (7 + t) 0 = nI 1 → RdRes r g z t k kl n q (F_rd N GL (r 6 t) (7 + t) la f ln it k kl) (F_read r rl t g f ln it n q)
  | 0, ln, it, k, kl, n, q, hf, hln, hit, k7, n7, k8, n8, hI, k4, k6, kl10, k0 => by
    refine ⟨2, Or.inr (Or.inl rfl), rfl, fun a ha => ?_, fun a ha => rfl, fun j _ _ _ _ _ => rfl, fun j _ => rfl, ?_, fun f hf => ?_, fun z => absurd z (by decide), fun _ => ⟨?_, rfl⟩, ?_, ?_, ?_, ?_, kl10, fun z => absurd z (by decide)⟩
    · show upd2 k (7 + t) 0 (nI 2) a = k a
      rw [upd2_ne ha]
    · show upd2 k (7 + t) 0 (nI 2) (7 + t) 0 = nI 2
      rw [upd2_row, up_s]
    · show upd2 k (7 + t) 0 (nI 2) (7 + t) f = _
      rw [upd2_row, up_ne (by omega)]
    · show upd2 k (7 + t) 0 (nI 2) (7 + t) 1 = _
      rw [upd2_row, up_ne (by omega)]
    · show upd2 k (7 + t) 0 (nI 2) (7 + t) 4 = n _
      rw [upd2_row, up_ne (by omega)]; exact k4
    · show upd2 k (7 + t) 0 (nI 2) (7 + t) 6 = n _
      rw [upd2_row, up_ne (by omega)]; exact k6
    · show upd2 k (7 + t) 0 (nI 2) (7 + t) 7 = n _
      rw [upd2_row, up_ne (by omega), k7, n7]
    · show upd2 k (7 + t) 0 (nI 2) (7 + t) 8 = n _
      rw [upd2_row, up_ne (by omega), k8, n8]
  | f + 1, ln, it, k, kl, n, q, hf, hln, hit, k7, n7, k8, n8, hI, k4, k6, kl10, k0 => by
    have hlz : ln < z := by omega
    rcases hl ln hlz with ⟨a1, a2⟩ | ⟨p, np, m, l, hL, -, -, b1, b2, b3, -, b4⟩
    · have it0 : it = 0 := by
        rcases hI with y | ⟨-, p, m, y, y2, -⟩
        · exact y
        · exact absurd (y.symm.trans a2) (nI_nm1 (by omega))
      subst it0
      rw [F_rd_m a1]
      unfold F_mm
      by_cases h3 : r 6 t = nI 3
      · have h2 : ¬ r 6 t = nI 2 := fun y => absurd (h3.symm.trans y) (by decide)
        rw [if_pos h3, F_read_m2 a2 h2]
        refine ⟨1, Or.inl rfl, rfl, fun a ha => ?_, fun a ha => ?_, fun j _ _ j6 j7 _ => ?_, fun j _ => rfl, ?_, fun f hf => ?_, fun z => absurd z (by decide), fun _ => ⟨?_, ?_⟩, ?_, ?_, ?_, ?_, ?_, fun _ => ⟨ln + 1, 0, ?_, by omega, ?_, by omega, Or.inl rfl⟩⟩
        all_goals first | (simp (disch := omega) only [upd2_row, upd2_ne, up_ne, up_s]; done) | (simp (disch := omega) only [upd2_row, upd2_ne, up_ne, up_s]; first | exact k0 | exact k4 | exact k6 | exact kl10 | exact n7 | exact n8 | exact n8.symm | (rw [k6]; done) | (rw [k4]; done) | (rw [k7, nI_add]; done) | (rw [k8, nI_add]; done) | (rw [k7, n7]; done) | (rw [k8, n8]; done) | (rw [kl10]; done))
      · have h2 : r 6 t = nI 2 := hso.elim id (fun y => absurd y h3)
        rw [if_neg h3, F_read_m1 a2 h2]
        refine ⟨3, Or.inr (Or.inr rfl), rfl, fun a ha => ?_, fun a ha => rfl, fun j j1 _ _ _ _ => ?_, fun j _ => rfl, ?_, fun f hf => ?_, fun _ => ⟨?_, ?_⟩, fun z => absurd rfl z, ?_, ?_, ?_, ?_, kl10, fun z => absurd z (by decide)⟩
        all_goals first | (simp (disch := omega) only [upd2_row, upd2_ne, up_ne, up_s]; done) | (simp (disch := omega) only [upd2_row, upd2_ne, up_ne, up_s]; first | exact k0 | exact k4 | exact k6 | exact kl10 | exact n7 | exact n8 | exact n8.symm | (rw [k6]; done) | (rw [k4]; done) | (rw [k7, nI_add]; done) | (rw [k8, nI_add]; done) | (rw [k7, n7]; done) | (rw [k8, n8]; done) | (rw [kl10]; done))
    · have hm := hL.2.2.2.2
      by_cases hlt : it < m
      · rw [F_rd_i hL.1 hL.2.2.1 hL.2.2.2.1 hlt, F_read_i b1 b2 b3 hm hlt, b4 it hlt]
        unfold W_rdK W_rdL
        refine ⟨1, Or.inl rfl, rfl, fun a ha => ?_, fun a ha => ?_, fun j _ j4 _ _ j8 => ?_, fun j hj => ?_, ?_, fun f hf => ?_, fun z => absurd z (by decide), fun _ => ⟨?_, ?_⟩, ?_, ?_, ?_, ?_, ?_, fun _ => ⟨ln, it + 1, ?_, by omega, ?_, by omega, Or.inr ⟨hlz, l, m, b1, b2, b3, by omega⟩⟩⟩
        all_goals first | (simp (disch := omega) only [upd2_row, upd2_ne, up_ne, up_s]; done) | (simp (disch := omega) only [upd2_row, upd2_ne, up_ne, up_s]; first | exact k0 | exact k4 | exact k6 | exact kl10 | exact n7 | exact n8 | exact n8.symm | (rw [k6]; done) | (rw [k4]; done) | (rw [k7, nI_add]; done) | (rw [k8, nI_add]; done) | (rw [k7, n7]; done) | (rw [k8, n8]; done) | (rw [kl10]; done))
      · rw [F_rd_n hL.1 hL.2.2.1 hL.2.2.2.1 hlt, F_read_n b1 b2 b3 hm hit (by omega)]
        have ih := rd_sim ht hz hso hl f (ln + 1) 0 (W_nlK k (7 + t)) (upd2 kl (7 + t) 9 0) (up (up n (12 * t + 7) (nI (ln + 1))) (12 * t + 8) (nI 0)) q (by omega) (by omega) (by omega) (W_nl_7 k7) (by rw [up_ne (by omega), up_s]) (W_nl_8 _ _) (up_s _ _ _) (Or.inl rfl) (by unfold W_nlK; simp (disch := omega) only [upd2_row, upd2_ne, up_ne, up_s]; exact k4) (by unfold W_nlK; simp (disch := omega) only [upd2_row, upd2_ne, up_ne, up_s]; exact k6) (by simp (disch := omega) only [upd2_row, upd2_ne, up_ne, up_s]; exact kl10) (by unfold W_nlK; simp (disch := omega) only [upd2_row, upd2_ne, up_ne, up_s]; exact k0)
        obtain ⟨v, c1, c2, c3, c4, c5, c6, c7, c8, c9, c10, c11, c12, c13, c14, c15, c16⟩ := ih
        refine ⟨v, c1, c2, fun a ha => ?_, fun a ha => ?_, fun j j1 j4 j6 j7 j8 => ?_, c6, c7, fun f hf => ?_, c9, fun hv => ⟨?_, ?_⟩, c11, c12, c13, c14, c15, c16⟩
        · rw [c3 a ha]; unfold W_nlK; simp (disch := omega) only [upd2_ne]
        · rw [c4 a ha]; simp (disch := omega) only [upd2_ne]
        · rw [c5 j j1 j4 j6 j7 j8, up_ne j8, up_ne j7]
        · rw [c8 f hf]; unfold W_nlK; simp (disch := omega) only [upd2_row, upd2_ne, up_ne, up_s]
        · rw [(c10 hv).1]; unfold W_nlK; simp (disch := omega) only [upd2_row, upd2_ne, up_ne, up_s]
        · rw [(c10 hv).2, up_ne (by omega), up_ne (by omega)]
end RD
section READER
variable {l : Launch} {D : va_G} {B b : Nat} {N : NT} {G : MI} {GL : ML} {r : MI} {rl : ML} {F P ng nt ns mem c t a : Nat} {k : MI} {n : Nat → Int32} {kl : ML} {q : Nat → Int64}
theorem step_reader (hT : Stc N G GL r rl F P ng nt ns mem) (hX : FixC c P N) (hcF : c + 35 ≤ F) (hF : FixR b N) (ht : t < nt) (hFa : F ≤ a) (hs : N.2.1 a = (5, 5)) (hso : r 6 t = nI 2 ∨ r 6 t = nI 3) (g0 : G a 0 = r 6 t) {g ga : Nat} (hg : g < ng) (h12 : r 12 t = nI g) (hgr : N.1 (P + 1) g = some ga) (har : N.1 a 3 = some ga) (g4 : G a 4 = r 13 t)
    (hS : Sim ns k n) (h1 : n (12 * t + 0) = nI 1) (hPI : PIr r n t) (hLS : LSa r nt ns n kl q) :
    ∃ k2 kl2 v n2 q2, StepC l D B c N a (7 + t) k kl G GL k2 kl2 ∧ (∀ G2 S GL2, Cq l D B mX12_read [vr (some (b + 0)), vi (nI t)] (RI b r (up n (12 * t + 2) (n (12 * t + 2) + nI 1)) G2) (RLg b rl S q GL2) N (some (vi (nI v))) (RI b r n2 G2) (RLg b rl S q2 GL2)) ∧ StepRes r nt ns t k n q k2 kl2 v n2 q2 := by
  have hnt := hT.2.1.2.1
  have hns := hT.2.2.1.2.1
  have hng := hT.2.2.2.1.1
  have ht20 : t < 20 := by omega
  obtain ⟨ga', la, z, hG, fa, fl, gk, -, g2, hl⟩ := hT.2.2.2.2.1 g hg
  have hpl : PlOk r g z := by
    obtain ⟨z', w1, w2, w3⟩ := (hT.2.2.2.2.1 g hg).pl
    have : z' = z := nI_eq_of (w2.symm.trans g2) (by omega) (by have := hG.2.2.2.2; omega)
    rw [this] at w3
    exact w3
  have ega : ga' = ga := Option.some.inj (hG.1.symm.trans hgr)
  subst ega
  have hok := (hT.2.2.2.2.1 g hg).ok hcF hG
  have hz := hG.2.2.2.2
  obtain ⟨g', sz, ln, it, i1, i2, i3, i4, i5, i6, i7, i8, i9⟩ := hPI hso
  have eg : g' = g := nI_eq_of (i2.symm.trans h12) (by omega) (by omega)
  subst eg
  have ez : sz = z := nI_eq_of (i3.symm.trans g2) (by omega) (by omega)
  subst ez
  have ns4 : ¬ r 6 t = nI 4 := fun z => by rcases hso with y | y <;> exact absurd (z.symm.trans y) (by decide)
  have k0 : k (7 + t) 0 = nI 1 := (hS.tr ht20 (by omega)).trans h1
  -- the end of every way: from the row's cells to all
  have fin : ∀ (k2 : MI) (kl2 : ML) (v : Nat) (n2 : Nat → Int32) (q2 : Nat → Int64), (v = 1 ∨ v = 2 ∨ v = 3) → (∀ a, a ≠ 7 + t → k2 a = k a) → (∀ a, a ≠ 7 + t → kl2 a = kl a) → (∀ j, j ≠ 12 * t + 1 → j ≠ 12 * t + 2 → j ≠ 12 * t + 4 → j ≠ 12 * t + 6 → j ≠ 12 * t + 7 → j ≠ 12 * t + 8 → n2 j = n j) → n2 (12 * t + 2) = n (12 * t + 2) + nI 1 → (∀ j, j ≠ t → q2 j = q j) → k2 (7 + t) 0 = nI v → (∀ f, f = 2 ∨ f = 3 ∨ f = 5 ∨ f = 11 ∨ f = 12 → k2 (7 + t) f = k (7 + t) f) → k2 (7 + t) 1 = n2 (12 * t + 1) → k2 (7 + t) 4 = n2 (12 * t + 4) → k2 (7 + t) 6 = n2 (12 * t + 6) → k2 (7 + t) 7 = n2 (12 * t + 7) → k2 (7 + t) 8 = n2 (12 * t + 8) → kl2 (7 + t) 10 = q2 t → (v = 3 → n2 (12 * t + 1) = wf r t) → (v ≠ 3 → n2 (12 * t + 1) = n (12 * t + 1)) → (v = 1 → ∃ ln it, n2 (12 * t + 7) = nI ln ∧ ln ≤ sz ∧ n2 (12 * t + 8) = nI it ∧ it ≤ 12 ∧ RdI r g' sz ln it) → StepRes r nt ns t k n q k2 kl2 v n2 q2 := by
    intro k2 kl2 v n2 q2 x0 x1 x2 x3 x4 x5 x6 x7 x8 x9 x10 x11 x12 x13 x14 x15 x16
    refine ⟨x0, hS.row ht20 (fun a ha _ => by rw [upd2_ne ha]; exact x1 a ha) (fun s hs => ?_) (fun j hj hj2 => by rw [up_ne (by omega)]; exact x3 j (by omega) (by omega) (by omega) (by omega) (by omega) (by omega)) (nine ?_ ?_ ?_ ?_ ?_ ?_ ?_ ?_ ?_) ?_ ?_, fun a ha _ => x1 a ha, fun j hj hj2 => x3 j (by omega) (by omega) (by omega) (by omega) (by omega) (by omega), x4, ⟨fun u hu hu2 => ?_, fun u hu hu4 => ?_, fun s hs => ?_⟩, fun hv => ⟨fun y => ?_, fun _ => ?_, fun y => absurd y ns4⟩, fun hv _ => x14 hv, x15, fun _ y => absurd y ns4, fun y => absurd y ns4, fun s h8 h9 => ⟨x3 _ (by omega) (by omega) (by omega) (by omega) (by omega) (by omega), x5 _ (by omega)⟩⟩
    · rw [upd2_ne (by omega), x1 _ (by omega), up_ne (by omega), x3 _ (by omega) (by omega) (by omega) (by omega) (by omega) (by omega)]
      exact hS.tb hs
    · rw [upd2_row, up_ne (by omega), up_s]; exact x6
    · rw [upd2_row, up_ne (by omega), up_ne (by omega)]; exact x8
    · rw [upd2_row, up_s, up_ne (by omega), x4, x7 2 (by omega), hS.tr ht20 (by omega)]
    · rw [upd2_row, up_ne (by omega), up_ne (by omega), x7 3 (by omega), x3 _ (by omega) (by omega) (by omega) (by omega) (by omega) (by omega)]; exact hS.tr ht20 (by omega)
    · rw [upd2_row, up_ne (by omega), up_ne (by omega)]; exact x9
    · rw [upd2_row, up_ne (by omega), up_ne (by omega), x7 5 (by omega), x3 _ (by omega) (by omega) (by omega) (by omega) (by omega) (by omega)]; exact hS.tr ht20 (by omega)
    · rw [upd2_row, up_ne (by omega), up_ne (by omega)]; exact x10
    · rw [upd2_row, up_ne (by omega), up_ne (by omega)]; exact x11
    · rw [upd2_row, up_ne (by omega), up_ne (by omega)]; exact x12
    · rw [upd2_row, up_ne (by omega), up_ne (by omega), x7 11 (by omega), x3 _ (by omega) (by omega) (by omega) (by omega) (by omega) (by omega)]; exact hS.ts ht20
    · rw [upd2_row, up_ne (by omega), up_ne (by omega), x7 12 (by omega), x3 _ (by omega) (by omega) (by omega) (by omega) (by omega) (by omega)]; exact hS.ti ht20
    · by_cases e : u = t
      · subst e; exact x13
      · rw [x2 _ (by omega), x5 u e]; exact hLS.1 u hu hu2
    · have e : u ≠ t := fun y => by subst y; exact ns4 hu4
      rw [x2 _ (by omega), x5 u e, x3 _ (by omega) (by omega) (by omega) (by omega) (by omega) (by omega)]
      exact hLS.2.1 u hu hu4
    · rw [x2 _ (by omega), x5 _ (by omega), x5 _ (by omega), x3 _ (by omega) (by omega) (by omega) (by omega) (by omega) (by omega)]
      exact hLS.2.2 s hs
    · exfalso
      rcases hso with w | w <;> rcases y with y | y <;> exact absurd (w.symm.trans y) (by decide)
    · obtain ⟨ln', it', y1, y2, y3, y4, y5⟩ := x16 hv
      exact ⟨g', sz, ln', it', i1, i2, i3, i4, y1, y2, y3, y4, y5⟩
  have wfr : wf r t = if r 1 g' = r 13 t then nI 1 else nI 3 := by
    unfold wf
    rw [if_neg (fun y => by rcases hso with w | w <;> rcases y with y | y <;> exact absurd (w.symm.trans y) (by decide)), h12, nI_clamp (by omega)]
  by_cases hk : r 1 g' = r 13 t
  · have hc := c_Reader_step (l := l) (D := D) (B := B) (k := k) (G := G) (GL := GL) (kl := kl) hX.b (w := some (c + 2)) (a := a) (o := 7 + t) hs (Or.inr (by omega)) (shC_w ht20) har hG.2.1 (Or.inr (by omega)) (by rw [gk, g4]; exact hk) hG.2.2.1 hG.2.2.2.1 hz hok ((hS.tr ht20 (by omega)).trans i5) ((hS.tr ht20 (by omega)).trans i7) i6 i8
    have hr := fun (G2 : MI) (S : Int64) (GL2 : ML) => n_read (l := l) (D := D) (B := B) (b := b) (r := r) (rl := rl) (G := G2) (S := S) (GL := GL2) (q := q) (n := up n (12 * t + 2) (n (12 * t + 2) + nI 1)) hF (t := t) (g0 := g') (sz := sz) (ln := ln) (it := it) ht20 h12 i1 hk g2 hz hpl (by rw [up_ne (by omega)]; exact i5) (by rw [up_ne (by omega)]; exact i7) i6 i8
    rw [g0] at hc
    have hsim := rd_sim (N := N) (GL := GL) (r := r) (rl := rl) (t := t) (z := sz) ht20 hz hso hl (sz - ln) ln it k kl (up n (12 * t + 2) (n (12 * t + 2) + nI 1)) q rfl i6 i8 ((hS.tr ht20 (by omega)).trans i5) (by rw [up_ne (by omega)]; exact i5) ((hS.tr ht20 (by omega)).trans i7) (by rw [up_ne (by omega)]; exact i7) i9 (by rw [up_ne (by omega)]; exact hS.tr ht20 (by omega)) (by rw [up_ne (by omega)]; exact hS.tr ht20 (by omega)) (hLS.1 t ht hso) k0
    obtain ⟨v, c1, c2, c3, c4, c5, c6, c7, c8, c9, c10, c11, c12, c13, c14, c15, c16⟩ := hsim
    refine ⟨_, _, v, _, _, Or.inr (Or.inl ⟨hs, hc⟩), fun G2 S GL2 => ?_, fin _ _ v _ _ c1 c3 c4 (fun j j1 j2 j4 j6 j7 j8 => ?_) ?_ c6 c7 c8 ?_ c11 c12 c13 c14 c15 (fun hv => ?_) (fun hv => ?_) c16⟩
    · have := hr G2 S GL2
      rw [c2] at this
      exact this
    · rw [c5 j j1 j4 j6 j7 j8, up_ne j2]
    · rw [c5 _ (by omega) (by omega) (by omega) (by omega) (by omega), up_s]
    · by_cases hv : v = 3
      · rw [(c9 hv).1, (c9 hv).2]
      · rw [(c10 hv).1, (c10 hv).2, up_ne (by omega)]; exact hS.tr ht20 (by omega)
    · rw [(c9 hv).2, wfr, if_pos hk]
    · rw [(c10 hv).2, up_ne (by omega)]
  · have hc := c_Reader_cast (l := l) (D := D) (B := B) (L := pt c 35 kl GL) (k := k) (G := G) hX.b (w := some (c + 2)) (a := a) (o := 7 + t) hs (Or.inr (by omega)) (shC_w ht20) har hG.2.1 (Or.inr (by omega)) (by rw [gk, g4]; exact hk)
    have hr := fun (G2 : MI) (S : Int64) (GL2 : ML) => n_read_cast (l := l) (D := D) (B := B) (b := b) (r := r) (G := G2) (L := RLg b rl S q GL2) (n := up n (12 * t + 2) (n (12 * t + 2) + nI 1)) hF (t := t) (g0 := g') ht20 h12 i1 hk
    refine ⟨_, kl, 3, _, q, Or.inr (Or.inl ⟨hs, hc⟩), hr, fin _ _ 3 _ _ (Or.inr (Or.inr rfl)) (fun a ha => ?_) (fun _ _ => rfl) (fun j j1 j2 j4 j6 j7 j8 => ?_) ?_ (fun _ _ => rfl) ?_ (fun f hf => ?_) ?_ ?_ ?_ ?_ ?_ (hLS.1 t ht hso) (fun _ => ?_) (fun z => absurd rfl z) (fun z => absurd z (by decide))⟩
    all_goals first | (simp (disch := omega) only [upd2_row, upd2_ne, up_ne, up_s]; done) | (simp (disch := omega) only [upd2_row, upd2_ne, up_ne, up_s]; first | exact hS.tr (f := 4) ht20 (by omega) | exact hS.tr (f := 6) ht20 (by omega) | exact hS.tr (f := 7) ht20 (by omega) | exact hS.tr (f := 8) ht20 (by omega)) | (rw [up_s, wfr, if_neg hk]; done)
end READER

/-! ===== a step of a task on both sides: shares ===== -/
def HuR (s : Nat) (n : Nat → Int32) (kl : ML) (q : Nat → Int64) : Prop := kl (27 + s) 2 = q (28 + s) ∧ (n (302 + s) = -9 → kl (27 + s) 0 = 0 ∧ q (20 + s) = -9223372036854775808) ∧ (¬ n (302 + s) = -9 → kl (27 + s) 0 = q (20 + s))
section GOES
variable {r : MI} {k : MI} {kl : ML} {n : Nat → Int32} {q : Nat → Int64} {S : Int64} {s i it m l o : Nat}
def GoRes (s it m : Nat) (k : MI) (kl : ML) (n : Nat → Int32) (q : Nat → Int64) (K : Int32 × (MI × ML)) (M : Int32 × ((Nat → Int32) × (Nat → Int64))) : Prop :=
  (M.1 = nI 6 ∨ M.1 = -1 ∨ (M.1 = nI 0 ∧ it < m)) ∧ K.1 = M.1 ∧ (∀ a, a ≠ 27 + s → K.2.1 a = k a) ∧ (∀ a, a ≠ 27 + s → K.2.2 a = kl a) ∧ (∀ j, j ≠ 302 + s → M.2.1 j = n j) ∧ (∀ j, j ≠ 20 + s → j ≠ 28 + s → M.2.2 j = q j) ∧ K.2.1 (27 + s) 1 = M.2.1 (302 + s) ∧ HuR s M.2.1 K.2.2 M.2.2
theorem goes_sim (hs : s < 8) (k8 : k o 8 = nI it) (hit : it ≤ 12) (hm : m ≤ 12) (hi : i < 2 ^ 31) (r4 : r 4 l = nI m) (hS : kl o 9 = S) (hb : k (27 + s) 1 = n (302 + s)) (hH : HuR s n kl q) : GoRes s it m k kl n q (F_sg (r 17 s) m i o (27 + s) k kl) (F_goes r n q S s i (nI it) l) := by
  obtain ⟨u1, u2, u3⟩ := hH
  by_cases d0 : r 17 s = 0
  · rw [F_sg_0 d0, F_goes_0 d0]
    exact ⟨Or.inl rfl, rfl, fun _ _ => rfl, fun _ _ => rfl, fun _ _ => rfl, fun _ _ _ => rfl, hb, u1, u2, u3⟩
  · by_cases hl : q (28 + s) < S / (r 17 s).toInt64
    · rw [F_sg_1 d0 (by rw [u1, hS]; exact hl), F_goes_1 d0 hl]
      exact ⟨Or.inr (Or.inl rfl), rfl, fun _ _ => rfl, fun _ _ => rfl, fun _ _ => rfl, fun _ _ _ => rfl, hb, u1, u2, u3⟩
    · have hl' := Int64.not_lt.mp hl
      by_cases hlt : it < m
      · rw [F_sg_2 d0 (by rw [u1, hS]; exact hl') (by rw [k8]; exact inR_nI hlt (by omega)), F_goes_2 d0 hl' (by rw [r4]; exact fun y => absurd ((nI_leI (by omega) (by omega)).mp y) (by omega))]
        exact ⟨Or.inr (Or.inr ⟨rfl, hlt⟩), rfl, fun _ _ => rfl, fun _ _ => rfl, fun _ _ => rfl, fun _ _ _ => rfl, hb, u1, u2, u3⟩
      · rw [F_sg_3 d0 (by rw [u1, hS]; exact hl') (by rw [k8]; exact fun y => hlt (inR_lt y (by omega))), F_goes_3 d0 hl' (by rw [r4]; exact (nI_leI (by omega) (by omega)).mpr (by omega)), hS]
        obtain ⟨V, hV⟩ : ∃ V, S / (r 17 s).toInt64 = V := ⟨_, rfl⟩
        rw [hV]
        by_cases hbt : F_better n q s i V
        · have hbo : F_ofB k kl (27 + s) V (nI i) := by
            unfold F_ofB
            rw [hb]
            by_cases h9 : n (302 + s) = -9
            · exact Or.inl h9
            · rw [u3 h9]
              rcases hbt with y | y | y
              · exact absurd y h9
              · exact Or.inr (Or.inl y)
              · exact Or.inr (Or.inr y)
          rw [F_of_t hbo, F_finds_t hbt]
          refine ⟨Or.inr (Or.inl rfl), rfl, fun a ha => upd2_ne ha, fun a ha => ?_, fun j hj => up_ne hj, fun j h1 h2 => ?_, ?_, ?_, fun y => ?_, fun _ => ?_⟩
          · simp (disch := omega) only [upd2_ne]
          · show up (up q (20 + s) V) (28 + s) V j = _
            rw [up_ne h2, up_ne h1]
          · show upd2 k (27 + s) 1 (nI i) (27 + s) 1 = up n (302 + s) (nI i) (302 + s)
            rw [upd2_row, up_s, up_s]
          · show upd2 (upd2 kl (27 + s) 0 V) (27 + s) 2 V (27 + s) 2 = up (up q (20 + s) V) (28 + s) V (28 + s)
            rw [upd2_row, up_s, up_s]
          · have e : up n (302 + s) (nI i) (302 + s) = -9 := y
            rw [up_s] at e
            exact absurd e (nI_n9 hi)
          · show upd2 (upd2 kl (27 + s) 0 V) (27 + s) 2 V (27 + s) 0 = up (up q (20 + s) V) (28 + s) V (20 + s)
            rw [upd2_row, up_ne (by omega), upd2_row, up_s, up_ne (by omega), up_s]
        · have hbo : ¬ F_ofB k kl (27 + s) V (nI i) := fun y => hbt (by
            unfold F_ofB at y
            rw [hb] at y
            by_cases h9 : n (302 + s) = -9
            · exact Or.inl h9
            · rw [u3 h9] at y
              exact y)
          rw [F_of_f hbo, F_finds_f hbt]
          exact ⟨Or.inr (Or.inl rfl), rfl, fun _ _ => rfl, fun _ _ => rfl, fun _ _ => rfl, fun _ _ _ => rfl, hb, u1, u2, u3⟩
end GOES
section LF
variable {N : NT} {G : MI} {GL : ML} {r : MI} {rl : ML} {F g la z s i : Nat}
/-- a line's fault, on both sides -/
theorem lf_fo (h2 : r 2 g = nI z) (hz : z ≤ 12) (hi : i < 2 ^ 31) (hk : r 1 g = r 16 s) (hl : ∀ i, i < z → LnR N G GL r rl F la g i) : F_fo N la z (nI i) = F_lf r s g (nI i) := by
  unfold F_fo F_lf
  rw [if_neg (show ¬ (r 1 g ≠ r 16 s) from fun y => y hk), h2, nI_clamp (n := z) (by omega), nI_clamp hi]
  by_cases hin : inR (nI i) z
  · rw [if_pos hin, if_neg (show ¬ ¬ inR (nI i) z from fun y => y hin)]
    have hlt := inR_lt hin hi
    rcases hl i hlt with ⟨a1, a2⟩ | ⟨p, np, m, l, hL, -, -, b1, b2, -⟩
    · rw [if_pos a1, a2, if_pos (by decide)]
    · rw [if_neg (by rw [hL.1]; exact fun y => by cases y), b1, if_neg (nI_pos (by omega))]
  · rw [if_neg hin, if_pos hin]
theorem lf_kd (hk : ¬ r 1 g = r 16 s) : F_lf r s g (nI i) = nI 3 := by unfold F_lf; rw [if_pos hk]
theorem lf_pos (h2 : r 2 g = nI z) (h : ¬ F_lf r s g (nI i) = 0) : 0 < F_lf r s g (nI i) := by
  unfold F_lf at h ⊢
  split
  · decide
  · rename_i h1
    rw [if_neg h1] at h
    split
    · decide
    · rename_i h3
      rw [if_neg h3] at h
      split
      · decide
      · rename_i h4
        rw [if_neg h4] at h
        exact absurd rfl h
end LF
section SHARE
variable {l : Launch} {D : va_G} {B b : Nat} {N : NT} {G : MI} {GL : ML} {r : MI} {rl : ML} {F P ng nt ns mem c t a : Nat} {k : MI} {n : Nat → Int32} {kl : ML} {q : Nat → Int64}
/-- from a share's row and its hunt to all -/
theorem share_fin {s : Nat} (hT : Stc N G GL r rl F P ng nt ns mem) (ht : t < nt) (hs : s < ns) (h4 : r 6 t = nI 4) (hS : Sim ns k n) (hLS : LSa r nt ns n kl q) {k2 : MI} {kl2 : ML} {v : Nat} {n2 : Nat → Int32} {q2 : Nat → Int64} (x0 : v = 1 ∨ v = 2 ∨ v = 3) (x1 : ∀ a, a ≠ 7 + t → a ≠ 27 + s → k2 a = k a) (x2 : ∀ a, a ≠ 7 + t → a ≠ 27 + s → kl2 a = kl a) (x3 : ∀ j, j ≠ 12 * t + 1 → j ≠ 12 * t + 2 → j ≠ 12 * t + 4 → j ≠ 12 * t + 7 → j ≠ 12 * t + 8 → j ≠ 12 * t + 9 → j ≠ 302 + s → n2 j = n j) (x4 : n2 (12 * t + 2) = n (12 * t + 2) + nI 1) (x5 : ∀ j, j ≠ t → j ≠ 20 + s → j ≠ 28 + s → q2 j = q j) (x6 : k2 (7 + t) 0 = nI v) (x7 : ∀ f, f = 2 ∨ f = 3 ∨ f = 5 ∨ f = 6 ∨ f = 11 ∨ f = 12 → k2 (7 + t) f = k (7 + t) f) (x8 : k2 (7 + t) 1 = n2 (12 * t + 1)) (x9 : k2 (7 + t) 4 = n2 (12 * t + 4)) (x11 : k2 (7 + t) 7 = n2 (12 * t + 7)) (x12 : k2 (7 + t) 8 = n2 (12 * t + 8)) (x13 : (n2 (12 * t + 8) = 0 → kl2 (7 + t) 9 = 0) ∧ (¬ n2 (12 * t + 8) = 0 → kl2 (7 + t) 9 = q2 t)) (x14 : k2 (27 + s) 1 = n2 (302 + s)) (x15 : HuR s n2 kl2 q2) (x16 : v ≠ 3 → n2 (12 * t + 1) = n (12 * t + 1)) (x17 : v = 1 → PIs r n2 t) (x18 : v = 1 → mu n t < mu n2 t) : StepRes r nt ns t k n q k2 kl2 v n2 q2 := by
  have hnt := hT.2.1.2.1
  have hns := hT.2.2.1.2.1
  have ht20 : t < 20 := by omega
  refine ⟨x0, hS.row ht20 (fun a ha h27 => by rw [upd2_ne ha]; exact x1 a ha (by omega)) (fun s' hs' => ?_) (fun j hj hj2 => by rw [up_ne (by omega)]; exact x3 j (by omega) (by omega) (by omega) (by omega) (by omega) (by omega) (by omega)) (nine ?_ ?_ ?_ ?_ ?_ ?_ ?_ ?_ ?_) ?_ ?_, fun a ha h27 => x1 a ha (by omega), fun j hj hj2 => x3 j (by omega) (by omega) (by omega) (by omega) (by omega) (by omega) (by omega), x4, ⟨fun u hu hu2 => ?_, fun u hu hu4 => ?_, fun s' hs' => ?_⟩, fun hv => ⟨fun y => ?_, fun y => ?_, x17 hv⟩, fun hv y => absurd h4 y, x16, fun hv _ => x18 hv, fun _ => x3 _ (by omega) (by omega) (by omega) (by omega) (by omega) (by omega) (by omega), fun s' h8 h9 => ⟨x3 _ (by omega) (by omega) (by omega) (by omega) (by omega) (by omega) (by omega), x5 _ (by omega) (by omega) (by omega)⟩⟩
  · rw [upd2_ne (by omega), up_ne (by omega)]
    by_cases e : s' = s
    · subst e; exact x14
    · rw [x1 _ (by omega) (by omega), x3 _ (by omega) (by omega) (by omega) (by omega) (by omega) (by omega) (by omega)]
      exact hS.tb hs'
  · rw [upd2_row, up_ne (by omega), up_s]; exact x6
  · rw [upd2_row, up_ne (by omega), up_ne (by omega)]; exact x8
  · rw [upd2_row, up_s, up_ne (by omega), x4, x7 2 (by omega), hS.tr ht20 (by omega)]
  · rw [upd2_row, up_ne (by omega), up_ne (by omega), x7 3 (by omega), x3 _ (by omega) (by omega) (by omega) (by omega) (by omega) (by omega) (by omega)]; exact hS.tr ht20 (by omega)
  · rw [upd2_row, up_ne (by omega), up_ne (by omega)]; exact x9
  · rw [upd2_row, up_ne (by omega), up_ne (by omega), x7 5 (by omega), x3 _ (by omega) (by omega) (by omega) (by omega) (by omega) (by omega) (by omega)]; exact hS.tr ht20 (by omega)
  · rw [upd2_row, up_ne (by omega), up_ne (by omega), x7 6 (by omega), x3 _ (by omega) (by omega) (by omega) (by omega) (by omega) (by omega) (by omega)]; exact hS.tr ht20 (by omega)
  · rw [upd2_row, up_ne (by omega), up_ne (by omega)]; exact x11
  · rw [upd2_row, up_ne (by omega), up_ne (by omega)]; exact x12
  · rw [upd2_row, up_ne (by omega), up_ne (by omega), x7 11 (by omega), x3 _ (by omega) (by omega) (by omega) (by omega) (by omega) (by omega) (by omega)]; exact hS.ts ht20
  · rw [upd2_row, up_ne (by omega), up_ne (by omega), x7 12 (by omega), x3 _ (by omega) (by omega) (by omega) (by omega) (by omega) (by omega) (by omega)]; exact hS.ti ht20
  · have e : u ≠ t := fun y => by
      subst y
      rcases hu2 with w | w <;> exact absurd (h4.symm.trans w) (by decide)
    rw [x2 _ (by omega) (by omega), x5 u e (by omega) (by omega)]; exact hLS.1 u hu hu2
  · by_cases e : u = t
    · subst e; exact x13
    · rw [x2 _ (by omega) (by omega), x5 u e (by omega) (by omega), x3 _ (by omega) (by omega) (by omega) (by omega) (by omega) (by omega) (by omega)]
      exact hLS.2.1 u hu hu4
  · by_cases e : s' = s
    · subst e; exact x15
    · rw [x2 _ (by omega) (by omega), x5 _ (by omega) (by omega) (by omega), x5 _ (by omega) (by omega) (by omega), x3 _ (by omega) (by omega) (by omega) (by omega) (by omega) (by omega) (by omega)]
      exact hLS.2.2 s' hs'
  · exfalso
    rcases y with y | y <;> exact absurd (h4.symm.trans y) (by decide)
  · exfalso
    rcases y with y | y <;> exact absurd (h4.symm.trans y) (by decide)
theorem step_share (hT : Stc N G GL r rl F P ng nt ns mem) (hX : FixC c P N) (hcF : c + 35 ≤ F) (hF : FixR b N) (ht : t < nt) (hFa : F ≤ a) (hs7 : N.2.1 a = (7, 7)) (h4 : r 6 t = nI 4) {s sa fr to : Nat} (hs : s < ns) (h12 : r 12 t = nI s) (hsr : N.1 (P + 3) s = some sa) (har : N.1 a 3 = some sa) (g4 : G a 4 = nI s) (hft : fr ≤ to) (hto : to ≤ 20) (h13 : r 13 t = nI fr) (g5 : G a 5 = nI fr) (h14 : r 14 t = nI to) (g6 : G a 6 = nI to)
    (hS : Sim ns k n) (h1 : n (12 * t + 0) = nI 1) (h00 : n (12 * t + 1) = 0) (hPI : PIs r n t) (hLS : LSa r nt ns n kl q) :
    ∃ k2 kl2 v n2 q2, StepC l D B c N a (7 + t) k kl G GL k2 kl2 ∧ (∀ G2 S GL2, ∃ S2, Cq l D B mX12_shared [vr (some (b + 0)), vi (nI t)] (RI b r (up n (12 * t + 2) (n (12 * t + 2) + nI 1)) G2) (RLg b rl S q GL2) N (some (vi (nI v))) (RI b r n2 G2) (RLg b rl S2 q2 GL2)) ∧ StepRes r nt ns t k n q k2 kl2 v n2 q2 := by
  have hnt := hT.2.1.2.1
  have hns := hT.2.2.1.2.1
  have hng := hT.2.2.2.1.1
  have ht20 : t < 20 := by omega
  obtain ⟨s', fr', to', g, ln, it, i1, i2, i3, i4, i5, i6, i7, i8, i9, i10, i11, i12, i13⟩ := hPI h4
  have es : s' = s := nI_eq_of (i3.symm.trans h12) (by omega) (by omega)
  subst es
  have ef : fr' = fr := nI_eq_of (i4.symm.trans h13) (by omega) (by omega)
  subst ef
  have et : to' = to := nI_eq_of (i5.symm.trans h14) (by omega) (by omega)
  subst et
  have k0 : k (7 + t) 0 = nI 1 := (hS.tr ht20 (by omega)).trans h1
  have k1 : k (7 + t) 1 = n (12 * t + 1) := hS.tr ht20 (by omega)
  have k4 : k (7 + t) 4 = n (12 * t + 4) := hS.tr ht20 (by omega)
  have k7 : k (7 + t) 7 = nI ln := (hS.tr ht20 (by omega)).trans i8
  have k8 : k (7 + t) 8 = nI it := (hS.tr ht20 (by omega)).trans i10
  have kb : k (27 + s') 1 = n (302 + s') := hS.tb hs
  have hHu : HuR s' n kl q := hLS.2.2 s' hs
  have hLt := hLS.2.1 t ht h4
  obtain ⟨n1, hn1⟩ : ∃ n1, up n (12 * t + 2) (n (12 * t + 2) + nI 1) = n1 := ⟨_, rfl⟩
  have n1o : ∀ j, j ≠ 12 * t + 2 → n1 j = n j := fun j hj => by rw [← hn1, up_ne hj]
  have n12 : n1 (12 * t + 2) = n (12 * t + 2) + nI 1 := by rw [← hn1, up_s]
  rw [hn1]
  rcases i12 with hlt | ⟨e1, e2⟩
  · -- a line to go
    obtain ⟨sa', g', ga, f1, f2, f3, f4, f5, f6, f7, f8, f9, -⟩ := hT.2.2.2.2.2.1 s' hs
    have esa : sa' = sa := Option.some.inj (f1.symm.trans hsr)
    subst esa
    have eg : g' = g := nI_eq_of (f5.symm.trans i7) (by omega) (by omega)
    subst eg
    obtain ⟨ga', la, z, hG, fa, fl, gk, -, g2, hl⟩ := hT.2.2.2.2.1 g' f4
    have ega : ga' = ga := Option.some.inj (hG.1.symm.trans f6)
    subst ega
    have hz := hG.2.2.2.2
    have hpl : PlOk r g' z := by
      obtain ⟨z', w1, w2, w3⟩ := (hT.2.2.2.2.1 g' f4).pl
      have : z' = z := nI_eq_of (w2.symm.trans g2) (by omega) (by omega)
      rw [this] at w3
      exact w3
    have hok := (hT.2.2.2.2.1 g' f4).ok hcF hG
    have hSh : ShC c N a sa' ga' la z := ⟨hs7, Or.inr (by omega), har, f2, Or.inr (by omega), f7, hG.2.1, Or.inr (by omega), hG.2.2.1, hG.2.2.2.1, hz, hok⟩
    have hft' : ¬ G a 6 ≤ G a 5 := by
      rw [g5, g6]
      exact fun y => absurd ((nI_leI (by omega) (by omega)).mp y) (by omega)
    have hc := c_Share_step (l := l) (D := D) (B := B) (k := k) (G := G) (kl := kl) (GL := GL) hX.b hSh (o := 7 + t) (shC_w ht20) g4 (by omega) (hX.hu (by omega)) hft' g5 k7 (by omega) k8 i11
    rw [g5, g6] at hc
    by_cases hlf : F_lf r s' g' (nI (fr' + ln)) = 0
    · obtain ⟨hkd, hiz, p, p6, hp, m, m12, r4⟩ := F_lf_z hlf g2 hz (by omega) hpl
      rcases hl (fr' + ln) hiz with ⟨-, a2⟩ | ⟨pa, np, m', l', hL, -, -, b1, b2, b3, -, b4⟩
      · exact absurd (hp.symm.trans a2) (nI_nm1 (by omega))
      · have el : l' = p := nI_eq_of (b1.symm.trans hp) (by omega) (by omega)
        subst el
        have em : m' = m := nI_eq_of (b3.symm.trans r4) (by have := hL.2.2.2.2; omega) (by omega)
        subst em
        have hsil : F_sil N G GL sa' ga' la z (fr' + ln) (7 + t) (27 + s') k kl = F_si GL (r 17 s') np m' (fr' + ln) (7 + t) (27 + s') it k kl := by
          rw [F_sil_ok (by rw [gk, f8]; exact hkd) hiz hz hL.1 hL.2.2.1 hL.2.2.2.1 k8 i11, f9]
        rw [hsil] at hc
        -- the sum ahead of this step
        obtain ⟨q0, hq0, hq0t, hq0o⟩ : ∃ q0, ((it = 0 ∧ q0 = up q t 0) ∨ (0 < it ∧ q0 = q)) ∧ q0 t = kl (7 + t) 9 ∧ ∀ j, j ≠ t → q0 j = q j := by
          by_cases e : it = 0
          · subst e
            refine ⟨up q t 0, Or.inl ⟨rfl, rfl⟩, ?_, fun j hj => up_ne hj⟩
            rw [up_s, hLt.1 (by rw [i10]; rfl)]
          · refine ⟨q, Or.inr ⟨by omega, rfl⟩, ?_, fun j _ => rfl⟩
            rw [hLt.2 (by rw [i10]; exact nI_z (by omega) (by omega))]
        have hr := fun (G2 : MI) (S : Int64) (GL2 : ML) => n_shared_C (l := l) (D := D) (B := B) (b := b) (r := r) (rl := rl) (G := G2) (S := S) (GL := GL2) (q := q) (q0 := q0) (n := n1) hF (t := t) (s := s') (fr := fr') (to := to') (ln := ln) (g0 := g') (sz := z) (it := it) (p := l') (li := m') ht20 h12 (by omega) h13 h14 ((n1o _ (by omega)).trans i8) ((n1o _ (by omega)).trans i10) hto hlt i7 i2 g2 hz hpl hkd hiz hp p6 r4 m12 i11 hq0
        -- what has been read by this step
        obtain ⟨k3, kl3, it1, n3, q3, y1, y2, y3, y4, y5, y6, y7, y8, y9, y10, y11, y12, y13, y14⟩ : ∃ k3 kl3 it1 n3 q3, F_si GL (r 17 s') np m' (fr' + ln) (7 + t) (27 + s') it k kl = F_sg (r 17 s') m' (fr' + ln) (7 + t) (27 + s') k3 kl3 ∧ F_shN n1 t it m' = n3 ∧ F_shQ rl q0 t it m' l' = q3 ∧ F_shI it m' = it1 ∧ k3 (7 + t) 8 = nI it1 ∧ n3 (12 * t + 8) = nI it1 ∧ it1 ≤ 12 ∧ kl3 (7 + t) 9 = q3 t ∧ (∀ a, a ≠ 7 + t → k3 a = k a ∧ kl3 a = kl a) ∧ (∀ f, f ≠ 4 → f ≠ 8 → k3 (7 + t) f = k (7 + t) f) ∧ k3 (7 + t) 4 = n3 (12 * t + 4) ∧ (∀ j, j ≠ 12 * t + 2 → j ≠ 12 * t + 4 → j ≠ 12 * t + 8 → n3 j = n j) ∧ (n3 (12 * t + 2) = n (12 * t + 2) + nI 1 ∧ ∀ j, j ≠ t → q3 j = q j) ∧ (it < m' → it1 = it + 1) ∧ (¬ it < m' → it1 = it) ∧ (it1 = 0 → kl3 (7 + t) 9 = 0) := by
          by_cases hlt2 : it < m'
          · refine ⟨W_rdK k (7 + t), W_rdL kl (7 + t) (F_worth (GL np it)), it + 1, up (up n1 (12 * t + 8) (nI (it + 1))) (12 * t + 4) (n1 (12 * t + 4) + nI 1), up q0 t (q0 t + F_worth (rl 5 (12 * l' + it))), F_si_t hlt2, ?_, ?_, ?_, W_rd_8 k8, ?_, by omega, ?_, fun a ha => ⟨?_, ?_⟩, fun f h4 h8 => ?_, ?_, fun j j2 j4 j8 => ?_, ⟨?_, fun j hj => ?_⟩, fun _ => rfl, fun z => absurd hlt2 z, fun z => absurd z (by omega)⟩
            · unfold F_shN; rw [if_pos hlt2]
            · unfold F_shQ; rw [if_pos hlt2]
            · unfold F_shI; rw [if_pos hlt2]
            · rw [up_ne (by omega), up_s]
            · unfold W_rdL
              rw [up_s, upd2_row, up_ne (by omega), upd2_row, up_s, hq0t, b4 it hlt2]
            · unfold W_rdK; rw [upd2_ne ha, upd2_ne ha]
            · unfold W_rdL; rw [upd2_ne ha, upd2_ne ha]
            · unfold W_rdK; rw [upd2_row, up_ne h4, upd2_row, up_ne h8]
            · unfold W_rdK
              rw [upd2_row, up_s, upd2_row, up_ne (by omega), up_s, k4, n1o _ (by omega)]
            · rw [up_ne j4, up_ne j8, n1o j j2]
            · rw [up_ne (by omega), up_ne (by omega), n12]
            · rw [up_ne hj, hq0o j hj]
          · refine ⟨k, kl, it, n1, q0, F_si_f hlt2, ?_, ?_, ?_, k8, ?_, i11, hq0t.symm, fun a ha => ⟨rfl, rfl⟩, fun f _ _ => rfl, ?_, fun j j2 _ _ => n1o j j2, ⟨n12, hq0o⟩, fun z => absurd z hlt2, fun _ => rfl, fun z => ?_⟩
            · unfold F_shN; rw [if_neg hlt2]
            · unfold F_shQ; rw [if_neg hlt2]
            · unfold F_shI; rw [if_neg hlt2]
            · rw [n1o _ (by omega)]; exact i10
            · rw [n1o _ (by omega)]; exact k4
            · exact hLt.1 (by rw [i10, z]; rfl)
        obtain ⟨⟨y15, y16⟩, y17, y18, y19⟩ := (⟨y13, y14⟩ : _ ∧ _)
        rw [y1] at hc
        simp only [y2, y3, y4] at hr
        have hgo := goes_sim (r := r) (k := k3) (kl := kl3) (n := n3) (q := q3) (S := q3 t) (s := s') (i := fr' + ln) (it := it1) (m := m') (l := l') (o := 7 + t) (by omega) y5 y7 m12 (by omega) r4 y8 (by rw [(y9 _ (by omega)).1, y12 _ (by omega) (by omega) (by omega)]; exact kb) (by
          unfold HuR
          rw [(y9 _ (by omega)).2, y12 _ (by omega) (by omega) (by omega), y16 _ (by omega), y16 _ (by omega)]
          exact hHu)
        obtain ⟨K, hK⟩ : ∃ K, F_sg (r 17 s') m' (fr' + ln) (7 + t) (27 + s') k3 kl3 = K := ⟨_, rfl⟩
        obtain ⟨M, hM⟩ : ∃ M, F_goes r n3 q3 (q3 t) s' (fr' + ln) (nI it1) l' = M := ⟨_, rfl⟩
        rw [hK, hM] at hgo
        rw [hK] at hc
        obtain ⟨w1, w2, w3, w4, w5, w6, w7, w8⟩ := hgo
        have Kr : ∀ f, K.2.1 (7 + t) f = k3 (7 + t) f := fun f => by rw [w3 _ (by omega)]
        have Klr : ∀ f, K.2.2 (7 + t) f = kl3 (7 + t) f := fun f => by rw [w4 _ (by omega)]
        have Mr : ∀ j, j < 302 → M.2.1 j = n3 j := fun j hj => w5 j (by omega)
        have Mq : M.2.2 t = q3 t := w6 t (by omega) (by omega)
        rcases w1 with w | w | ⟨w, wl⟩
        · -- a fault
          have e3 : F_sh3 r n3 q3 t s' (fr' + ln) it1 l' ln to' = (nI 3, (up M.2.1 (12 * t + 1) (nI 6), M.2.2)) := by
            rw [F_sh3_f (by rw [hM, w]; decide), hM, w]
          have eW : F_shW (nI fr') (nI to') (7 + t) K = (upd2 (upd2 K.2.1 (7 + t) 0 (nI 3)) (7 + t) 1 (nI 6), K.2.2) := by
            unfold F_shW
            rw [if_pos (by rw [w2, w]; decide), w2, w]
          rw [eW] at hc
          dsimp only at hc
          simp only [e3] at hr
          refine ⟨_, _, 3, _, _, Or.inr (Or.inr ⟨hs7, hc⟩), fun G2 S GL2 => ⟨_, hr G2 S GL2⟩, share_fin hT ht hs h4 hS hLS (Or.inr (Or.inr rfl)) (fun a ha hb => ?_) (fun a ha hb => ?_) (fun j j1 j2 j4 j7 j8 j9 jb => ?_) ?_ (fun j jt jb jc => ?_) ?_ (fun f hf => ?_) ?_ ?_ ?_ ?_ ⟨fun z => ?_, fun z => ?_⟩ ?_ ?_ (fun z => absurd rfl z) (fun z => absurd z (by decide)) (fun z => absurd z (by decide))⟩
          · rw [upd2_ne ha, upd2_ne ha, w3 a hb, (y9 a ha).1]
          · rw [w4 a hb, (y9 a ha).2]
          · rw [up_ne j1, w5 j jb, y12 j j2 j4 j8]
          · rw [up_ne (by omega), Mr _ (by omega), y15]
          · rw [w6 j jb jc, y16 j jt]
          · simp (disch := omega) only [upd2_row, up_ne, up_s]
          · simp (disch := omega) only [upd2_row, up_ne, up_s]
            rw [Kr, y10 f (by omega) (by omega)]
          · simp (disch := omega) only [upd2_row, up_ne, up_s]
          · simp (disch := omega) only [upd2_row, up_ne, up_s]
            rw [Kr, Mr _ (by omega)]; exact y11
          · simp (disch := omega) only [upd2_row, up_ne, up_s]
            rw [Kr, Mr _ (by omega), y10 7 (by omega) (by omega), k7, y12 _ (by omega) (by omega) (by omega), i8]
          · simp (disch := omega) only [upd2_row, up_ne, up_s]
            rw [Kr, Mr _ (by omega), y5, y6]
          · rw [up_ne (by omega), Mr _ (by omega), y6] at z
            rw [Klr]
            refine y19 ?_
            exact Nat.eq_zero_of_not_pos (fun hp => nI_z (by omega) hp z)
          · rw [Klr, y8, Mq]
          · rw [upd2_ne (by omega), upd2_ne (by omega), up_ne (by omega)]; exact w7
          · unfold HuR at w8 ⊢
            rw [up_ne (by omega)]; exact w8
        · -- the line is over
          have e3 : F_sh3 r n3 q3 t s' (fr' + ln) it1 l' ln to' = (if fr' + ln + 1 = to' then nI 2 else nI 1, (up (up (up M.2.1 (12 * t + 9) (M.2.1 (12 * t + 9) + nI 1)) (12 * t + 7) (nI (ln + 1))) (12 * t + 8) (nI 0), M.2.2)) := by
            rw [F_sh3_o (by rw [hM, w]; decide) (by rw [hM, w]; decide), hM]
          have n7 : W_nlK K.2.1 (7 + t) (7 + t) 7 = nI (ln + 1) := W_nl_7 (by rw [Kr, y10 7 (by omega) (by omega)]; exact k7)
          have eW : F_shW (nI fr') (nI to') (7 + t) K = (if fr' + ln + 1 = to' then upd2 (W_nlK K.2.1 (7 + t)) (7 + t) 0 (nI 2) else W_nlK K.2.1 (7 + t), upd2 K.2.2 (7 + t) 9 0) := by
            unfold F_shW
            rw [if_neg (by rw [w2, w]; decide), if_pos (w2.trans w), n7, nI_add]
            by_cases e : fr' + ln + 1 = to'
            · rw [if_pos ((nI_leI (by omega) (by omega)).mpr (by omega)), if_pos e]
            · rw [if_neg (fun y => absurd ((nI_leI (by omega) (by omega)).mp y) (by omega)), if_neg e]
          rw [eW] at hc
          dsimp only at hc
          simp only [e3] at hr
          obtain ⟨v, hv, kv, hkv, hkv0, hkvo, hv2⟩ : ∃ v, (if fr' + ln + 1 = to' then nI 2 else nI 1) = nI v ∧ ∃ kv, (if fr' + ln + 1 = to' then upd2 (W_nlK K.2.1 (7 + t)) (7 + t) 0 (nI 2) else W_nlK K.2.1 (7 + t)) = kv ∧ kv (7 + t) 0 = nI v ∧ (∀ a f, a ≠ 7 + t ∨ f ≠ 0 → kv a f = W_nlK K.2.1 (7 + t) a f) ∧ ((v = 2) ∨ (v = 1 ∧ fr' + ln + 1 < to')) := by
            by_cases e : fr' + ln + 1 = to'
            · rw [if_pos e]
              simp only [if_pos e]
              refine ⟨2, rfl, _, rfl, by rw [upd2_row, up_s], fun a f h => ?_, Or.inl rfl⟩
              by_cases ea : a = 7 + t
              · subst ea
                rw [upd2_row, up_ne (h.elim (fun y => absurd rfl y) id)]
              · rw [upd2_ne ea]
            · rw [if_neg e]
              simp only [if_neg e]
              refine ⟨1, rfl, _, rfl, ?_, fun a f h => rfl, Or.inr ⟨rfl, by omega⟩⟩
              unfold W_nlK
              rw [upd2_row, up_ne (by omega), upd2_row, up_ne (by omega), Kr, y10 0 (by omega) (by omega)]
              exact k0
          simp only [hv] at hr
          rw [hkv] at hc
          have nlo : ∀ f, f ≠ 7 → f ≠ 8 → W_nlK K.2.1 (7 + t) (7 + t) f = k3 (7 + t) f := fun f h7 h8 => by
            unfold W_nlK
            rw [upd2_row, up_ne h8, upd2_row, up_ne h7, Kr]
          refine ⟨_, _, v, _, _, Or.inr (Or.inr ⟨hs7, hc⟩), fun G2 S GL2 => ⟨_, hr G2 S GL2⟩, share_fin hT ht hs h4 hS hLS (by omega) (fun a ha hb => ?_) (fun a ha hb => ?_) (fun j j1 j2 j4 j7 j8 j9 jb => ?_) ?_ (fun j jt jb jc => ?_) hkv0 (fun f hf => ?_) ?_ ?_ ?_ ?_ ⟨fun z => ?_, fun z => ?_⟩ ?_ ?_ (fun z => ?_) (fun z => ?_) (fun z => ?_)⟩
          · funext f
            rw [hkvo a f (Or.inl ha)]
            unfold W_nlK
            rw [upd2_ne ha, upd2_ne ha, w3 a hb, (y9 a ha).1]
          · rw [upd2_ne ha, w4 a hb, (y9 a ha).2]
          · rw [up_ne j8, up_ne j7, up_ne j9, w5 j jb, y12 j j2 j4 j8]
          · rw [up_ne (by omega), up_ne (by omega), up_ne (by omega), Mr _ (by omega), y15]
          · rw [w6 j jb jc, y16 j jt]
          · rw [hkvo _ f (Or.inr (by omega)), nlo f (by omega) (by omega), y10 f (by omega) (by omega)]
          · rw [hkvo _ 1 (Or.inr (by omega)), nlo 1 (by omega) (by omega), y10 1 (by omega) (by omega), up_ne (by omega), up_ne (by omega), up_ne (by omega), Mr _ (by omega), y12 _ (by omega) (by omega) (by omega)]
            exact k1
          · rw [hkvo _ 4 (Or.inr (by omega)), nlo 4 (by omega) (by omega), up_ne (by omega), up_ne (by omega), up_ne (by omega), Mr _ (by omega)]
            exact y11
          · rw [hkvo _ 7 (Or.inr (by omega)), n7, up_ne (by omega), up_s]
          · rw [hkvo _ 8 (Or.inr (by omega)), W_nl_8, up_s]
          · rw [upd2_row, up_s]
          · rw [up_s] at z
            exact absurd rfl z
          · rw [hkvo _ 1 (Or.inl (by omega))]
            unfold W_nlK
            rw [upd2_ne (by omega), upd2_ne (by omega), up_ne (by omega), up_ne (by omega), up_ne (by omega)]
            exact w7
          · unfold HuR at w8 ⊢
            rw [up_ne (by omega), up_ne (by omega), up_ne (by omega), upd2_ne (by omega)]; exact w8
          · rw [up_ne (by omega), up_ne (by omega), up_ne (by omega), Mr _ (by omega), y12 _ (by omega) (by omega) (by omega)]
          · intro _
            refine ⟨s', fr', to', g', ln + 1, 0, i1, i2, i3, i4, i5, i6, i7, ?_, ?_, up_s _ _ _, by omega, Or.inl (by omega), Or.inl rfl⟩
            · rw [up_ne (by omega), up_s]
            · rw [up_ne (by omega), up_ne (by omega), up_s, Mr _ (by omega), y12 _ (by omega) (by omega) (by omega), i9, nI_add]
          · unfold mu
            rw [up_s, up_ne (show 12 * t + 7 ≠ 12 * t + 8 by omega), up_s, i8, i10, nI_clamp (by omega), nI_clamp (by omega), nI_clamp (by omega), nI_clamp (by omega)]
            omega
        · -- the line goes on
          have hit1 : it1 = it + 1 := y17 (by
            rcases Nat.lt_or_ge it m' with y | y
            · exact y
            · have := y18 (by omega)
              omega)
          have e3 : F_sh3 r n3 q3 t s' (fr' + ln) it1 l' ln to' = (nI 1, M.2) := by
            rw [F_sh3_g (by rw [hM, w]; decide) (by rw [hM, w]; decide), hM]
          have eW : F_shW (nI fr') (nI to') (7 + t) K = K.2 := by
            unfold F_shW
            rw [if_neg (by rw [w2, w]; decide), if_neg (by rw [w2, w]; decide)]
          rw [eW] at hc
          try dsimp only at hc
          simp only [e3] at hr
          refine ⟨_, _, 1, _, _, Or.inr (Or.inr ⟨hs7, hc⟩), fun G2 S GL2 => ⟨_, hr G2 S GL2⟩, share_fin hT ht hs h4 hS hLS (Or.inl rfl) (fun a ha hb => ?_) (fun a ha hb => ?_) (fun j j1 j2 j4 j7 j8 j9 jb => ?_) ?_ (fun j jt jb jc => ?_) ?_ (fun f hf => ?_) ?_ ?_ ?_ ?_ ⟨fun z => ?_, fun z => ?_⟩ w7 w8 (fun z => ?_) (fun _ _ => ?_) (fun _ => ?_)⟩
          · rw [w3 a hb, (y9 a ha).1]
          · rw [w4 a hb, (y9 a ha).2]
          · rw [w5 j jb, y12 j j2 j4 j8]
          · rw [Mr _ (by omega), y15]
          · rw [w6 j jb jc, y16 j jt]
          · rw [Kr, y10 0 (by omega) (by omega)]; exact k0
          · rw [Kr, y10 f (by omega) (by omega)]
          · rw [Kr, y10 1 (by omega) (by omega), Mr _ (by omega), y12 _ (by omega) (by omega) (by omega)]; exact k1
          · rw [Kr, Mr _ (by omega)]; exact y11
          · rw [Kr, Mr _ (by omega), y10 7 (by omega) (by omega), k7, y12 _ (by omega) (by omega) (by omega), i8]
          · rw [Kr, Mr _ (by omega), y5, y6]
          · rw [Mr _ (by omega), y6] at z
            exact absurd z (nI_z (by omega) (by omega))
          · rw [Klr, y8, Mq]
          · rw [Mr _ (by omega), y12 _ (by omega) (by omega) (by omega)]
          · refine ⟨s', fr', to', g', ln, it1, i1, i2, i3, i4, i5, i6, i7, ?_, ?_, ?_, y7, Or.inl hlt, Or.inr ⟨hlt, hlf⟩⟩
            · rw [Mr _ (by omega), y12 _ (by omega) (by omega) (by omega)]; exact i8
            · rw [Mr _ (by omega), y12 _ (by omega) (by omega) (by omega)]; exact i9
            · rw [Mr _ (by omega)]; exact y6
          · unfold mu
            rw [Mr _ (by omega), Mr _ (by omega), y12 _ (by omega) (by omega) (by omega), y6, i8, i10, nI_clamp (by omega), nI_clamp (by omega), nI_clamp (by omega)]
            omega
    · -- the line has a fault
      have it0 : it = 0 := i13.elim id (fun y => absurd y.2 hlf)
      subst it0
      have hpos := lf_pos (s := s') (i := fr' + ln) g2 hlf
      have hsil : F_sil N G GL sa' ga' la z (fr' + ln) (7 + t) (27 + s') k kl = (F_lf r s' g' (nI (fr' + ln)), (k, kl)) := by
        by_cases hkd : r 1 g' = r 16 s'
        · have e := lf_fo (N := N) (G := G) (GL := GL) (r := r) (rl := rl) (F := F) (la := la) (s := s') g2 hz (show fr' + ln < 2 ^ 31 by omega) hkd hl
          rw [F_sil_f (by rw [gk, f8]; exact hkd) (by rw [e]; exact hlf), e]
        · rw [F_sil_c (by rw [gk, f8]; exact hkd), lf_kd hkd]
      rw [hsil] at hc
      have eW : F_shW (nI fr') (nI to') (7 + t) (F_lf r s' g' (nI (fr' + ln)), (k, kl)) = (upd2 (upd2 k (7 + t) 0 (nI 3)) (7 + t) 1 (F_lf r s' g' (nI (fr' + ln))), kl) := by
        unfold F_shW
        rw [if_pos hpos]
      rw [eW] at hc
      dsimp only at hc
      have hr := fun (G2 : MI) (S : Int64) (GL2 : ML) => n_shared_B (l := l) (D := D) (B := B) (b := b) (r := r) (G := G2) (L := RLg b rl S q GL2) (n := n1) hF (t := t) (s := s') (fr := fr') (to := to') (ln := ln) (g0 := g') (sz := z) ht20 h12 (by omega) h13 h14 ((n1o _ (by omega)).trans i8) ((n1o _ (by omega)).trans i10) hto hlt i7 i2 g2 hz hpl hlf
      refine ⟨_, _, 3, _, _, Or.inr (Or.inr ⟨hs7, hc⟩), fun G2 S GL2 => ⟨_, hr G2 S GL2⟩, share_fin hT ht hs h4 hS hLS (Or.inr (Or.inr rfl)) (fun a ha hb => ?_) (fun a ha hb => rfl) (fun j j1 j2 j4 j7 j8 j9 jb => ?_) ?_ (fun j jt jb jc => rfl) ?_ (fun f hf => ?_) ?_ ?_ ?_ ?_ ⟨fun z => ?_, fun z => ?_⟩ ?_ ?_ (fun z => absurd rfl z) (fun z => absurd z (by decide)) (fun z => absurd z (by decide))⟩
      · rw [upd2_ne ha, upd2_ne ha]
      · rw [up_ne j1, n1o j j2]
      · rw [up_ne (by omega), n12]
      · simp (disch := omega) only [upd2_row, up_ne, up_s]
      · simp (disch := omega) only [upd2_row, up_ne, up_s]
      · simp (disch := omega) only [upd2_row, up_ne, up_s]
      · simp (disch := omega) only [upd2_row, up_ne, up_s]
        rw [n1o _ (by omega)]; exact k4
      · simp (disch := omega) only [upd2_row, up_ne, up_s]
        rw [n1o _ (by omega), k7, i8]
      · simp (disch := omega) only [upd2_row, up_ne, up_s]
        rw [n1o _ (by omega), k8, i10]
      · exact hLt.1 (by rw [i10]; rfl)
      · rw [up_ne (by omega), n1o _ (by omega)] at z
        exact hLt.2 z
      · rw [upd2_ne (by omega), upd2_ne (by omega), up_ne (by omega), n1o _ (by omega)]; exact kb
      · unfold HuR at hHu ⊢
        rw [up_ne (by omega), n1o _ (by omega)]; exact hHu
  · -- no line at all
    subst e1
    subst e2
    have hc := c_Share_no (l := l) (D := D) (B := B) (k := k) (G := G) (L := pt c 35 kl GL) hX.b (o := 7 + t) hs7 (Or.inr (by omega)) (shC_w ht20) (by rw [g5, g6]; exact Int32.le_refl _)
    have hr := fun (G2 : MI) (S : Int64) (GL2 : ML) => n_shared_A (l := l) (D := D) (B := B) (b := b) (r := r) (G := G2) (L := RLg b rl S q GL2) (n := n1) hF (t := t) (s := s') (fr := fr') (to := fr') (ln := 0) ht20 h12 (by omega) h13 h14 ((n1o _ (by omega)).trans i8) (by omega) (by omega)
    refine ⟨_, _, 2, _, _, Or.inr (Or.inr ⟨hs7, hc⟩), fun G2 S GL2 => ⟨_, hr G2 S GL2⟩, share_fin hT ht hs h4 hS hLS (Or.inr (Or.inl rfl)) (fun a ha hb => upd2_ne ha) (fun a ha hb => rfl) (fun j j1 j2 j4 j7 j8 j9 jb => n1o j j2) n12 (fun j jt jb jc => rfl) ?_ (fun f hf => ?_) ?_ ?_ ?_ ?_ ⟨fun z => ?_, fun z => ?_⟩ ?_ ?_ (fun z => n1o _ (by omega)) (fun z => absurd z (by decide)) (fun z => absurd z (by decide))⟩
    · rw [upd2_row, up_s]
    · rw [upd2_row, up_ne (by omega)]
    · rw [upd2_row, up_ne (by omega), n1o _ (by omega)]; exact k1
    · rw [upd2_row, up_ne (by omega), n1o _ (by omega)]; exact k4
    · rw [upd2_row, up_ne (by omega), n1o _ (by omega), k7, i8]
    · rw [upd2_row, up_ne (by omega), n1o _ (by omega), k8, i10]
    · rw [n1o _ (by omega)] at z
      exact hLt.1 z
    · rw [n1o _ (by omega)] at z
      exact hLt.2 z
    · rw [upd2_ne (by omega), n1o _ (by omega)]; exact kb
    · unfold HuR at hHu ⊢
      rw [n1o _ (by omega)]; exact hHu
end SHARE

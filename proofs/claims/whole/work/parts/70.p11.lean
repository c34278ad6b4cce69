/-! ===== a turn on both sides, the whole ===== -/
section TURN2
variable {l : Launch} {D : va_G} {B b : Nat} {N : NT} {G : MI} {GL : ML} {r : MI} {rl : ML} {F P ng nt ns mem nth c h : Nat} {k : MI} {n : Nat → Int32} {kl : ML} {q : Nat → Int64}
theorem joint_turn (hT : Stc N G GL r rl F P ng nt ns mem) (hX : FixC c P N) (hP : P + 5 ≤ c) (hcF : c + 35 ≤ F) (hF : FixR b N) (hth : nth ≤ 6) (hh : h < nth) (hJ : JI r nt ns mem nth k kl n q) :
    ∃ k' kl' n' q', Cq l D B mX0_giveTurn [vr (some (c + 0)), vi (nI h)] (pt c 35 k G) (pt c 35 kl GL) N none (pt c 35 k' G) (pt c 35 kl' GL) ∧ (∀ G2 S GL2, ∃ S2, Cq l D B mX12_turns [vr (some (b + 0)), vi (nI h)] (RI b r n G2) (RLg b rl S q GL2) N none (RI b r n' G2) (RLg b rl S2 q' GL2)) ∧ JI r nt ns mem nth k' kl' n' q' ∧ n' 240 = n 240 + nI 1 ∧ n' 246 = n 246 ∧ Prog r nt h n n' ∧ ∀ f, f = 2 ∨ f = 10 ∨ f = 16 → k' 0 f = k 0 f := by
  have hnt := hT.2.1.2.1
  have hns := hT.2.2.1.2.1
  have hmem := hT.2.2.2.1.2.2
  have hPP : FixP c P N := hT.1.1.p (Or.inl hP)
  have hh6 : h < 6 := by omega
  obtain ⟨hS, hL, hNF, hM, hR, hK, hLS, hZ, hNR, hXI⟩ := hJ
  have hC := hR.2.2.1
  obtain ⟨c1, c2, ⟨K, c3, c4⟩, fr, c5, c6⟩ := hC
  obtain ⟨k0, hk0⟩ : ∃ k0, upd2 k 0 13 (k 0 13 + nI 1) = k0 := ⟨_, rfl⟩
  obtain ⟨n0, hn0⟩ : ∃ n0, up n 240 (n 240 + nI 1) = n0 := ⟨_, rfl⟩
  have S0 : Sim ns k0 n0 := by
    rw [← hk0, ← hn0, hS.t13]
    exact hS.put rfl (Mp_c (by omega) (by omega))
  have n0o : ∀ j, j ≠ 240 → n0 j = n j := fun j hj => by rw [← hn0, up_ne hj]
  have n00 : n0 240 = n 240 + nI 1 := by rw [← hn0, up_s]
  have k0o : ∀ f, f ≠ 13 → k0 0 f = k 0 f := fun f hf => by rw [← hk0, upd2_row, up_ne hf]
  have k0r : ∀ a, a ≠ 0 → k0 a = k a := fun a ha => by rw [← hk0, upd2_ne ha]
  have R0 : RV r nt nth mem n0 := by
    rw [← hn0]
    exact hR.set1 hnt hth (Or.inl rfl)
  have K0 : LK r nt n0 := hK.same (n0o _ (by omega)) (fun u hu => n0o _ (by omega))
  rcases hR.2.1 h hh6 with h9 | ⟨t, ht, -, hp, h1, hq⟩
  · -- the thread has no task
    have hk9 : k 4 h = -9 := (hS.th hh6).trans h9
    by_cases hfit : ∃ w, w < nt ∧ (n (12 * w + 0) = 0 ∧ r 10 w ≤ n 242)
    · obtain ⟨w, w1, ⟨w2, w3⟩, w4⟩ := least (Q := fun w => n (12 * w + 0) = 0 ∧ r 10 w ≤ n 242) nt hfit
      have w20 : w < 20 := by omega
      have hnf : k 0 18 = 0 := hNF.elim id (fun y => absurd ⟨w2, w3⟩ (y w w1))
      have hw2 : 2 ≤ sm (fun t => wN (n (12 * t + 0))) nt := by
        have y := sm_ge (f := fun t => wN (n (12 * t + 0))) w1
        try simp only at y
        rw [w2, wN0] at y
        exact y
      have hw1 : 0 < sm (fun t => wW (n (12 * t + 0))) nt := by
        have y := sm_ge (f := fun t => wW (n (12 * t + 0))) w1
        try simp only at y
        rw [w2, wW0] at y
        exact y
      have hwl := sm_le (f := fun t => wW (n (12 * t + 0))) (b := 1) (k := nt) (fun i _ => by unfold wW; split <;> omega)
      have hfk : ∀ j, j < nt → (FitK k0 G N P j ↔ (n (12 * j + 0) = 0 ∧ r 10 j ≤ n 242)) := fun j hj => by
        unfold FitK
        rw [(hT.srt hj).2.1, S0.tr (by omega) (by omega), S0.t11, n0o _ (by omega), n0o _ (by omega)]
      have hct := c_take_yes (l := l) (D := D) (B := B) (L := pt c 35 kl GL) (k := k0) (G := G) hX hPP hT.2.1.1 hnt (hT.tk hcF) (by rw [k0o _ (by omega)]; exact hnf) w1 ((hfk w w1).mpr ⟨w2, w3⟩) (fun j hj y => w4 j hj ((hfk j (by omega)).mp y)) (th := h) (nc := K) hh6 (by rw [S0.t9, n0o _ (by omega)]; exact c3) (by omega)
      have hrt := fun (G2 : MI) (L : ML) => n_takes_take (l := l) (D := D) (B := B) (b := b) (r := r) (G := G2) (L := L) (n := n0) hF (h := h) (nt := nt) (w := sm (fun t => wW (n (12 * t + 0))) nt) (t := w) (k0 := K) hh6 hT.2.1.2.2 hnt (by rw [n0o _ (by omega)]; exact c2) (by omega) hw1 w1 ⟨by rw [n0o _ (by omega)]; exact w2, by rw [n0o _ (by omega)]; exact w3⟩ (fun u hu y => w4 u hu ⟨by rw [← n0o _ (by omega)]; exact y.1, by rw [← n0o 242 (by omega)]; exact y.2⟩) (by rw [n0o _ (by omega)]; exact c3) (by omega)
      obtain ⟨e4, e5⟩ := (hT.srt w1).2
      obtain ⟨a, t1, t2, -, -, -, t6, t7, t8⟩ := hT.2.2.2.2.2.2 w w1
      have R1 : RV r nt nth mem (F_takes r n0 w h K) := by
        refine RV.takes hnt hth w1 hh hmem R0 (by rw [n0o _ (by omega)]; exact w2) (by rw [n0o _ (by omega)]; exact w3) (by rw [n0o _ (by omega)]; exact h9) (by rw [n0o _ (by omega)]; exact c3) (by omega) t6 t7 (fun y => ?_) (fun y => ?_) (fun y => ?_)
        · rcases t8 with z | z | z
          · exact z.2.2.2.2.2.1
          · exfalso
            rcases z.2.1 with z | z <;> rcases y with y | y <;> exact absurd (z.symm.trans y) (by decide)
          · exfalso
            rcases y with y | y <;> exact absurd (z.2.1.symm.trans y) (by decide)
        · rcases t8 with z | z | z
          · exfalso
            rcases z.2.1 with z | z <;> rcases y with y | y <;> exact absurd (z.symm.trans y) (by decide)
          · obtain ⟨-, -, g, ga, z1, z2, -⟩ := z
            obtain ⟨zz, y1, y2, -⟩ := (hT.2.2.2.2.1 g z1).pl
            have := hT.2.2.2.1.1
            exact ⟨g, zz, by omega, z2, y2, y1⟩
          · exfalso
            rcases y with y | y <;> exact absurd (z.2.1.symm.trans y) (by decide)
        · obtain ⟨s, f', to, g, sz, y1, y2, y3, y4, y5, y6, y7, y8, y9, -⟩ := hT.sh w1 y
          exact ⟨s, f', to, g, y1, y4, y6, y7, y8, y2, y3, y9⟩
      have S1 : Sim ns (W_take k0 (G (tkA N P w) 1) w h K) (F_takes r n0 w h K) := take_sim S0 w20 hh6 (by omega) e4 (by rw [k0o _ (by omega)]; exact hM)
      have row : ∀ j, j < 240 → j ≠ 12 * w + 0 → j ≠ 12 * w + 5 → j ≠ 12 * w + 3 → F_takes r n0 w h K j = n j := fun j hj a b d => by rw [takes_row w20 hh6 (by omega) hj a b d, n0o j (by omega)]
      have K1 : LK r nt (F_takes r n0 w h K) := by
        refine hK.congr (by rw [takes_o w20 hh6 (by omega) (by omega), n0o _ (by omega)]) (fun u hu => ?_) (fun u hu y => ?_)
        · by_cases e : u = w
          · subst e
            unfold skipR
            rw [takes_0 w20 hh6 (by omega), w2]
            constructor
            · rintro (y | y)
              · exact Or.inl y
              · exact absurd y (by decide)
            · rintro (y | y)
              · exact Or.inl y
              · exact absurd y (by decide)
          · unfold skipR
            rw [row _ (by omega) (by omega) (by omega) (by omega)]
        · by_cases e : u = w
          · subst e
            rw [takes_0 w20 hh6 (by omega)] at y
            exact absurd y (by decide)
          · rw [row _ (by omega) (by omega) (by omega) (by omega)] at y
            exact y
      have t17 : W_take k0 (G (tkA N P w) 1) w h K 0 17 = k 0 17 := by
        unfold W_take W_write
        simp (disch := omega) only [upd2_row, upd2_ne, up_ne, up_s]
        exact k0o _ (by omega)
      rw [← hk0] at hct
      rw [← hn0] at hrt
      refine ⟨_, kl, _, q, c_give_take hX hh6 hk9 hct (by rw [hk0, t17]; exact Int32.lt_irrefl), fun G2 S GL2 => ⟨S, ?_⟩, ⟨by rw [hk0]; exact S1, ?_, Or.inl ?_, ?_, R1, K1, ?_, fun u hu h4 => by rw [row _ (by omega) (by omega) (by omega) (by omega)]; exact hZ u hu h4, by rw [hk0]; exact NR.take (hNR.congr (k0r 6 (by omega)) (n0o _ (by omega)) (fun i hi => n0o _ (by omega))) w20 hh6 (by rw [n0o _ (by omega)]; exact c3) (by omega), fun u h1 h2 => by rw [row _ (by omega) (by omega) (by omega) (by omega)]; exact hXI.1 u h1 h2, fun s h1 h2 => by rw [takes_o w20 hh6 (by omega) (by omega), n0o _ (by omega)]; exact hXI.2 s h1 h2⟩, ?_, ?_, Or.inl ?_, fun f hf => ?_⟩
      · refine n_turns_take hF hh6 h9 (hrt G2 (RLg b rl S q GL2)) ?_
        rw [hn0]
        exact looks_id hF hT.2.1.2.2 hnt K1 _ _
      · rw [hk0, t17, takes_o w20 hh6 (by omega) (by omega), n0o _ (by omega)]; exact hL
      · rw [hk0]
        unfold W_take W_write
        simp (disch := omega) only [upd2_row, upd2_ne, up_ne, up_s]
        rw [k0o _ (by omega)]; exact hnf
      · rw [hk0]
        unfold W_take W_write
        simp (disch := omega) only [upd2_row, upd2_ne, up_ne, up_s]
        rw [k0o _ (by omega)]; exact hM
      · exact hLS.congr hns (fun u hu => row _ (by omega) (by omega) (by omega) (by omega)) (fun s hs => by rw [takes_o w20 hh6 (by omega) (by omega), n0o _ (by omega)])
      · rw [takes_o w20 hh6 (by omega) (by omega)]; exact n00
      · rw [takes_o w20 hh6 (by omega) (by omega), n0o _ (by omega)]
      · refine MU_lt w1 (fun u hu hne => tm_row (fun j hj => row _ (by omega) (by omega) (by omega) (by omega))) ?_
        have z := ((hR.1 w w1).2.2.2.1 w2)
        have e7 : F_takes r n0 w h K (12 * w + 7) = 0 := by rw [row _ (by omega) (by omega) (by omega) (by omega)]; exact z 7 (by omega) (by omega) (by omega)
        have eA : tm r n w = 1002 := by unfold tm; rw [if_pos w2]
        have eB : tm r (F_takes r n0 w h K) w ≤ 1001 := by
          unfold tm
          rw [takes_0 w20 hh6 (by omega), if_neg (by decide), if_pos rfl]
          split <;> omega
        omega
      · rw [hk0]
        unfold W_take W_write
        simp (disch := omega) only [upd2_row, upd2_ne, up_ne, up_s]
        exact k0o _ (by omega)
    · have hno : ∀ u, u < nt → ¬ (n (12 * u + 0) = 0 ∧ r 10 u ≤ n 242) := fun u hu y => hfit ⟨u, hu, y⟩
      have hfk : ∀ j, j < nt → ¬ FitK k0 G N P j := fun j hj y => by
        unfold FitK at y
        rw [(hT.srt hj).2.1, S0.tr (by omega) (by omega), S0.t11, n0o _ (by omega), n0o _ (by omega)] at y
        exact hno j hj y
      have hwl := sm_le (f := fun t => wW (n (12 * t + 0))) (b := 1) (k := nt) (fun i _ => by unfold wW; split <;> omega)
      have hct := c_take_no (l := l) (D := D) (B := B) (L := pt c 35 kl GL) (k := k0) (G := G) hX hPP (th := h) hT.2.1.1 hnt (hT.tk hcF) (Or.inr hfk)
      have hrt := fun (G2 : MI) (L : ML) => n_takes_pass (l := l) (D := D) (B := B) (b := b) (r := r) (G := G2) (L := L) (n := n0) hF (h := h) (nt := nt) (w := sm (fun t => wW (n (12 * t + 0))) nt) hh6 hT.2.1.2.2 hnt (by rw [n0o _ (by omega)]; exact c2) (by omega) (Or.inr (fun u hu y => hno u hu ⟨by rw [← n0o _ (by omega)]; exact y.1, by rw [← n0o 242 (by omega)]; exact y.2⟩))
      have S1 : Sim ns (upd2 (upd2 k0 0 18 (nI 1)) 0 14 (k0 0 14 + nI 1)) (up n0 241 (n0 241 + nI 1)) := by
        rw [S0.t14]
        exact (S0.put18).put rfl (Mp_c (by omega) (by omega))
      have n1o : ∀ j, j ≠ 241 → j ≠ 240 → up n0 241 (n0 241 + nI 1) j = n j := fun j a b => by rw [up_ne a, n0o j b]
      have K1 : LK r nt (up n0 241 (n0 241 + nI 1)) := hK.same (n1o _ (by omega) (by omega)) (fun u hu => n1o _ (by omega) (by omega))
      rw [← hk0] at hct
      rw [← hn0] at hrt
      refine ⟨_, kl, _, q, c_give_take hX hh6 hk9 hct ?_, fun G2 S GL2 => ⟨S, ?_⟩, ⟨by rw [hk0]; exact S1, ?_, Or.inr ?_, ?_, R0.set1 hnt hth (Or.inr (Or.inl rfl)), K1, ?_, fun u hu h4 => by rw [n1o _ (by omega) (by omega)]; exact hZ u hu h4, hNR.congr (by rw [hk0]; simp (disch := omega) only [upd2_ne]; exact k0r 6 (by omega)) (n1o _ (by omega) (by omega)) (fun i hi => n1o _ (by omega) (by omega)), fun u h1 h2 => by rw [n1o _ (by omega) (by omega)]; exact hXI.1 u h1 h2, fun s h1 h2 => by rw [n1o _ (by omega) (by omega)]; exact hXI.2 s h1 h2⟩, ?_, ?_, Or.inr ⟨h9, fun j hj => n1o _ (by omega) (by omega), fun g hg => n1o _ (by omega) (by omega), n1o _ (by omega) (by omega), hno⟩, fun f hf => ?_⟩
      · rw [hk0]
        simp (disch := omega) only [upd2_row, upd2_ne, up_ne, up_s]
        rw [k0o _ (by omega)]; exact Int32.lt_irrefl
      · refine n_turns_take hF hh6 h9 (hrt G2 (RLg b rl S q GL2)) ?_
        rw [hn0]
        exact looks_id hF hT.2.1.2.2 hnt K1 _ _
      · rw [hk0, n1o _ (by omega) (by omega)]
        simp (disch := omega) only [upd2_row, upd2_ne, up_ne, up_s]
        rw [k0o _ (by omega)]; exact hL
      · intro j hj y
        rw [n1o _ (by omega) (by omega), n1o _ (by omega) (by omega)] at y
        exact hno j hj y
      · rw [hk0]
        simp (disch := omega) only [upd2_row, upd2_ne, up_ne, up_s]
        rw [k0o _ (by omega)]; exact hM
      · exact hLS.congr hns (fun u hu => n1o _ (by omega) (by omega)) (fun s hs => n1o _ (by omega) (by omega))
      · rw [up_ne (by omega)]; exact n00
      · exact n1o _ (by omega) (by omega)
      · rw [hk0]
        simp (disch := omega) only [upd2_row, upd2_ne, up_ne, up_s]
        exact k0o _ (by omega)
  · -- the thread goes on with its task
    have ht20 : t < 20 := by omega
    have hkt : k 4 h = nI t := (hS.th hh6).trans hp
    obtain ⟨a, t1, t2, -, t4, t5, t6, t7, t8⟩ := hT.2.2.2.2.2.2 t ht
    obtain ⟨a', t1', tTs, tTo⟩ := hT.tk (c := c) hcF t ht
    have ea : a' = a := Option.some.inj (t1'.symm.trans t1)
    subst ea
    have hTV := hR.1 t ht
    obtain ⟨hst, hf10, hf11, -, hgo, hfa0, -⟩ := hTV
    obtain ⟨-, hPp, hPr, hPs, bd, b1, b2, b3⟩ := hgo h1
    have h00 : n (12 * t + 1) = 0 := hfa0 (by rw [h1]; decide)
    obtain ⟨bd', d1, d2, d3⟩ := t7
    have ebd : bd' = bd := nI_eq_of (d3.symm.trans b2) (by omega) (by omega)
    subst ebd
    have hwn : 1 ≤ sm (fun t => wN (n (12 * t + 0))) nt := by
      have y := sm_ge (f := fun t => wN (n (12 * t + 0))) ht
      try simp only at y
      rw [h1, wN1] at y
      exact y
    -- its turn is counted
    obtain ⟨k1, hk1⟩ : ∃ k1, upd2 k0 (7 + t) 3 (k0 (7 + t) 3 + nI 1) = k1 := ⟨_, rfl⟩
    obtain ⟨n1, hn1⟩ : ∃ n1, up (up n 240 (n 240 + nI 1)) (12 * t + 3) (n (12 * t + 3) + nI 1) = n1 := ⟨_, rfl⟩
    have S1 : Sim ns k1 n1 := by
      rw [← hk1, ← hn1, hn0, S0.tr ht20 (by omega), n0o _ (by omega)]
      exact S0.put (lo_t ht20 (by omega)) (Mp_t ht20 (by omega) (by omega))
    have n1o : ∀ j, j ≠ 240 → j ≠ 12 * t + 3 → n1 j = n j := fun j a b => by rw [← hn1, up_ne b, up_ne a]
    have n10 : n1 240 = n 240 + nI 1 := by rw [← hn1, up_ne (by omega), up_s]
    have k1h : ∀ f, f ≠ 13 → k1 0 f = k 0 f := fun f hf => by rw [← hk1, upd2_ne (by omega)]; exact k0o f hf
    have R1 : RV r nt nth mem n1 := by
      rw [← hn1]
      exact (hR.set1 hnt hth (Or.inl rfl)).set1 hnt hth (Or.inr (Or.inr (Or.inr (Or.inr (Or.inr ⟨t, ht20, rfl⟩)))))
    have h1' : n1 (12 * t + 0) = nI 1 := by rw [n1o _ (by omega) (by omega)]; exact h1
    have LS1 : LSa r nt ns n1 kl q := hLS.congr hns (fun u hu => n1o _ (by omega) (by omega)) (fun s hs => n1o _ (by omega) (by omega))
    have MU1 : MU r nt n1 = MU r nt n := sm_congr (fun u hu => tm_row (fun j hj => n1o _ (by omega) (by omega)))
    have hK1 : n1 244 = nI K := by rw [n1o _ (by omega) (by omega)]; exact c3
    have hk9 : k0 0 9 = nI K := by rw [S0.t9, n0o _ (by omega)]; exact c3
    have hmu : r 6 t = nI 4 → mu n t ≤ 292 := fun y => by
      obtain ⟨s, f', to, g, ln, it, y1, y2, y3, y4, y5, y6, y7, y8, y9, y10, y11, y12, y13⟩ := hPs y
      unfold mu
      rw [y8, y10, nI_clamp (by omega), nI_clamp (by omega)]
      omega
    have htm1 : 0 < tm r n1 t := by
      rw [tm_row (fun j hj => n1o _ (by omega) (by omega))]
      rw [tm_1 h1]
      split
      · have := hmu (by assumption)
        omega
      · obtain ⟨st, y1, y2⟩ := b3 (by assumption)
        rw [y1, nI_clamp (by omega)]
        omega
    -- the end by a flag
    have stop : ∀ s, (s = 5 ∨ s = 6) → Cq l D B mX0_goOnWith [vr (some (c + 0)), vi (nI t), vi (nI h)] (pt c 35 k0 G) (pt c 35 kl GL) N none (pt c 35 (W_leave (upd2 k1 (7 + t) 0 (nI s)) (G a' 1) t h K) G) (pt c 35 kl GL) → ((n (12 * t + 10) = nI 1 ∧ s = 5) ∨ (¬ n (12 * t + 10) = nI 1 ∧ n (12 * t + 11) = nI 1 ∧ s = 6)) → ∃ k' kl' n' q', Cq l D B mX0_giveTurn [vr (some (c + 0)), vi (nI h)] (pt c 35 k G) (pt c 35 kl GL) N none (pt c 35 k' G) (pt c 35 kl' GL) ∧ (∀ G2 S GL2, ∃ S2, Cq l D B mX12_turns [vr (some (b + 0)), vi (nI h)] (RI b r n G2) (RLg b rl S q GL2) N none (RI b r n' G2) (RLg b rl S2 q' GL2)) ∧ JI r nt ns mem nth k' kl' n' q' ∧ n' 240 = n 240 + nI 1 ∧ n' 246 = n 246 ∧ Prog r nt h n n' ∧ ∀ f, f = 2 ∨ f = 10 ∨ f = 16 → k' 0 f = k 0 f := by
      intro s hs hM1 hfl
      have S2 : Sim ns (upd2 k1 (7 + t) 0 (nI s)) (up n1 (12 * t + 0) (nI s)) := S1.put (lo_t ht20 (by omega)) (Mp_t ht20 (by omega) (by omega))
      obtain ⟨k3, n3, x1, x2, x3, x4, x5, x6, x7, x8⟩ := end_sim (l := l) (D := D) (B := B) (k0 := upd2 k1 (7 + t) 0 (nI s)) (n0 := n1) (kl0 := kl) (q0 := q) hT hX hP hcF hF hth hh ht t1 (by omega) (by omega) S2 (by rw [upd2_ne (by omega), k1h _ (by omega), n1o _ (by omega) (by omega)]; exact hL) (by rw [upd2_ne (by omega), k1h _ (by omega)]; exact hM) (fun u hu _ => R1.1 u hu) R1.2.1 R1.2.2.1 R1.2.2.2 h1' (by rw [n1o _ (by omega) (by omega)]; exact hp) (by rw [n1o _ (by omega) (by omega)]; exact hq) (by rw [n1o _ (by omega) (by omega)]; exact hf10) (by rw [n1o _ (by omega) (by omega)]; exact hf11) (fun _ => by rw [n1o _ (by omega) (by omega)]; exact h00) (fun y => absurd y (by omega)) hK1 (by omega) LS1 (fun u hu h4 => by rw [n1o _ (by omega) (by omega)]; exact hZ u hu h4) (hNR.congr (by rw [upd2_ne (by omega), ← hk1, upd2_ne (by omega)]; exact k0r 6 (by omega)) (n1o _ (by omega) (by omega)) (fun i hi => n1o _ (by omega) (by omega))) ⟨fun u h1 h2 => by rw [n1o _ (by omega) (by omega)]; exact hXI.1 u h1 h2, fun s h1 h2 => by rw [n1o _ (by omega) (by omega)]; exact hXI.2 s h1 h2⟩
      have hv : (n (12 * t + 10) = nI 1 ∧ nI s = nI 5) ∨ (¬ n (12 * t + 10) = nI 1 ∧ n (12 * t + 11) = nI 1 ∧ nI s = nI 6) := by
        rcases hfl with ⟨y1, y2⟩ | ⟨y1, y2, y3⟩
        · exact Or.inl ⟨y1, by rw [y2]⟩
        · exact Or.inr ⟨y1, y2, by rw [y3]⟩
      rw [← hk0] at hM1
      refine ⟨k3, kl, n3, q, c_give_look hX hh6 ht20 hkt hM1 ?_ (x1 _), fun G2 S GL2 => ⟨S, ?_⟩, x3, x4.trans n10, x5.trans (n1o _ (by omega) (by omega)), Or.inl (by omega), fun f hf => ?_⟩
      · have y := x7
        rw [upd2_ne (show 0 ≠ 7 + t by omega), k1h 17 (by omega)] at y
        exact y
      · refine n_turns_stop hF hh6 ht20 hp hv c3 (by omega) ?_
        rw [hn1]
        exact x2 G2 _
      · rw [x8 f hf, upd2_ne (by omega), k1h f (by omega)]
    by_cases hs10 : n (12 * t + 10) = nI 1
    · refine stop 5 (Or.inl rfl) ?_ (Or.inl ⟨hs10, rfl⟩)
      rw [← hk1]
      exact c_goW_stop hX hPP ht20 hh6 t1 tTs tTo hk9 (by omega) (by rw [S0.ts ht20, n0o _ (by omega), hs10]; decide)
    · have hz10 : n (12 * t + 10) = 0 := hf10.elim id (fun y => absurd y hs10)
      by_cases hs11 : n (12 * t + 11) = nI 1
      · refine stop 6 (Or.inr rfl) ?_ (Or.inr ⟨hs10, hs11, rfl⟩)
        rw [← hk1]
        exact c_goW_intr hX hPP ht20 hh6 t1 tTs tTo hk9 (by omega) (by rw [S0.ts ht20, n0o _ (by omega)]; exact hz10) (by rw [S0.ti ht20, n0o _ (by omega), hs11]; decide)
      · have hz11 : n (12 * t + 11) = 0 := hf11.elim id (fun y => absurd y hs11)
        -- a step
        have PPp : PIp r n1 t := fun y => by
          rw [n1o _ (by omega) (by omega), n1o _ (by omega) (by omega)]
          exact hPp y
        have PPr : PIr r n1 t := fun y => by
          rw [n1o _ (by omega) (by omega), n1o _ (by omega) (by omega)]
          exact hPr y
        have PPs : PIs r n1 t := fun y => by
          rw [n1o _ (by omega) (by omega), n1o _ (by omega) (by omega), n1o _ (by omega) (by omega)]
          exact hPs y
        obtain ⟨k2, kl2, v, n2, q2, us, x1, x2, x3, x4, x5⟩ := step_any (l := l) (D := D) (B := B) (k := k1) (n := n1) (kl := kl) (q := q) hT hX hcF hF ht t1 S1 h1' (by rw [n1o _ (by omega) (by omega)]; exact h00) PPp PPr PPs LS1
        obtain ⟨y1, y2, y3, y4, y5, y6, y7, y8, y9, y10, y11, y12⟩ := x3
        have hXI2 : XI nt ns n2 q2 := ⟨fun u h1 h2 => by rw [y4 _ (by omega) (by omega), n1o _ (by omega) (by omega)]; exact hXI.1 u h1 h2, fun s h1 h2 => by rw [(y12 s h1 h2).1, (y12 s h1 h2).2, n1o _ (by omega) (by omega)]; exact hXI.2 s h1 h2⟩
        have hZ2 : LZ r nt n2 := fun u hu h4 => by
          by_cases e : u = t
          · subst e
            rw [y11 h4, n1o _ (by omega) (by omega)]
            exact hZ u hu h4
          · rw [y4 _ (by omega) (by omega), n1o _ (by omega) (by omega)]
            exact hZ u hu h4
        obtain ⟨kk, hkk⟩ : ∃ kk, upd2 k2 (7 + t) 2 (k2 (7 + t) 2 + nI 1) = kk := ⟨_, rfl⟩
        rw [hkk] at y2 x4
        have kkh : ∀ f, kk 0 f = k1 0 f := fun f => by rw [← hkk, upd2_ne (by omega), y3 0 (by omega) (by omega)]
        have n2o : ∀ j, j < 302 → (j < 12 * t ∨ 12 * t + 12 ≤ j ∨ j = 12 * t + 0 ∨ j = 12 * t + 5 ∨ j = 12 * t + 10 ∨ j = 12 * t + 11) → j ≠ 240 → n2 j = n j := fun j hj hj2 h240 => by rw [y4 j hj (by omega), n1o j h240 (by omega)]
        have hNR2 : NR kk n2 := hNR.congr (by rw [← hkk, upd2_ne (by omega), y3 6 (by omega) (by omega), ← hk1, upd2_ne (by omega)]; exact k0r 6 (by omega)) (n2o _ (by omega) (by omega) (by omega)) (fun i hi => n2o _ (by omega) (by omega) (by omega))
        have hk29 : k2 0 9 = nI K := by rw [y3 0 (by omega) (by omega), k1h _ (by omega), hS.t9]; exact c3
        have hgw := c_goW_step (l := l) (D := D) (B := B) (k := k0) (G := G) (kl := kl) (GL := GL) hX hPP ht20 hh6 t1 tTs tTo (by rw [S0.ts ht20, n0o _ (by omega)]; exact hz10) (by rw [S0.ti ht20, n0o _ (by omega)]; exact hz11) (by rw [hk1]; exact x1) hk29 (by omega)
        rw [hkk] at hgw
        have kk0 : kk (7 + t) 0 = nI v := (y2.tr ht20 (by omega)).trans (up_s _ _ _)
        have hTVo : ∀ u, u < nt → u ≠ t → TV r nth n2 u := fun u hu hne => (hR.1 u hu).congr (fun j hj _ => n2o _ (by omega) (by omega) (by omega)) (fun g hg y => by rw [n2o _ (by omega) (by omega) (by omega)]; exact y)
        have hHV : HV nt nth n2 := hR.2.1.congr (fun u hu => ⟨n2o _ (by omega) (by omega) (by omega), n2o _ (by omega) (by omega) (by omega)⟩) (fun g hg => n2o _ (by omega) (by omega) (by omega))
        have hCV : CV r nt mem n2 := hR.2.2.1.congr (fun u hu => n2o _ (by omega) (by omega) (by omega)) (n2o _ (by omega) (by omega) (by omega)) (n2o _ (by omega) (by omega) (by omega)) (n2o _ (by omega) (by omega) (by omega)) (n2o _ (by omega) (by omega) (by omega))
        have hKV : KV r nt n2 := hR.2.2.2.congr (fun u hu => n2o _ (by omega) (by omega) (by omega)) (n2o _ (by omega) (by omega) (by omega))
        have h12 : n2 (12 * t + 0) = nI 1 := by rw [n2o _ (by omega) (by omega) (by omega)]; exact h1
        have n2240 : n2 240 = n 240 + nI 1 := by rw [y4 _ (by omega) (by omega)]; exact n10
        have tmo : ∀ u, u < nt → u ≠ t → tm r n2 u = tm r n u := fun u hu hne => tm_row (fun j hj => n2o _ (by omega) (by omega) (by omega))
        by_cases hgoes : v = 1 ∧ us < r 11 t
        · -- it goes on
          obtain ⟨hv, hus⟩ := hgoes
          subst hv
          have hgk : F_gw N G a' t h K kk = kk := by
            unfold F_gw
            rw [if_pos kk0, x4 rfl, t5, if_pos hus]
          rw [hgk] at hgw
          have est : ∀ us', us' = us → F_stV (nI 1) us' (r 11 t) = nI 1 := fun us' e => by
            unfold F_stV
            rw [e, if_neg (fun y => absurd hus (Int32.not_lt.mpr y.2))]
          have Sk : Sim ns kk n2 := by
            refine y2.to ?_
            rw [← h12, up_self]
          have hk17 : kk 0 17 = k 0 17 := by rw [kkh, k1h _ (by omega)]
          have K2 : LK r nt n2 := hK.same (n2o _ (by omega) (by omega) (by omega)) (fun u hu => n2o _ (by omega) (by omega) (by omega))
          rw [← hk0] at hgw
          refine ⟨kk, kl2, n2, q2, c_give_go hX hh6 ht20 hkt hgw (by rw [hk17]; exact Int32.lt_irrefl), fun G2 S GL2 => ?_, ⟨Sk, ?_, ?_, ?_, ⟨fun u hu => ?_, hHV, hCV, hKV⟩, K2, y6, hZ2, hNR2, hXI2⟩, n2240, n2o _ (by omega) (by omega) (by omega), Or.inl ?_, fun f hf => ?_⟩
          · obtain ⟨S2, z⟩ := x2 G2 S GL2
            rw [est us rfl, ← hn1] at z
            exact ⟨S2, n_turns_on hF hh6 ht20 hp hs10 hs11 z (looks_id hF hT.2.1.2.2 hnt K2 _ _)⟩
          · rw [hk17, n2o _ (by omega) (by omega) (by omega)]; exact hL
          · rw [kkh, k1h _ (by omega)]
            rcases hNF with y | y
            · exact Or.inl y
            · refine Or.inr (fun j hj => ?_)
              rw [n2o _ (by omega) (by omega) (by omega), n2o _ (by omega) (by omega) (by omega)]
              exact y j hj
          · rw [kkh, k1h _ (by omega)]; exact hM
          · by_cases e : u = t
            · subst e
              refine ⟨⟨1, by omega, h12⟩, by rw [n2o _ (by omega) (by omega) (by omega)]; exact hf10, by rw [n2o _ (by omega) (by omega) (by omega)]; exact hf11, fun y => absurd (h12.symm.trans y) (by decide), fun _ => ⟨⟨h, hh, by rw [n2o _ (by omega) (by omega) (by omega)]; exact hq, by rw [n2o _ (by omega) (by omega) (by omega)]; exact hp⟩, (y7 rfl).1, (y7 rfl).2.1, (y7 rfl).2.2, bd', b1, b2, fun y => ?_⟩, fun _ => ?_, fun y => absurd (h12.symm.trans y) (by decide)⟩
              · obtain ⟨st, z1, z2⟩ := b3 y
                have e2 : n2 (12 * u + 2) = nI (st + 1) := by rw [y5, n1o _ (by omega) (by omega), z1, nI_add]
                refine ⟨st + 1, e2, ?_⟩
                rw [x5 y, e2, b2] at hus
                exact (nI_ltI (by omega) (by omega)).mp hus
              · rw [y9 (by omega), n1o _ (by omega) (by omega)]; exact h00
            · exact hTVo u hu e
          · refine MU_lt ht tmo ?_
            rw [tm_1 h12, tm_1 h1]
            by_cases h4 : r 6 t = nI 4
            · rw [if_pos h4, if_pos h4]
              have z := y10 rfl h4
              have e : mu n1 t = mu n t := by
                unfold mu
                rw [n1o _ (by omega) (by omega), n1o _ (by omega) (by omega)]
              have := hmu h4
              omega
            · rw [if_neg h4, if_neg h4]
              obtain ⟨st, z1, z2⟩ := b3 h4
              rw [y5, n1o _ (by omega) (by omega), z1, nI_add, nI_clamp (by omega), nI_clamp (by omega)]
              omega
          · rw [kkh, k1h f (by omega)]
        · -- it ends
          obtain ⟨s, s2, s6, hsv, hst, hs3⟩ : ∃ s, 2 ≤ s ∧ s ≤ 6 ∧ F_gw N G a' t h K kk = W_leave (upd2 kk (7 + t) 0 (nI s)) (G a' 1) t h K ∧ F_stV (nI v) us (r 11 t) = nI s ∧ (s = 3 ↔ v = 3) := by
            by_cases hv : v = 1
            · subst hv
              have hge : r 11 t ≤ us := Int32.not_lt.mp (fun y => hgoes ⟨rfl, y⟩)
              refine ⟨4, by omega, by omega, ?_, ?_, by omega⟩
              · unfold F_gw
                rw [if_pos kk0, x4 rfl, t5, if_neg (Int32.not_lt.mpr hge)]
              · unfold F_stV
                rw [if_pos ⟨rfl, hge⟩]
            · refine ⟨v, by omega, by omega, ?_, ?_, Iff.rfl⟩
              · unfold F_gw
                rw [if_neg (by rw [kk0]; exact nI_s (by omega) (by omega) hv), ← kk0, upd2_same]
              · unfold F_stV
                rw [if_neg (fun y => nI_s (by omega) (by omega) hv y.1)]
          have S2 : Sim ns (upd2 kk (7 + t) 0 (nI s)) (up n2 (12 * t + 0) (nI s)) := by
            have z := y2.put (j := 12 * t + 0) (v := nI s) (lo_t ht20 (by omega)) (Mp_t ht20 (by omega) (by omega))
            rw [up_up] at z
            exact z
          have hke : n2 244 = nI K := by rw [n2o _ (by omega) (by omega) (by omega)]; exact c3
          obtain ⟨k3, n3, w1, w2, w3, w4, w5, w6, w7, w8⟩ := end_sim (l := l) (D := D) (B := B) (k0 := upd2 kk (7 + t) 0 (nI s)) (n0 := n2) (kl0 := kl2) (q0 := q2) hT hX hP hcF hF hth hh ht t1 s2 s6 S2 (by rw [upd2_ne (by omega), kkh, k1h _ (by omega), n2o _ (by omega) (by omega) (by omega)]; exact hL) (by rw [upd2_ne (by omega), kkh, k1h _ (by omega)]; exact hM) hTVo hHV hCV hKV h12 (by rw [n2o _ (by omega) (by omega) (by omega)]; exact hp) (by rw [n2o _ (by omega) (by omega) (by omega)]; exact hq) (by rw [n2o _ (by omega) (by omega) (by omega)]; exact hf10) (by rw [n2o _ (by omega) (by omega) (by omega)]; exact hf11) (fun y => by rw [y9 (fun z => y (hs3.mpr z)), n1o _ (by omega) (by omega)]; exact h00) (fun y z => y8 (hs3.mp y) z) hke (by omega) y6 hZ2 (hNR2.congr (upd2_ne (by omega)) rfl (fun i hi => rfl)) hXI2
          rw [hsv, ← hk0] at hgw
          refine ⟨k3, kl2, n3, q2, c_give_look hX hh6 ht20 hkt hgw ?_ (w1 _), fun G2 S GL2 => ?_, w3, w4.trans n2240, w5.trans (n2o _ (by omega) (by omega) (by omega)), Or.inl ?_, fun f hf => ?_⟩
          · have y := w7
            rw [upd2_ne (show 0 ≠ 7 + t by omega), kkh 17, k1h 17 (by omega)] at y
            exact y
          · obtain ⟨S2', z⟩ := x2 G2 S GL2
            rw [hst, ← hn1] at z
            exact ⟨S2', n_turns_end hF hh6 ht20 hp hs10 hs11 (nI_s (by omega) (by omega) (by omega)) hke (by omega) z (w2 G2 _)⟩
          · have a2 := sm_upd (k := nt) (f := tm r n) (g := tm r n2) ht (fun u hu hne => (tmo u hu hne).symm)
            have a3 : 0 < tm r n t := by
              rw [← tm_row (n' := n1) (fun j hj => n1o _ (by omega) (by omega))]
              exact htm1
            unfold MU at w6 ⊢
            omega
          · rw [w8 f hf, upd2_ne (by omega), kkh, k1h f (by omega)]
end TURN2

/-! ===== a run closed, broken off, on both sides ===== -/
def Cz (r : MI) (nt ns mem nth L0 : Nat) (k0 : MI) (n0 : Nat → Int32) (k : MI) (n : Nat → Int32) (m : Nat) : Prop :=
  Sim ns k n ∧ k 0 1 = r 0 2 ∧ RV r nt nth mem n ∧ NR k n ∧ m + sm (fun t => wL (n (12 * t + 0))) nt = L0 ∧ (∀ u, u < 20 → ∀ f, f < 12 → f ≠ 0 → n (12 * u + f) = n0 (12 * u + f)) ∧ (∀ i, 302 ≤ i → n i = n0 i) ∧ (∀ u, u < 20 → n (12 * u + 0) = n0 (12 * u + 0) ∨ (n (12 * u + 0) = nI 5 ∧ u < nt)) ∧ ∀ f, f = 2 ∨ f = 10 → k 0 f = k0 0 f
section CLOSE
variable {l : Launch} {D : va_G} {B b : Nat} {N : NT} {G : MI} {GL : ML} {r : MI} {rl : ML} {F P ng nt ns mem nth c L0 m : Nat} {k k0 : MI} {n n0 : Nat → Int32} {kl : ML} {q : Nat → Int64}
theorem Cz.leave {h t a : Nat} (hT : Stc N G GL r rl F P ng nt ns mem) (hth : nth ≤ 6) (hh : h < nth) (hC : Cz r nt ns mem nth L0 k0 n0 k n m) (ht : t < nt) (hp : n (250 + h) = nI t) (h1 : n (12 * t + 0) = nI 1) (hq : n (12 * t + 5) = nI h) (ha : N.1 (P + 2) t = some a) :
    ∃ K, n 244 = nI K ∧ K < 40 ∧ Cz r nt ns mem nth L0 k0 n0 (W_leave (upd2 k (7 + t) 0 (nI 5)) (G a 1) t h K) (F_ends r n t (nI 5) h K) (m + 1) := by
  have hnt := hT.2.1.2.1
  have hmem := hT.2.2.2.1.2.2
  have ht20 : t < 20 := by omega
  have hh6 : h < 6 := by omega
  obtain ⟨hS, hm, hR, hN, hL, hr, hb, hs, hf⟩ := hC
  obtain ⟨a', e1, -, -, e4, -, e6, -, -⟩ := hT.2.2.2.2.2.2 t ht
  have ea : a' = a := Option.some.inj (e1.symm.trans ha)
  subst ea
  obtain ⟨K, c3, c4⟩ := hR.2.2.1.2.2.1
  have hK2 : K < 40 := by
    have := sm_ge (f := fun u => wN (n (12 * u + 0))) ht
    try simp only at this
    rw [h1, wN1] at this
    omega
  obtain ⟨-, v2, v3, -, -, v6, -⟩ := hR.1 t ht
  have R1 := RV.ends (s := 5) hnt hth ht hh (by omega) (by omega) e6 hmem (fun u hu _ => hR.1 u hu) hR.2.1 hR.2.2.1 hR.2.2.2 h1 hp hq v2 v3 (fun _ => v6 (by rw [h1]; decide)) (fun y => absurd y (by omega)) c3 hK2
  have S1 : Sim ns (upd2 k (7 + t) 0 (nI 5)) (up n (12 * t + 0) (nI 5)) := hS.put (lo_t ht20 (by omega)) (Mp_t ht20 (by omega) (by omega))
  have k0' : ∀ f, upd2 k (7 + t) 0 (nI 5) 0 f = k 0 f := fun f => by rw [upd2_ne (by omega)]
  refine ⟨K, c3, hK2, leave_sim S1 ht20 hh6 hK2 e4, ?_, R1, ?_, ?_, fun u hu f hf1 hf2 => ?_, fun i hi => ?_, fun u hu => ?_, fun f hf1 => ?_⟩
  · rw [← hm]
    unfold W_leave W_write
    simp (disch := omega) only [upd2_row, upd2_ne, up_ne, up_s]
  · exact NR.leave (hN.congr (upd2_ne (by omega)) rfl (fun _ _ => rfl)) (by rw [upd2_row, up_s]) ht20 hh6 c3 hK2
  · have h3 := sm_upd (k := nt) (f := fun u => wL (n (12 * u + 0))) (g := fun u => wL (F_ends r n t (nI 5) h K (12 * u + 0))) ht (fun u hu hne => by rw [ends_row ht20 hh6 hK2 (by omega) (by omega)])
    try simp only at h3
    rw [h1, wL1, ends_0 ht20 hh6 hK2, (w_e (s := 5) (by omega) (by omega)).1] at h3
    omega
  · rw [ends_row ht20 hh6 hK2 (by omega) (by omega)]; exact hr u hu f hf1 hf2
  · rw [ends_o ht20 hh6 hK2 (by omega)]; exact hb i hi
  · by_cases e : u = t
    · subst e; exact Or.inr ⟨ends_0 ht20 hh6 hK2, ht⟩
    · rw [ends_row ht20 hh6 hK2 (by omega) (by omega)]; exact hs u hu
  · rw [← hf f hf1]
    unfold W_leave W_write
    simp (disch := omega) only [upd2_row, upd2_ne, up_ne, up_s]
theorem Cz.falls {t : Nat} (hT : Stc N G GL r rl F P ng nt ns mem) (hth : nth ≤ 6) (hC : Cz r nt ns mem nth L0 k0 n0 k n m) (ht : t < nt) (h0 : n (12 * t + 0) = 0) : Cz r nt ns mem nth L0 k0 n0 (W_ew k t (nI 5)) (F_falls n t (nI 5)) (m + 1) := by
  have hnt := hT.2.1.2.1
  have ht20 : t < 20 := by omega
  obtain ⟨hS, hm, hR, hN, hL, hr, hb, hs, hf⟩ := hC
  have kf : ∀ f, f ≠ 17 → W_ew k t (nI 5) 0 f = k 0 f := fun f hf => by
    unfold W_ew
    simp (disch := omega) only [upd2_row, upd2_ne, up_ne]
  refine ⟨falls_sim hS ht20, (kf 1 (by omega)).trans hm, RV.falls hnt hth ht (by omega) (by omega) hR h0, ?_, ?_, fun u hu f hf1 hf2 => ?_, fun i hi => ?_, fun u hu => ?_, fun f hf1 => (kf f (by omega)).trans (hf f hf1)⟩
  · exact hN.congr (by unfold W_ew; simp (disch := omega) only [upd2_ne]) (falls_row (by omega) (by omega)) (fun i hi => falls_row (by omega) (by omega))
  · have h3 := sm_upd (k := nt) (f := fun u => wL (n (12 * u + 0))) (g := fun u => wL (F_falls n t (nI 5) (12 * u + 0))) ht (fun u hu hne => by rw [falls_row (by omega) (by omega)])
    try simp only at h3
    rw [h0, wL0, falls_0 ht20, (w_e (s := 5) (by omega) (by omega)).1] at h3
    omega
  · rw [falls_row (by omega) (by omega)]; exact hr u hu f hf1 hf2
  · rw [falls_row (by omega) (by omega)]; exact hb i hi
  · by_cases e : u = t
    · subst e; exact Or.inr ⟨falls_0 ht20, ht⟩
    · rw [falls_row (by omega) (by omega)]; exact hs u hu
theorem sw_trace {K : Nat → MI} : ∀ (f i : Nat), i + f = nt → (∀ j, j < nt → K (j + 1) = if K j (7 + j) 0 = 0 then W_ew (K j) j (nI 5) else K j) → F_sw f i (K i) = K nt
  | 0, i, h, _ => by
    have e : i = nt := by omega
    subst e; rfl
  | f + 1, i, h, hs => by
    show F_sw f (i + 1) (if K i (7 + i) 0 = 0 then W_ew (K i) i (nI 5) else K i) = K nt
    rw [← hs i (by omega)]
    exact sw_trace f (i + 1) (by omega) hs
/-- close, on both sides -/
theorem close_sim (hT : Stc N G GL r rl F P ng nt ns mem) (hX : FixC c P N) (hP : P + 5 ≤ c) (hcF : c + 35 ≤ F) (hF : FixR b N) (h0 : r 0 0 = nI 0) (hth : nth ≤ 6) (hrth : r 0 1 = nI nth) (hkth : k 0 10 = nI nth) (hst : n 246 = 1) (hJ : JI r nt ns mem nth k kl n q) :
    ∃ v k' n', (∀ L, Cq l D B mX0_stopAll [vr (some (c + 0))] (pt c 35 k G) L N (some (vi v)) (pt c 35 k' G) L) ∧ (∀ G2 L, Cq l D B mX12_close [vr (some (b + 0))] (RI b r n G2) L N (some (vi v)) (RI b r n' G2) L) ∧ n' 246 = nI 3 ∧ k' 0 16 = nI 3 ∧ OJ r nt ns k' kl n' q ∧ ∀ f, f = 2 ∨ f = 10 → k' 0 f = k 0 f := by
  have hnt := hT.2.1.2.1
  have hPP : FixP c P N := hT.1.1.p (Or.inl hP)
  have hTk := hT.tk hcF
  obtain ⟨hS, hL, hNF, hM, hR, hK, hLS, hZ, hNR, hXI⟩ := hJ
  obtain ⟨L0, hL0⟩ : ∃ L0, sm (fun t => wL (n (12 * t + 0))) nt = L0 := ⟨_, rfl⟩
  have hC0 : Cz r nt ns mem nth L0 k n k n 0 := ⟨hS, hM, hR, hNR, by omega, fun _ _ _ _ _ => rfl, fun _ _ => rfl, fun _ _ => Or.inl rfl, fun _ _ => rfl⟩
  -- the threads, from the last
  obtain ⟨f, f1, f2, f3⟩ := seqm (A := MI × ((Nat → Int32) × Nat)) (I := fun j a => Cz r nt ns mem nth L0 k n a.1 a.2.1 a.2.2 ∧ ∀ g, nth - j ≤ g → g < nth → a.2.1 (250 + g) = -9)
    (R := fun j a a' => (a.2.1 (250 + (nth - j - 1)) = -9 ∧ a' = a) ∨ ∃ t x K, t < nt ∧ a.2.1 (250 + (nth - j - 1)) = nI t ∧ N.1 (P + 2) t = some x ∧ a.2.1 244 = nI K ∧ K < 40 ∧ a'.1 = W_leave (upd2 a.1 (7 + t) 0 (nI 5)) (G x 1) t (nth - j - 1) K ∧ a'.2.1 = F_ends r a.2.1 t (nI 5) (nth - j - 1) K ∧ a'.2.2 = a.2.2 + 1) nth (k, (n, 0)) (fun j hj a ha => by
      obtain ⟨a1, a2, a3⟩ := a
      obtain ⟨hc, hg⟩ := ha
      rcases hc.2.2.1.2.1 (nth - j - 1) (by omega) with y | ⟨t, y1, y2, y3, y4, y5⟩
      · refine ⟨(a1, (a2, a3)), ⟨hc, fun g g1 g2 => ?_⟩, Or.inl ⟨y, rfl⟩⟩
        by_cases e : g = nth - j - 1
        · subst e; exact y
        · exact hg g (by omega) g2
      · obtain ⟨x, x1, -⟩ := hTk t y1
        obtain ⟨K, z1, z2, z3⟩ := hc.leave hT hth y2 y1 y3 y4 y5 x1
        refine ⟨(_, (_, a3 + 1)), ⟨z3, fun g g1 g2 => ?_⟩, Or.inr ⟨t, x, K, y1, y3, x1, z1, z2, rfl, rfl, rfl⟩⟩
        show F_ends r a2 t (nI 5) (nth - j - 1) K (250 + g) = -9
        rw [ends_h (by omega) (by omega) z2 (by omega)]
        split
        · rfl
        · exact hg g (by omega) g2) ⟨hC0, fun g g1 g2 => by omega⟩
  obtain ⟨c1, c2⟩ := f2 nth (Nat.le_refl nth)
  -- the tasks
  obtain ⟨e, e1, e2, e3⟩ := seqm (A := MI × ((Nat → Int32) × Nat)) (I := fun j a => Cz r nt ns mem nth L0 k n a.1 a.2.1 a.2.2 ∧ (∀ g, g < nth → a.2.1 (250 + g) = -9) ∧ ∀ u, u < j → ¬ a.2.1 (12 * u + 0) = 0)
    (R := fun j a a' => (a.2.1 (12 * j + 0) = 0 ∧ a'.1 = W_ew a.1 j (nI 5) ∧ a'.2.1 = F_falls a.2.1 j (nI 5) ∧ a'.2.2 = a.2.2 + 1) ∨ (¬ a.2.1 (12 * j + 0) = 0 ∧ a' = a)) nt (f nth) (fun j hj a ha => by
      obtain ⟨a1, a2, a3⟩ := a
      obtain ⟨hc, hg, hu⟩ := ha
      by_cases y : a2 (12 * j + 0) = 0
      · refine ⟨(_, (_, a3 + 1)), ⟨hc.falls hT hth hj y, fun g g1 => ?_, fun u u1 => ?_⟩, Or.inl ⟨y, rfl, rfl, rfl⟩⟩
        · show F_falls a2 j (nI 5) (250 + g) = -9
          rw [falls_row (by omega) (by omega)]; exact hg g g1
        · show ¬ F_falls a2 j (nI 5) (12 * u + 0) = 0
          by_cases e : u = j
          · subst e; rw [falls_0 (by omega)]; decide
          · rw [falls_row (by omega) (by omega)]; exact hu u (by omega)
      · refine ⟨(a1, (a2, a3)), ⟨hc, hg, fun u u1 => ?_⟩, Or.inr ⟨y, rfl⟩⟩
        by_cases e : u = j
        · subst e; exact y
        · exact hu u (by omega)) ⟨c1, fun g g1 => c2 g (by omega) g1, fun u u1 => absurd u1 (Nat.not_lt_zero u)⟩
  obtain ⟨⟨d1, d2, d3, d4, d5, d6, d7, d8, d9⟩, g1, g2⟩ := e2 nt (Nat.le_refl nt)
  have hz : sm (fun t => wL ((e nt).2.1 (12 * t + 0))) nt = 0 := sm_zero (fun t ht => by
    try simp only
    unfold wL
    rw [if_neg]
    rintro (y | y)
    · exact g2 t ht y
    · obtain ⟨⟨h, x1, x2, x3⟩, -⟩ := (d3.1 t ht).2.2.2.2.1 y
      exact absurd (x3.symm.trans (g1 h x1)) (nI_n9 (by omega)))
  have hm2 : (e nt).2.2 = L0 := by omega
  have hans : k 0 17 = nI ((e nt).2.2) := by rw [hL, hR.2.2.1.1, hL0, hm2]
  have hsw : F_sw nt 0 (f nth).1 = (e nt).1 := by
    have := sw_trace (nt := nt) (K := fun j => (e j).1) nt 0 (by omega) (fun j hj => by
      have hs := (e2 j (by omega)).1.1.tr (t := j) (f := 0) (by omega) (by omega)
      rcases e3 j hj with ⟨y1, y2, -⟩ | ⟨y1, y2⟩
      · rw [if_pos (hs.trans y1)]; exact y2
      · rw [if_neg (fun y => y1 (hs.symm.trans y)), y2])
    simp only [e1] at this
    exact this
  have hO : OJ r nt ns (e nt).1 kl (e nt).2.1 q := by
    refine ⟨d1, d2, fun t ht h23 _ => hLS.1 t ht h23, fun s hs => ?_, d4, ⟨fun u h1 h2 => ?_, fun s h1 h2 => ?_⟩, ?_⟩
    · rw [d7 _ (by omega)]; exact hLS.2.2 s hs
    · rcases d8 u h2 with y | ⟨-, y⟩
      · exact y.trans (hXI.1 u h1 h2)
      · omega
    · rw [d7 _ (by omega)]; exact hXI.2 s h1 h2
    · obtain ⟨-, -, ⟨K, c3, c4⟩, -⟩ := d3.2.2.1
      exact ⟨K, by omega, c3⟩
  refine ⟨nI ((e nt).2.2), upd2 (e nt).1 0 16 (nI 3), up (e nt).2.1 246 (nI 3), fun L => ?_, fun G2 L => ?_, up_s _ _ _, by rw [upd2_row, up_s], hO.set, fun f hf => ?_⟩
  · have h := c_stopAll (l := l) (D := D) (B := B) (L := L) (k := k) (G := G) hX hPP hT.2.1.1 hnt hkth hth (Km := fun j => (f (nth - j)).1) (by simp only [Nat.sub_self, f1]) (fun j hj => by
      have ei : nth - j = (nth - (j + 1)) + 1 := by omega
      have ej : nth - (nth - (j + 1)) - 1 = j := by omega
      have hs := (f2 (nth - (j + 1)) (by omega)).1.1.th (t := j) (by omega)
      have h9 := (f2 (nth - (j + 1)) (by omega)).1.1.t9
      have h3 := f3 (nth - (j + 1)) (by omega)
      simp only [ei]
      rw [ej] at h3
      rcases h3 with ⟨y1, y2⟩ | ⟨t, x, K, y1, y2, y3, y4, y5, y6, -⟩
      · exact Or.inl ⟨hs.trans y1, by rw [y2]⟩
      · obtain ⟨x', z1, z2, z3⟩ := hTk t y1
        have ex : x' = x := Option.some.inj (z1.symm.trans y3)
        subst ex
        exact Or.inr ⟨t, x', K, by omega, hs.trans y2, y3, z2, z3, h9.trans y4, y5, y6⟩)
    rw [hans] at h
    simp only [Nat.sub_zero] at h
    rw [hsw] at h
    exact h
  · exact n_close (l := l) (D := D) (B := B) (b := b) (r := r) (G := G2) (L := L) hF h0 (nt := nt) (nth := nth) (nn := fun j => (f j).2.1) (pp := fun j => (e j).2.1) (mm := fun j => (f j).2.2) (m2 := fun j => (e j).2.2) hT.2.1.2.2 hnt hrth hth hst (by simp only [f1]) (by simp only [f1]) (by simp only [e1]) (by simp only [e1])
      (fun j hj => by
        rcases f3 j hj with ⟨y1, y2⟩ | ⟨t, x, K, y1, y2, y3, y4, y5, y6, y7, y8⟩
        · exact Or.inl ⟨y1, by simp only [y2], by simp only [y2]⟩
        · exact Or.inr ⟨t, K, by omega, y2, y4, y5, y7, y8⟩)
      (fun j hj => by
        rcases e3 j hj with ⟨y1, y2, y3, y4⟩ | ⟨y1, y2⟩
        · exact Or.inl ⟨y1, y3, y4⟩
        · exact Or.inr ⟨y1, by simp only [y2], by simp only [y2]⟩)
  · rw [upd2_row, up_ne (by omega)]; exact d9 f hf
/-- interrupt, on both sides -/
theorem int_sim {t : Nat} (hT : Stc N G GL r rl F P ng nt ns mem) (hX : FixC c P N) (hP : P + 5 ≤ c) (hcF : c + 35 ≤ F) (hF : FixR b N) (h0 : r 0 0 = nI 0) (hth : nth ≤ 6) (ht : t < nt) (hst : n 246 = 1) (hJ : JI r nt ns mem nth k kl n q) :
    ∃ v k' n', (∀ L, Cq l D B mX0_breakOff [vr (some (c + 0)), vi (nI t)] (pt c 35 k G) L N (some (vi v)) (pt c 35 k' G) L) ∧ (∀ G2 L, Cq l D B mX12_interrupt [vr (some (b + 0)), vi (nI t)] (RI b r n G2) L N (some (vi v)) (RI b r n' G2) L) ∧ n' 246 = n 246 ∧ n' 240 = n 240 ∧ JI r nt ns mem nth k' kl n' q ∧ ∀ f, f = 2 ∨ f = 10 ∨ f = 16 → k' 0 f = k 0 f := by
  have hnt := hT.2.1.2.1
  have hns := hT.2.2.1.2.1
  have hnt0 := hT.2.1.2.2
  have ht20 : t < 20 := by omega
  have hJ0 := hJ
  obtain ⟨hS, hL, hNF, hM, hR, hK, hLS, hZ, hNR, hXI⟩ := hJ
  have e0 := hS.tr (t := t) (f := 0) ht20 (by omega)
  by_cases y0 : n (12 * t + 0) = 0
  · have S1 : Sim ns (W_ew k t (nI 6)) (F_falls n t (nI 6)) := falls_sim hS ht20
    have R1 : RV r nt nth mem (F_falls n t (nI 6)) := RV.falls hnt hth ht (by omega) (by omega) hR y0
    have kf : ∀ f, f ≠ 17 → W_ew k t (nI 6) 0 f = k 0 f := fun f hf => by
      unfold W_ew
      simp (disch := omega) only [upd2_row, upd2_ne, up_ne]
    have L1 : W_ew k t (nI 6) 0 17 = F_falls n t (nI 6) 247 := by
      rw [falls_7, ← hL]
      unfold W_ew
      simp (disch := omega) only [upd2_row, upd2_ne, up_ne, up_s]
    have fr : ∀ j, j ≠ 247 ∧ j ≠ 248 → j ≠ 12 * t + 0 → F_falls n t (nI 6) j = n j := fun j h1 h2 => falls_row h1 h2
    obtain ⟨k3, n3, x1, x2, x3, x4, x5, x6, x7, x8, x9⟩ := look_sim (l := l) (D := D) (B := B) hT hth hX hP hcF hF S1 L1 R1
    refine ⟨nI 1, k3, n3, fun L => c_break_wait hX ht20 (e0.trans y0) (x1 L), fun G2 L => n_int_wait hF h0 hnt0 hnt ht hst y0 (x2 G2 L), ?_, ?_, ⟨x3, x4, ?_, ?_, x5, x6, ?_, fun u hu h4 => ?_, ?_, fun u h1 h2 => ?_, fun s' h1 h2 => ?_⟩, fun f hf => ?_⟩
    · rw [x7.1 _ (by omega) (by omega) (by omega) (by omega), fr _ (by omega) (by omega)]
    · rw [x7.1 _ (by omega) (by omega) (by omega) (by omega), fr _ (by omega) (by omega)]
    · rw [x8.1 18 (by omega) (by omega), kf 18 (by omega)]
      refine hNF.imp id (fun y j hj z => y j hj ⟨?_, ?_⟩)
      · rcases x7.2.2 j (by omega) with w | ⟨w, w2⟩
        · by_cases e : j = t
          · subst e; exact y0
          · have z1 := w.symm.trans z.1
            rw [fr _ (by omega) (by omega)] at z1
            exact z1
        · exact absurd (w2.symm.trans z.1) (by decide)
      · have z2 := z.2
        rw [x7.1 _ (by omega) (by omega) (by omega) (by omega), fr _ (by omega) (by omega)] at z2
        exact z2
    · rw [x8.1 1 (by omega) (by omega), kf 1 (by omega)]; exact hM
    · refine hLS.congr hns (fun u hu => ?_) (fun s' hs' => ?_)
      · rw [x7.2.1 u (by omega) 8 (by omega) (by omega) (by omega), fr _ (by omega) (by omega)]
      · rw [x7.1 _ (by omega) (by omega) (by omega) (by omega), fr _ (by omega) (by omega)]
    · rw [x7.2.1 u (by omega) 6 (by omega) (by omega) (by omega), fr _ (by omega) (by omega)]
      exact hZ u hu h4
    · refine hNR.congr ((x8.2 6 (by omega) (by omega)).trans (by unfold W_ew; simp (disch := omega) only [upd2_ne])) ?_ (fun i hi => ?_)
      · rw [x7.1 _ (by omega) (by omega) (by omega) (by omega), fr _ (by omega) (by omega)]
      · rw [x7.1 _ (by omega) (by omega) (by omega) (by omega), fr _ (by omega) (by omega)]
    · rw [x9 u h1 h2, fr _ (by omega) (by omega)]
      exact hXI.1 u h1 h2
    · rw [x7.1 _ (by omega) (by omega) (by omega) (by omega), fr _ (by omega) (by omega)]
      exact hXI.2 s' h1 h2
    · rw [x8.1 f (by omega) (by omega), kf f (by omega)]
  · by_cases y1 : n (12 * t + 0) = nI 1
    · have fr : ∀ j, j ≠ 12 * t + 11 → up n (12 * t + 11) (nI 1) j = n j := fun j h => up_ne h
      refine ⟨nI 1, upd2 k (7 + t) 12 (nI 1), up n (12 * t + 11) (nI 1), fun L => c_break_go hX ht20 (e0.trans y1), fun G2 L => n_int_go hF h0 hnt0 hnt ht hst y1, fr _ (by omega), fr _ (by omega), ⟨hS.put (lo_i ht20) (Mp_t ht20 (by omega) (by omega)), ?_, ?_, ?_, RV.flag (Or.inr rfl) hnt hth ht hR y1, ?_, ?_, fun u hu h4 => ?_, ?_, fun u h1 h2 => ?_, fun s' h1 h2 => ?_⟩, fun f hf => ?_⟩
      · rw [upd2_ne (by omega), fr _ (by omega)]; exact hL
      · rw [upd2_ne (by omega)]
        refine hNF.imp id (fun y j hj z => y j hj ?_)
        rw [fr _ (by omega), fr _ (by omega)] at z
        exact z
      · rw [upd2_ne (by omega)]; exact hM
      · intro h9 u hu hs hn
        have sk : ∀ w, skipR r (up n (12 * t + 11) (nI 1)) w ↔ skipR r n w := fun w => by
          unfold skipR
          rw [fr _ (by omega)]
        rw [fr _ (by omega)] at h9 ⊢
        exact hK h9 u hu (fun w hw => (sk w).mp (hs w hw)) (fun y => hn ((sk u).mpr y))
      · exact hLS.congr hns (fun u hu => fr _ (by omega)) (fun s' hs' => fr _ (by omega))
      · rw [fr _ (by omega)]; exact hZ u hu h4
      · exact hNR.congr (upd2_ne (by omega)) (fr _ (by omega)) (fun i hi => fr _ (by omega))
      · rw [fr _ (by omega)]; exact hXI.1 u h1 h2
      · rw [fr _ (by omega)]; exact hXI.2 s' h1 h2
      · rw [upd2_ne (by omega)]
    · exact ⟨nI 0, k, n, fun L => c_break_no hX ht20 (by rw [e0]; exact fun y => y.elim y0 y1), fun G2 L => n_int_end hF h0 hnt0 hnt ht hst ⟨y0, y1⟩, rfl, rfl, hJ0, fun _ _ => rfl⟩
end CLOSE

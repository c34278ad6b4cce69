/-! ===== a run to its end, on both sides ===== -/
section ENDS
variable {l : Launch} {D : va_G} {B b : Nat} {N : NT} {G : MI} {GL : ML} {r : MI} {rl : ML} {F P ng nt ns mem nth c : Nat}
theorem MU_idle {n n' : Nat → Int32} (hnt : nt ≤ 20) (h : ∀ j, j < 240 → n' j = n j) : MU r nt n' = MU r nt n :=
  sm_congr (fun t ht => tm_row (fun j hj => h _ (by omega)))
theorem Prog.mono {h : Nat} {n n' : Nat → Int32} (hnt : nt ≤ 20) (hp : Prog r nt h n n') : MU r nt n' ≤ MU r nt n := by
  rcases hp with y | ⟨-, y, -⟩
  · omega
  · exact Nat.le_of_eq (MU_idle hnt y)
/-- in as many turns as there are threads, the measure falls -/
theorem MU_round {many m : Nat} {f : Nat → TS} (hT : Stc N G GL r rl F P ng nt ns mem) (hm1 : 1 ≤ many) (hm6 : many ≤ 6)
    (f3 : ∀ i, i ≤ m → JI r nt ns mem many (f i).1.1 (f i).1.2 (f i).2.1 (f i).2.2) (f4 : ∀ i, i < m → TR l D B b c N G GL r rl nt (i % many) (f i) (f (i + 1))) (f5 : ∀ i, i < m → 0 < (f i).2.1 247) {i : Nat} (hi : i + many ≤ m) : MU r nt (f (i + many)).2.1 < MU r nt (f i).2.1 := by
  have hnt := hT.2.1.2.1
  have hmem := hT.2.2.2.1.2.2
  refine Nat.lt_of_not_le (fun hge => ?_)
  have pg : ∀ j, j < m → Prog r nt (j % many) (f j).2.1 (f (j + 1)).2.1 := fun j hj => (f4 j hj).2.2.2.2.1
  have mono : ∀ d j, j + d ≤ m → MU r nt (f (j + d)).2.1 ≤ MU r nt (f j).2.1 := by
    intro d
    induction d with
    | zero => intro j _; exact Nat.le_refl _
    | succ d ih =>
      intro j hj
      have h1 := ih j (by omega)
      have h2 := (pg (j + d) (by omega)).mono hnt
      rw [show j + (d + 1) = j + d + 1 by omega]
      omega
  have idle : ∀ d, d < many → (f (i + d)).2.1 (250 + (i + d) % many) = -9 ∧ (∀ g, g < 6 → (f (i + d + 1)).2.1 (250 + g) = (f (i + d)).2.1 (250 + g)) ∧ ∀ u, u < nt → ¬ ((f (i + d)).2.1 (12 * u + 0) = 0 ∧ r 10 u ≤ (f (i + d)).2.1 242) := by
    intro d hd
    rcases pg (i + d) (by omega) with y | ⟨y1, -, y3, -, y5⟩
    · have h1 := mono d i (by omega)
      have h2 := mono (many - d - 1) (i + d + 1) (by omega)
      rw [show i + d + 1 + (many - d - 1) = i + many by omega] at h2
      omega
    · exact ⟨y1, y3, y5⟩
  have same : ∀ d, d ≤ many → ∀ g, g < 6 → (f (i + d)).2.1 (250 + g) = (f i).2.1 (250 + g) := by
    intro d
    induction d with
    | zero => intro _ g _; rfl
    | succ d ih =>
      intro hd g hg
      rw [show i + (d + 1) = i + d + 1 by omega, (idle d (by omega)).2.1 g hg]
      exact ih (by omega) g hg
  have free : ∀ h, h < many → (f i).2.1 (250 + h) = -9 := by
    intro h hh
    obtain ⟨d, hd, e⟩ : ∃ d, d < many ∧ (i + d) % many = h := by
      have hx := Nat.mod_lt i (show 0 < many by omega)
      have hdm := Nat.div_add_mod i many
      generalize i % many = x at hx hdm
      generalize hq : many * (i / many) = y at hdm
      by_cases hle : x ≤ h
      · refine ⟨h - x, by omega, ?_⟩
        rw [show i + (h - x) = h + many * (i / many) by omega, Nat.add_mul_mod_self_left, Nat.mod_eq_of_lt hh]
      · refine ⟨many + h - x, by omega, ?_⟩
        rw [show i + (many + h - x) = h + many * (i / many + 1) by rw [Nat.mul_add, Nat.mul_one]; omega, Nat.add_mul_mod_self_left, Nat.mod_eq_of_lt hh]
    have h1 := (idle d hd).1
    rw [e, same d (by omega) h (by omega)] at h1
    exact h1
  obtain ⟨-, -, -, -, hR, -⟩ := f3 i (by omega)
  have no1 : ∀ t, t < nt → ¬ (f i).2.1 (12 * t + 0) = nI 1 := fun t ht y => by
    obtain ⟨⟨h, x1, x2, x3⟩, -⟩ := (hR.1 t ht).2.2.2.2.1 y
    exact absurd (x3.symm.trans (free h x1)) (nI_n9 (by omega))
  obtain ⟨c1, -, -, fr, c2, c3⟩ := hR.2.2.1
  have z : sm (ndF r (f i).2.1) nt = 0 := sm_zero (fun t ht => by unfold ndF; rw [if_neg (no1 t ht)])
  have efr : fr = mem := by omega
  have no0 : ∀ t, t < nt → ¬ (f i).2.1 (12 * t + 0) = 0 := fun t ht y => by
    obtain ⟨a, -, -, -, -, -, ⟨nd, d1, d2⟩, -⟩ := hT.2.2.2.2.2.2 t ht
    refine (idle 0 (by omega)).2.2 t ht ⟨y, ?_⟩
    show r 10 t ≤ (f i).2.1 242
    rw [c2, d2, efr]
    exact (nI_leI (by omega) (by omega)).mpr d1
  have zL : sm (fun t => wL ((f i).2.1 (12 * t + 0))) nt = 0 := sm_zero (fun t ht => by
    unfold wL
    rw [if_neg]
    rintro (y | y)
    · exact no0 t ht y
    · exact no1 t ht y)
  have h7 := f5 i (by omega)
  rw [c1, zL] at h7
  exact absurd h7 (by decide)
/-- what is kept of a run, for comparing -/
def EJ (r : MI) (nt : Nat) (n : Nat → Int32) : Prop := (∀ t, t < nt → (∃ s, s ≤ 6 ∧ n (12 * t + 0) = nI s) ∧ (¬ n (12 * t + 0) = nI 3 → n (12 * t + 1) = 0) ∧ (n (12 * t + 0) = nI 3 → ¬ r 6 t = nI 4 → n (12 * t + 1) = wf r t)) ∧ KV r nt n
theorem thr_run {many : Nat} {k : MI} {n : Nat → Int32} {kl : ML} {q : Nat → Int64} (hT : Stc N G GL r rl F P ng nt ns mem) (hX : FixC c P N) (hP : P + 5 ≤ c) (hcF : c + 35 ≤ F) (hF : FixR b N) (hm1 : 1 ≤ many) (hm6 : many ≤ 6) (hm : k 0 1 = r 0 2) (hby : k 0 2 = 0) :
    ∃ v kb klb k' kl' n' q', Cq l D B mX0_begin [vr (some (c + 0)), vi (nI many)] (pt c 35 k G) (pt c 35 kl GL) N none (pt c 35 kb G) (pt c 35 klb GL) ∧ Cq l D B mX0_goOn [vr (some (c + 0)), vi 1000000] (pt c 35 kb G) (pt c 35 klb GL) N (some (vi v)) (pt c 35 k' G) (pt c 35 kl' GL) ∧ (∀ G2 S GL2, ∃ S2, Cq l D B mX12_through [vr (some (b + 0)), vi (nI many)] (RI b r n G2) (RLg b rl S q GL2) N none (RI b r n' G2) (RLg b rl S2 q' GL2)) ∧ OJ r nt ns k' kl' n' q' ∧ EJ r nt n' ∧ k' 0 2 = 0 := by
  have hnt := hT.2.1.2.1
  have hPP : FixP c P N := hT.1.1.p (Or.inl hP)
  have hb := c_begin (l := l) (D := D) (B := B) (k := k) (kl := kl) (G := G) (GL := GL) hX hPP (x := nI many) hT.2.2.1.1 hT.2.2.1.2.1 (hT.se hcF)
  obtain ⟨b1, b2, b3, b4, b5, b6, b7, b8, b9⟩ := begin_sim (k := k) (n := n) (kl := kl) (q := q) (x := nI many) hT hm
  obtain ⟨kb, hkb⟩ : ∃ kb, F_b4 (F_b3 (F_bhK (F_bwK k 20) ns) 6) (nI many) = kb := ⟨_, rfl⟩
  obtain ⟨klb, hklb⟩ : ∃ klb, F_bhL N P GL (F_bwL kl 20) ns = klb := ⟨_, rfl⟩
  rw [hkb] at b1 b4 b6 b7 b8 b9 hb
  rw [hklb] at b4 b5 hb
  have b240 : F_bgN r n 240 = nI 0 := bg_z (by omega)
  obtain ⟨nb, hnb⟩ : ∃ nb, F_bgN r n = nb := ⟨_, rfl⟩
  obtain ⟨qb, hqb⟩ : ∃ qb, F_bgQ rl q = qb := ⟨_, rfl⟩
  rw [hnb] at b1 b2 b3 b5 b240
  rw [hqb] at b2 b5
  -- the run, open on the class's side
  have hJ : JI r nt ns mem many (upd2 (upd2 kb 0 16 (nI 1)) 0 17 (G P 5)) klb nb qb := by
    refine Fr.ji hT hm6 ((b1.put16).put17) b2 ⟨?_, b4.2⟩ b5 ?_ ?_
    · rw [upd2_row, up_ne (by omega), upd2_row, up_ne (by omega)]; exact b4.1
    · rw [upd2_row, up_ne (by omega), upd2_row, up_ne (by omega)]; exact b6
    · rw [upd2_row, up_s, hT.2.1.1, b2.2.1.2.2.1]
  obtain ⟨k1, hk1⟩ : ∃ k1, upd2 (upd2 kb 0 16 (nI 1)) 0 17 (G P 5) = k1 := ⟨_, rfl⟩
  rw [hk1] at hJ
  obtain ⟨m, f, f1, f2, f3, f4, f5, f6⟩ := run_trace (l := l) (D := D) (B := B) hT hX hP hcF hF hm6 (fun i => i % many) (fun i => Nat.mod_lt i (by omega)) ((k1, klb), (nb, qb)) hJ 130000
  have hcnt := trace_cnt f4 (c0 := 0) (by rw [f2]; exact b240)
  have f02 : (f 0).1.1 = upd2 (upd2 kb 0 16 (nI 1)) 0 17 (G P 5) := by rw [f2]; exact hk1.symm
  -- it ends
  have hend : (f m).2.1 247 ≤ 0 := by
    rcases f6 with y | y
    · exfalso
      have fall : ∀ j, many * j ≤ m → MU r nt (f (many * j)).2.1 + j ≤ MU r nt (f 0).2.1 := by
        intro j
        induction j with
        | zero => intro _; exact Nat.le_refl _
        | succ j ih =>
          intro hj
          rw [Nat.mul_succ] at hj
          have h1 := ih (by omega)
          have h2 := MU_round (l := l) (D := D) (B := B) hT hm1 hm6 f3 f4 f5 hj
          rw [Nat.mul_succ]
          omega
      have h1 := fall 20041 (by
        have : many * 20041 ≤ 6 * 20041 := Nat.mul_le_mul_right _ hm6
        omega)
      have h2 := MU_le (r := r) (n := (f 0).2.1) hnt
      omega
    · exact y
  obtain ⟨k', kl', n', q', x1, x2, x3, x4, x5, x6⟩ := over_sim (l := l) (D := D) (B := B) hT hX hP hcF hF (f3 m (Nat.le_refl m))
  have hL : ∀ i, i ≤ m → (f i).1.1 0 17 = (f i).2.1 247 := fun i hi => (f3 i hi).2.1
  have hnext : ∀ i, i < m → Cq l D B mX0_nextThread [vr (some (c + 0))] (pt c 35 (f i).1.1 G) (pt c 35 (f i).1.2 GL) N (some (vi (nI (i % many)))) (pt c 35 (f i).1.1 G) (pt c 35 (f i).1.2 GL) := fun i hi => by
    obtain ⟨e1, e2, e3⟩ := hcnt i (by omega)
    have e13 : (f i).1.1 0 13 = nI i := (f3 i (by omega)).1.t13.trans (e1.trans (by rw [Nat.zero_add]))
    refine c_next_alone (l := l) (D := D) (B := B) (L := pt c 35 (f i).1.2 GL) (k := (f i).1.1) (G := G) hX hPP ?_ e13 (by omega) ?_ (by omega) hm6
    · rw [e3 2 (by omega), f02, upd2_row, up_ne (by omega), upd2_row, up_ne (by omega), b7]; exact hby
    · rw [e3 10 (by omega), f02, upd2_row, up_ne (by omega), upd2_row, up_ne (by omega)]; exact b8
  have hc := c_goOn_over (l := l) (D := D) (B := B) (k := kb) (G := G) (kl := klb) (GL := GL) hX hPP (n := 1000000) (m := m) (Km := fun i => (f i).1.1) (Kl := fun i => (f i).1.2) (th := fun i => i % many) (by omega) (by omega) ⟨fun _ => f02, fun y => absurd b9 y⟩ (by rw [f2]) hnext (fun i hi => (f4 i hi).1) (fun i hi => by rw [hL i (by omega)]; exact f5 i hi) (Or.inr (by rw [hL m (Nat.le_refl m)]; exact hend)) (by rw [hL m (Nat.le_refl m)]; exact hend) x1
  have hR := (f3 m (Nat.le_refl m)).2.2.2.2.1
  refine ⟨_, kb, klb, upd2 k' 0 16 (nI 2), kl', n', q', hb, hc, fun G2 S GL2 => ?_, ?_, ⟨fun t ht => ?_, ?_⟩, ?_⟩
  · obtain ⟨SS, q1, q2⟩ := trace_S f4 G2 S GL2
    obtain ⟨S2, q3⟩ := x2 G2 (SS m) GL2
    refine ⟨S2, n_through (l := l) (D := D) (B := B) (b := b) (r := r) (G := G2) (rl := rl) (GL := GL2) hF (many := many) (m := m) (nn := fun i => (f i).2.1) (qq := fun i => (f i).2.2) (SS := SS) hm1 hm6 (by omega) ?_ q2 (fun i hi => (hcnt i hi).1.trans (by rw [Nat.zero_add])) f5 hend q3⟩
    have hB0 := n_begins (l := l) (D := D) (B := B) (r := r) (n := n) (G := G2) (rl := rl) (S := S) (q := q) (GL := GL2) hF
    rw [hnb, hqb] at hB0
    simp only [f2, q1]
    exact hB0
  · obtain ⟨h1, h2, h3, h4, h5, h6, h7⟩ := x3
    exact ⟨h1.put16, by rw [upd2_row, up_ne (by omega)]; exact h2, h3, h4, h5.congr (upd2_ne (by omega)) rfl (fun _ _ => rfl), h6, h7⟩
  · obtain ⟨v1, -, -, -, -, v6, v7⟩ := hR.1 t ht
    rw [x4 (12 * t + 0) (by omega) (fun u hu => by omega), x4 (12 * t + 1) (by omega) (fun u hu => by omega)]
    exact ⟨v1, v6, v7⟩
  · unfold KV
    rw [x4 245 (by omega) (fun u hu => by omega)]
    rcases hR.2.2.2 with y | ⟨t, y1, y2, y3, y4⟩
    · exact Or.inl y
    · exact Or.inr ⟨t, y1, y2, by rw [x4 _ (by omega) (fun u hu => by omega)]; exact y3, y4⟩
  · rw [upd2_row, up_ne (by omega), x6 2, (hcnt m (Nat.le_refl m)).2.2 2 (by omega), f02, upd2_row, up_ne (by omega), upd2_row, up_ne (by omega), b7]; exact hby
end ENDS

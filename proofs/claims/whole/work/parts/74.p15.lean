/-! ===== many turns on both sides ===== -/
abbrev TS : Type := (MI × ML) × ((Nat → Int32) × (Nat → Int64))
/-- one turn of thread h, from a to a' -/
def TR (l : Launch) (D : va_G) (B b c : Nat) (N : NT) (G : MI) (GL : ML) (r : MI) (rl : ML) (nt h : Nat) (a a' : TS) : Prop :=
  Cq l D B mX0_giveTurn [vr (some (c + 0)), vi (nI h)] (pt c 35 a.1.1 G) (pt c 35 a.1.2 GL) N none (pt c 35 a'.1.1 G) (pt c 35 a'.1.2 GL) ∧ (∀ G2 S GL2, ∃ S2, Cq l D B mX12_turns [vr (some (b + 0)), vi (nI h)] (RI b r a.2.1 G2) (RLg b rl S a.2.2 GL2) N none (RI b r a'.2.1 G2) (RLg b rl S2 a'.2.2 GL2)) ∧ a'.2.1 240 = a.2.1 240 + nI 1 ∧ a'.2.1 246 = a.2.1 246 ∧ Prog r nt h a.2.1 a'.2.1 ∧ ∀ f, f = 2 ∨ f = 10 ∨ f = 16 → a'.1.1 0 f = a.1.1 0 f
section TRACE
variable {l : Launch} {D : va_G} {B b : Nat} {N : NT} {G : MI} {GL : ML} {r : MI} {rl : ML} {F P ng nt ns mem nth c : Nat}
theorem run_trace (hT : Stc N G GL r rl F P ng nt ns mem) (hX : FixC c P N) (hP : P + 5 ≤ c) (hcF : c + 35 ≤ F) (hF : FixR b N) (hth : nth ≤ 6) (th : Nat → Nat) (hh : ∀ i, th i < nth) (a0 : TS) (h0 : JI r nt ns mem nth a0.1.1 a0.1.2 a0.2.1 a0.2.2) : ∀ z : Nat, ∃ (m : Nat) (f : Nat → TS), m ≤ z ∧ f 0 = a0 ∧ (∀ i, i ≤ m → JI r nt ns mem nth (f i).1.1 (f i).1.2 (f i).2.1 (f i).2.2) ∧ (∀ i, i < m → TR l D B b c N G GL r rl nt (th i) (f i) (f (i + 1))) ∧ (∀ i, i < m → 0 < (f i).2.1 247) ∧ (m = z ∨ (f m).2.1 247 ≤ 0)
  | 0 => ⟨0, fun _ => a0, Nat.le_refl 0, rfl, fun i hi => h0, fun i hi => absurd hi (Nat.not_lt_zero i), fun i hi => absurd hi (Nat.not_lt_zero i), Or.inl rfl⟩
  | z + 1 => by
    obtain ⟨m, f, f1, f2, f3, f4, f5, f6⟩ := run_trace hT hX hP hcF hF hth th hh a0 h0 z
    by_cases hl : 0 < (f m).2.1 247
    · have hmz : m = z := f6.elim id (fun y => absurd hl (Int32.not_lt.mpr y))
      subst hmz
      obtain ⟨k', kl', n', q', x1, x2, x3, x4, x5, x6, x7⟩ := joint_turn (l := l) (D := D) (B := B) hT hX hP hcF hF hth (hh m) (f3 m (Nat.le_refl m))
      refine ⟨m + 1, fun i => if i ≤ m then f i else ((k', kl'), (n', q')), Nat.le_refl _, ?_, fun i hi => ?_, fun i hi => ?_, fun i hi => ?_, Or.inl rfl⟩
      · show (if 0 ≤ m then f 0 else _) = a0
        rw [if_pos (Nat.zero_le m)]; exact f2
      · by_cases e : i ≤ m
        · simp only [if_pos e]; exact f3 i e
        · simp only [if_neg e]; exact x3
      · by_cases e : i + 1 ≤ m
        · simp only [if_pos e, if_pos (show i ≤ m by omega)]; exact f4 i (by omega)
        · have e2 : i = m := by omega
          subst e2
          simp only [if_pos (Nat.le_refl i), if_neg e]
          exact ⟨x1, x2, x4, x5, x6, x7⟩
      · simp only [if_pos (show i ≤ m by omega)]
        by_cases e : i < m
        · exact f5 i e
        · have e2 : i = m := by omega
          subst e2
          exact hl
    · exact ⟨m, f, by omega, f2, f3, f4, f5, Or.inr (Int32.not_lt.mp hl)⟩
/-- what a trace counts -/
theorem trace_cnt {th : Nat → Nat} {f : Nat → TS} {m c0 : Nat} (h4 : ∀ i, i < m → TR l D B b c N G GL r rl nt (th i) (f i) (f (i + 1))) (h0 : (f 0).2.1 240 = nI c0) : ∀ i, i ≤ m → (f i).2.1 240 = nI (c0 + i) ∧ (f i).2.1 246 = (f 0).2.1 246 ∧ (∀ j, j = 2 ∨ j = 10 ∨ j = 16 → (f i).1.1 0 j = (f 0).1.1 0 j)
  | 0, _ => ⟨h0, rfl, fun _ _ => rfl⟩
  | i + 1, hi => by
    obtain ⟨e1, e2, e3⟩ := trace_cnt h4 h0 i (by omega)
    obtain ⟨-, -, g1, g2, -, g3⟩ := h4 i (by omega)
    exact ⟨by rw [g1, e1, nI_add]; exact congrArg nI (by omega), g2.trans e2, fun j hj => (g3 j hj).trans (e3 j hj)⟩
/-- the reference's sums along a trace -/
theorem trace_S {th : Nat → Nat} {f : Nat → TS} {m : Nat} (h4 : ∀ i, i < m → TR l D B b c N G GL r rl nt (th i) (f i) (f (i + 1))) (G2 : MI) (S : Int64) (GL2 : ML) : ∃ SS : Nat → Int64, SS 0 = S ∧ ∀ i, i < m → Cq l D B mX12_turns [vr (some (b + 0)), vi (nI (th i))] (RI b r (f i).2.1 G2) (RLg b rl (SS i) (f i).2.2 GL2) N none (RI b r (f (i + 1)).2.1 G2) (RLg b rl (SS (i + 1)) (f (i + 1)).2.2 GL2) := by
  obtain ⟨SS, s1, -, s3⟩ := seqm (A := Int64) (I := fun _ _ => True) (R := fun i x y => Cq l D B mX12_turns [vr (some (b + 0)), vi (nI (th i))] (RI b r (f i).2.1 G2) (RLg b rl x (f i).2.2 GL2) N none (RI b r (f (i + 1)).2.1 G2) (RLg b rl y (f (i + 1)).2.2 GL2)) m S (fun i hi x _ => by
    obtain ⟨y, hy⟩ := (h4 i hi).2.1 G2 x GL2
    exact ⟨y, trivial, hy⟩) trivial
  exact ⟨SS, s1, s3⟩
end TRACE
/-- what holds behind a run -/
def OJ (r : MI) (nt ns : Nat) (k : MI) (kl : ML) (n : Nat → Int32) (q : Nat → Int64) : Prop := Sim ns k n ∧ k 0 1 = r 0 2 ∧ (∀ t, t < nt → (r 6 t = nI 2 ∨ r 6 t = nI 3) → n (12 * t + 0) = nI 2 → kl (7 + t) 10 = q t) ∧ LSh ns n kl q ∧ NR k n ∧ XI nt ns n q ∧ ∃ K, K ≤ 40 ∧ n 244 = nI K
section GO
variable {l : Launch} {D : va_G} {B b : Nat} {N : NT} {G : MI} {GL : ML} {r : MI} {rl : ML} {F P ng nt ns mem nth c sc : Nat} {k : MI} {n : Nat → Int32} {kl : ML} {q : Nat → Int64}
/-- the end of a run on both sides: failed shares, and the state -/
theorem over_sim (hT : Stc N G GL r rl F P ng nt ns mem) (hX : FixC c P N) (hP : P + 5 ≤ c) (hcF : c + 35 ≤ F) (hF : FixR b N) (hJ : JI r nt ns mem nth k kl n q) :
    ∃ k' kl' n' q', Cq l D B mX0_doFailedSharesAgain [vr (some (c + 0))] (pt c 35 k G) (pt c 35 kl GL) N none (pt c 35 k' G) (pt c 35 kl' GL) ∧ (∀ G2 S GL2, ∃ S2, Cq l D B mX12_again [vr (some (b + 0))] (RI b r n G2) (RLg b rl S q GL2) N none (RI b r n' G2) (RLg b rl S2 q' GL2)) ∧ OJ r nt ns k' kl' n' q' ∧ (∀ j, j < 302 → (∀ u, u < 20 → j ≠ 12 * u + 6) → n' j = n j) ∧ (∀ j, j < 20 → q' j = q j) ∧ ∀ f, k' 0 f = k 0 f := by
  obtain ⟨hS, hL, hNF, hM, hR, hK, hLS, hZ, hNR, hXI⟩ := hJ
  obtain ⟨k', kl', n', q', x1, x2, x3, x4, x5, x6, x7, x8, x9⟩ := again_sim (l := l) (D := D) (B := B) hT hX hP hcF hF hS hLS.1 hLS.2.2 hZ
  refine ⟨k', kl', n', q', x1, x2, ⟨x3, ?_, fun t ht h23 _ => x4 t ht h23, x5, ?_, ⟨fun u h1 h2 => ?_, fun s h1 h2 => ?_⟩, ?_⟩, x6, x7, fun f => by rw [x8 0 (by omega) (by omega)]⟩
  · rw [x8 0 (by omega) (by omega)]; exact hM
  · exact hNR.congr (x8 6 (by omega) (by omega)) (x6 _ (by omega) (fun u hu => by omega)) (fun i hi => x6 _ (by omega) (fun u hu => by omega))
  · rw [x6 _ (by omega) (fun w hw => by omega)]; exact hXI.1 u h1 h2
  · rw [(x9 s h1 h2).1, (x9 s h1 h2).2]; exact hXI.2 s h1 h2
  · obtain ⟨-, -, ⟨K, c3, c4⟩, -⟩ := hR.2.2.1
    exact ⟨K, by omega, by rw [x6 _ (by omega) (fun u hu => by omega)]; exact c3⟩
theorem OJ.set {v : Int32} (h : OJ r nt ns k kl n q) : OJ r nt ns (upd2 k 0 16 v) kl (up n 246 v) q := by
  obtain ⟨h1, h2, h3, h4, h5, h6, K, h7, h8⟩ := h
  refine ⟨(h1.put16).putN Mp_n6, ?_, fun t ht a b => ?_, fun s hs => ?_, h5.congr (upd2_ne (by omega)) (up_ne (by omega)) (fun i hi => up_ne (by omega)), ⟨fun u a b => ?_, fun s a b => ?_⟩, K, h7, ?_⟩
  · rw [upd2_row, up_ne (by omega)]; exact h2
  · by_cases e : 12 * t + 0 = 246
    · omega
    · rw [up_ne e] at b; exact h3 t ht a b
  · rw [up_ne (by omega)]; exact h4 s hs
  · rw [up_ne (by omega)]; exact h6.1 u a b
  · rw [up_ne (by omega)]; exact h6.2 s a b
  · rw [up_ne (by omega)]; exact h8
/-- the schedule, on both sides -/
def ScR (G : MI) (r : MI) (P nth sc : Nat) : Prop := G P 7 = nI sc ∧ r 0 25 = nI sc ∧ sc ≤ 400 ∧ ∀ i, i < sc → ∃ h, h < nth ∧ G (P + 4) i = nI h ∧ r 19 i = nI h
/-- run(z), on both sides, from an open run -/
theorem go_run {z c0 : Nat} (hT : Stc N G GL r rl F P ng nt ns mem) (hX : FixC c P N) (hP : P + 5 ≤ c) (hcF : c + 35 ≤ F) (hF : FixR b N) (h0 : r 0 0 = nI 0) (hth0 : 1 ≤ nth) (hth : nth ≤ 6) (hrth : r 0 1 = nI nth) (hz1 : 1 ≤ z) (hz : z ≤ 1000) (hSc : ScR G r P nth sc) {k1 : MI} {n1 : Nat → Int32} (hk0 : (k 0 16 = 0 → k1 = upd2 (upd2 k 0 16 (nI 1)) 0 17 (G P 5)) ∧ (¬ k 0 16 = 0 → k1 = k)) (hn0 : n1 = up n 246 (nI 1)) (hst : n 246 ≤ nI 1) (hJ : JI r nt ns mem nth k1 kl n1 q) (h16 : k1 0 16 = nI 1) (hby : ¬ k1 0 2 = 0) (hkth : k1 0 10 = nI nth) (hc0 : n1 240 = nI c0) (hc2 : c0 < 2 ^ 28) :
    ∃ v k' kl' n' q', Cq l D B mX0_goOn [vr (some (c + 0)), vi (nI z)] (pt c 35 k G) (pt c 35 kl GL) N (some (vi v)) (pt c 35 k' G) (pt c 35 kl' GL) ∧ (∀ G2 S GL2, ∃ S2, Cq l D B mX12_run [vr (some (b + 0)), vi (nI z)] (RI b r n G2) (RLg b rl S q GL2) N (some (vi v)) (RI b r n' G2) (RLg b rl S2 q' GL2)) ∧ (∀ f, f = 2 ∨ f = 10 → k' 0 f = k1 0 f) ∧ k' 0 16 = n' 246 ∧ ((n' 246 = nI 1 ∧ JI r nt ns mem nth k' kl' n' q' ∧ ∃ c1, c1 ≤ c0 + z ∧ n' 240 = nI c1) ∨ (n' 246 = nI 2 ∧ OJ r nt ns k' kl' n' q')) := by
  have hnt := hT.2.1.2.1
  have hPP : FixP c P N := hT.1.1.p (Or.inl hP)
  obtain ⟨s1, s2, s3, s4⟩ := hSc
  -- whose turn
  obtain ⟨th, th1, th2, th3⟩ : ∃ th : Nat → Nat, (∀ i, th i < nth) ∧ (∀ i, c0 + i < sc → G (P + 4) (c0 + i) = nI (th i) ∧ r 19 (c0 + i) = nI (th i)) ∧ ∀ i, sc ≤ c0 + i → (c0 + i - sc) % nth = th i := by
    refine ⟨fun i => if c0 + i < sc then (r 19 (c0 + i)).toNatClampNeg else (c0 + i - sc) % nth, fun i => ?_, fun i hi => ?_, fun i hi => ?_⟩
    · show (if c0 + i < sc then (r 19 (c0 + i)).toNatClampNeg else (c0 + i - sc) % nth) < nth
      split
      · obtain ⟨h, y1, y2, y3⟩ := s4 (c0 + i) (by assumption)
        rw [y3, nI_clamp (by omega)]; exact y1
      · exact Nat.mod_lt _ (by omega)
    · obtain ⟨h, y1, y2, y3⟩ := s4 (c0 + i) hi
      simp only [if_pos hi]
      rw [y3, nI_clamp (by omega)]
      exact ⟨y2, rfl⟩
    · simp only [if_neg (show ¬ c0 + i < sc by omega)]
  obtain ⟨m, f, f1, f2, f3, f4, f5, f6⟩ := run_trace (l := l) (D := D) (B := B) hT hX hP hcF hF hth th th1 ((k1, kl), (n1, q)) hJ z
  have hcnt := trace_cnt f4 (c0 := c0) (by rw [f2]; exact hc0)
  have f02 : (f 0).1.1 = k1 := by rw [f2]
  have hnext : ∀ i, i < m → Cq l D B mX0_nextThread [vr (some (c + 0))] (pt c 35 (f i).1.1 G) (pt c 35 (f i).1.2 GL) N (some (vi (nI (th i)))) (pt c 35 (f i).1.1 G) (pt c 35 (f i).1.2 GL) := fun i hi => by
    obtain ⟨e1, e2, e3⟩ := hcnt i (by omega)
    have hS := (f3 i (by omega)).1
    have e13 : (f i).1.1 0 13 = nI (c0 + i) := hS.t13.trans e1
    have eby : ¬ (f i).1.1 0 2 = 0 := by rw [e3 2 (by omega), f02]; exact hby
    by_cases hlt : c0 + i < sc
    · have h := c_next_sch (l := l) (D := D) (B := B) (L := pt c 35 (f i).1.2 GL) (k := (f i).1.1) (G := G) hX hPP eby s1 s3 e13 hlt
      rw [(th2 i hlt).1] at h
      exact h
    · have h := c_next_beh (l := l) (D := D) (B := B) (L := pt c 35 (f i).1.2 GL) (k := (f i).1.1) (G := G) hX hPP eby s1 e13 (by omega) (by omega) (by rw [e3 10 (by omega), f02]; exact hkth) (by omega) hth
      rw [th3 i (by omega)] at h
      exact h
  have hL : ∀ i, i ≤ m → (f i).1.1 0 17 = (f i).2.1 247 := fun i hi => (f3 i hi).2.1
  have hx : nI 1 ≤ nI z ∧ nI z ≤ nI 1000 := ⟨(nI_leI (by omega) (by omega)).mpr hz1, (nI_leI (by omega) (by omega)).mpr hz⟩
  have f0n : (f 0).2.1 = up n 246 (nI 1) := by rw [f2]; exact hn0
  have h246 : (f m).2.1 246 = nI 1 := by rw [(hcnt m (Nat.le_refl m)).2.1, f0n, up_s]
  by_cases hleft : 0 < (f m).2.1 247
  · have hc := c_goOn_open (l := l) (D := D) (B := B) (k := k) (G := G) (kl := kl) (GL := GL) hX hPP (n := z) (m := m) (Km := fun i => (f i).1.1) (Kl := fun i => (f i).1.2) (th := th) (by omega) f1 (by rw [f02]; exact hk0) (by rw [f2]) hnext (fun i hi => (f4 i hi).1) (fun i hi => by rw [hL i (by omega)]; exact f5 i hi) (f6.elim Or.inl (fun y => Or.inr (by rw [hL m (Nat.le_refl m)]; exact y))) (by rw [hL m (Nat.le_refl m)]; exact hleft)
    refine ⟨nI 0, _, _, _, _, hc, fun G2 S GL2 => ?_, fun j hj => ?_, by rw [(hcnt m (Nat.le_refl m)).2.2 16 (by omega), f02, h16, h246], Or.inl ⟨h246, f3 m (Nat.le_refl m), c0 + m, by omega, (hcnt m (Nat.le_refl m)).1⟩⟩
    · obtain ⟨SS, q1, q2⟩ := trace_S f4 G2 S GL2
      exact ⟨SS m, n_run_open (l := l) (D := D) (B := B) (b := b) (r := r) (G := G2) (rl := rl) (GL := GL2) hF h0 (z := z) (m := m) (c0 := c0) (sc := sc) (nth := nth) (hs := th) (nn := fun i => (f i).2.1) (qq := fun i => (f i).2.2) (SS := SS) hx hz hst f1 f0n (by rw [f2]) q1 s2 s3 hrth hth0 hth (by omega) q2 (fun i hi hlt => (th2 i hlt).2) (fun i hi hle => th3 i hle) (fun i hi => (hcnt i hi).1) f5 f6 hleft⟩
    · rw [(hcnt m (Nat.le_refl m)).2.2 j (by omega), f02]
  · have hle := Int32.not_lt.mp hleft
    obtain ⟨k', kl', n', q', x1, x2, x3, x4, x5, x6⟩ := over_sim (l := l) (D := D) (B := B) hT hX hP hcF hF (f3 m (Nat.le_refl m))
    have hc := c_goOn_over (l := l) (D := D) (B := B) (k := k) (G := G) (kl := kl) (GL := GL) hX hPP (n := z) (m := m) (Km := fun i => (f i).1.1) (Kl := fun i => (f i).1.2) (th := th) (by omega) f1 (by rw [f02]; exact hk0) (by rw [f2]) hnext (fun i hi => (f4 i hi).1) (fun i hi => by rw [hL i (by omega)]; exact f5 i hi) (f6.elim Or.inl (fun y => Or.inr (by rw [hL m (Nat.le_refl m)]; exact y))) (by rw [hL m (Nat.le_refl m)]; exact hle) x1
    have e15 : k' 0 15 = n' 245 := x3.1.t15
    rw [e15] at hc
    refine ⟨if n' 245 = -9 then nI 2 else nI 1, _, _, _, _, hc, fun G2 S GL2 => ?_, fun j hj => ?_, by rw [upd2_row, up_s, up_s], Or.inr ⟨up_s _ _ _, x3.set⟩⟩
    · obtain ⟨SS, q1, q2⟩ := trace_S f4 G2 S GL2
      obtain ⟨S2, q3⟩ := x2 G2 (SS m) GL2
      exact ⟨S2, n_run_over (l := l) (D := D) (B := B) (b := b) (r := r) (G := G2) (rl := rl) (GL := GL2) hF h0 (z := z) (m := m) (c0 := c0) (sc := sc) (nth := nth) (hs := th) (nn := fun i => (f i).2.1) (qq := fun i => (f i).2.2) (SS := SS) hx hz hst f1 f0n (by rw [f2]) q1 s2 s3 hrth hth0 hth (by omega) q2 (fun i hi hlt => (th2 i hlt).2) (fun i hi hle => th3 i hle) (fun i hi => (hcnt i hi).1) f5 f6 hle q3⟩
    · show upd2 k' 0 16 (nI 2) 0 j = _
      rw [upd2_row, up_ne (by omega), x6 j, (hcnt m (Nat.le_refl m)).2.2 j (by omega), f02]
end GO

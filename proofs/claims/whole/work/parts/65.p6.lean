/-! ===== a step of a task on both sides: ways ===== -/
def LSr (r : MI) (nt : Nat) (kl : ML) (q : Nat → Int64) : Prop := ∀ t, t < nt → (r 6 t = nI 2 ∨ r 6 t = nI 3) → kl (7 + t) 10 = q t
def LSs (r : MI) (nt : Nat) (n : Nat → Int32) (kl : ML) (q : Nat → Int64) : Prop := ∀ t, t < nt → r 6 t = nI 4 → (n (12 * t + 8) = 0 → kl (7 + t) 9 = 0) ∧ (¬ n (12 * t + 8) = 0 → kl (7 + t) 9 = q t)
def LSh (ns : Nat) (n : Nat → Int32) (kl : ML) (q : Nat → Int64) : Prop := ∀ s, s < ns → kl (27 + s) 2 = q (28 + s) ∧ (n (302 + s) = -9 → kl (27 + s) 0 = 0 ∧ q (20 + s) = -9223372036854775808) ∧ (¬ n (302 + s) = -9 → kl (27 + s) 0 = q (20 + s))
def LSa (r : MI) (nt ns : Nat) (n : Nat → Int32) (kl : ML) (q : Nat → Int64) : Prop := LSr r nt kl q ∧ LSs r nt n kl q ∧ LSh ns n kl q
def mu (n : Nat → Int32) (t : Nat) : Nat := 14 * (n (12 * t + 7)).toNatClampNeg + (n (12 * t + 8)).toNatClampNeg
/-- a step of task t: from k, kl, n, q (its turn counted) to k2, kl2, n2, q2 with the state v -/
def StepRes (r : MI) (nt ns t : Nat) (k : MI) (n : Nat → Int32) (q : Nat → Int64) (k2 : MI) (kl2 : ML) (v : Nat) (n2 : Nat → Int32) (q2 : Nat → Int64) : Prop :=
  (v = 1 ∨ v = 2 ∨ v = 3) ∧ Sim ns (upd2 k2 (7 + t) 2 (k2 (7 + t) 2 + nI 1)) (up n2 (12 * t + 0) (nI v)) ∧ (∀ a, a ≠ 7 + t → a < 27 → k2 a = k a) ∧ (∀ j, j < 302 → (j < 12 * t ∨ 12 * t + 12 ≤ j ∨ j = 12 * t + 0 ∨ j = 12 * t + 3 ∨ j = 12 * t + 5 ∨ j = 12 * t + 10 ∨ j = 12 * t + 11) → n2 j = n j) ∧ n2 (12 * t + 2) = n (12 * t + 2) + nI 1 ∧ LSa r nt ns n2 kl2 q2 ∧ (v = 1 → PIp r n2 t ∧ PIr r n2 t ∧ PIs r n2 t) ∧ (v = 3 → ¬ r 6 t = nI 4 → n2 (12 * t + 1) = wf r t) ∧ (v ≠ 3 → n2 (12 * t + 1) = n (12 * t + 1)) ∧ (v = 1 → r 6 t = nI 4 → mu n t < mu n2 t) ∧ (r 6 t = nI 4 → n2 (12 * t + 6) = n (12 * t + 6)) ∧ ∀ s, ns ≤ s → s < 8 → n2 (302 + s) = n (302 + s) ∧ q2 (20 + s) = q (20 + s)
theorem nine {Q : Nat → Prop} (h0 : Q 0) (h1 : Q 1) (h2 : Q 2) (h3 : Q 3) (h4 : Q 4) (h5 : Q 5) (h6 : Q 6) (h7 : Q 7) (h8 : Q 8) : ∀ f, f < 9 → Q f := by
  intro f hf
  rcases (show f = 0 ∨ f = 1 ∨ f = 2 ∨ f = 3 ∨ f = 4 ∨ f = 5 ∨ f = 6 ∨ f = 7 ∨ f = 8 by omega) with rfl | rfl | rfl | rfl | rfl | rfl | rfl | rfl | rfl <;> assumption
section ROW
variable {ns t : Nat} {k k' : MI} {n n' : Nat → Int32}
theorem Sim.row (h : Sim ns k n) (ht : t < 20) (hk : ∀ a, a ≠ 7 + t → a < 27 → k' a = k a) (hb : ∀ s, s < ns → k' (27 + s) 1 = n' (302 + s)) (hn : ∀ j, j < 302 → (j < 12 * t ∨ 12 * t + 12 ≤ j) → n' j = n j) (hf : ∀ f, f < 9 → k' (7 + t) f = n' (12 * t + f)) (h11 : k' (7 + t) 11 = n' (12 * t + 10)) (h12 : k' (7 + t) 12 = n' (12 * t + 11)) : Sim ns k' n' := by
  intro j hj
  by_cases a1 : j < 240
  · obtain ⟨u, f, hf12, rfl⟩ : ∃ u f, f < 12 ∧ j = 12 * u + f := ⟨j / 12, j % 12, by omega, by omega⟩
    have hu : u < 20 := by omega
    have h9 : f ≠ 9 := fun q => by
      subst q
      unfold Mp at hj
      omega
    by_cases e : u = t
    · subst e
      rcases (show f < 9 ∨ f = 10 ∨ f = 11 by omega) with q | q | q
      · rw [lo_t hu q]; exact hf f q
      · subst q; rw [lo_s hu]; exact h11
      · subst q; rw [lo_i hu]; exact h12
    · rw [hn _ (by omega) (by omega), ← h _ hj]
      have : (lo (12 * u + f)).1 = 7 + u := by
        unfold lo
        rw [if_pos a1]
        show 7 + (12 * u + f) / 12 = 7 + u
        omega
      rw [this, hk (7 + u) (by omega) (by omega)]
  · by_cases a2 : j < 302
    · rw [hn j a2 (by omega), ← h j hj]
      have q : (lo j).1 < 7 := by
        unfold lo
        rw [if_neg a1]
        repeat' split
        all_goals (simp only; omega)
      rw [hk _ (by omega) (by omega)]
    · obtain ⟨s, rfl⟩ : ∃ s, j = 302 + s := ⟨j - 302, by omega⟩
      rw [lo_b]
      refine hb s ?_
      unfold Mp at hj
      omega
end ROW
theorem shl_ok : ∀ st, st < 17 → (1 : Int64) <<< ((nI st).toInt64 &&& 63) = lN (2 ^ st) := by decide +kernel
section WAY
variable {l : Launch} {D : va_G} {B b : Nat} {N : NT} {G : MI} {GL : ML} {r : MI} {rl : ML} {F P ng nt ns mem c t a : Nat} {k : MI} {n : Nat → Int32} {kl : ML} {q : Nat → Int64}
theorem step_way (hT : Stc N G GL r rl F P ng nt ns mem) (hX : FixC c P N) (hcF : c + 35 ≤ F) (hF : FixR b N) (ht : t < nt) (hFa : F ≤ a) (hs : N.2.1 a = (8, 6)) (hso : r 6 t = nI 0 ∨ r 6 t = nI 1) (g0 : G a 0 = r 6 t) (g3 : G a 3 = r 7 t) (g5 : G a 5 = r 9 t) (hf : ∃ f, f < 2 ^ 31 ∧ r 9 t = nI f)
    (hS : Sim ns k n) (h1 : n (12 * t + 0) = nI 1) (h00 : n (12 * t + 1) = 0) (hPI : PIp r n t) (hLS : LSa r nt ns n kl q) :
    ∃ k2 v n2, StepC l D B c N a (7 + t) k kl G GL k2 kl ∧ (∀ G2 L, Cq l D B mX12_plain [vr (some (b + 0)), vi (nI t)] (RI b r (up n (12 * t + 2) (n (12 * t + 2) + nI 1)) G2) L N (some (vi (nI v))) (RI b r n2 G2) L) ∧ StepRes r nt ns t k n q k2 kl v n2 q := by
  have hnt := hT.2.1.2.1
  have ht20 : t < 20 := by omega
  obtain ⟨p, Q, st, i1, i2, i3, i4, i5, i6⟩ := hPI hso
  obtain ⟨f, f1, f2⟩ := hf
  obtain ⟨m, hm0, hm1⟩ : ∃ m, (r 6 t = nI 1 → m = p + 1) ∧ (¬ r 6 t = nI 1 → m = 1) := by
    by_cases q : r 6 t = nI 1
    · exact ⟨p + 1, fun _ => rfl, fun z => absurd q z⟩
    · exact ⟨1, fun z => absurd z q, fun _ => rfl⟩
  have hm3 : 1 ≤ m ∧ m ≤ p + 1 := by
    by_cases q : r 6 t = nI 1
    · have := hm0 q; omega
    · have := hm1 q; omega
  have hp : k (7 + t) 4 = nI p := (hS.tr ht20 (by omega)).trans i1
  have hcw := c_Way_step (l := l) (D := D) (B := B) (L := pt c 35 kl GL) hX.b (w := some (c + 2)) (a := a) (o := 7 + t) (p := p) (Q := Q) (m := m) (f := f) hs (Or.inr (by omega)) (shC_w ht20) (g3.trans i2) (by omega) (g5.trans f2) f1 hp (by omega) (fun z => hm0 (g0.symm.trans z)) (fun z => hm1 (fun y => z (g0.trans y))) (by omega)
  have hst1 : (n (12 * t + 2) + nI 1) = nI (st + 1) := by rw [i5, nI_add]
  have hrf : ∀ G2 L, _ := fun G2 L => n_plain (l := l) (D := D) (B := B) (b := b) (G := G2) (L := L) (r := r) (n := up n (12 * t + 2) (n (12 * t + 2) + nI 1)) hF (t := t) (p := p) (Q := Q) (m := m) (f := f) ht20 (by rw [up_ne (by omega)]; exact i1) i2 (by omega) (by omega) f2 f1 ⟨fun z => by
      have e : m = 1 := hm1 (fun y => absurd (z.symm.trans y) (by decide))
      rw [e]; rfl, fun z => by
      have e1 : r 6 t = nI 1 := hso.elim (fun y => absurd y (fun w => z (w.trans rfl))) id
      have e2 := i6 e1
      have e3 : st < 17 := Nat.lt_of_not_le (fun w => by
        have := Nat.pow_le_pow_right (n := 2) (by omega) w
        have h17 : 2 ^ 17 = 131072 := by decide
        omega)
      rw [up_s, hst1, pk_sub (by omega), show st + 1 - 1 = st by omega, shl_ok st e3, hm0 e1, e2]⟩ (by omega)
  obtain ⟨R, hR⟩ : ∃ R, plR p Q m = R := ⟨_, rfl⟩
  have hRb : R ≤ Q ∧ (R = Q ∨ R = p + m) := by rw [← hR]; unfold plR; omega
  unfold F_ws at hcw
  unfold F_plV F_plN at hrf
  rw [hR] at hcw
  simp only [hR] at hrf
  have hLS' : ∀ n2 : Nat → Int32, (∀ j, j < 310 → (j < 12 * t ∨ 12 * t + 12 ≤ j) → n2 j = n j) → LSa r nt ns n2 kl q := by
    intro n2 hn2
    have hns := hT.2.2.1.2.1
    refine ⟨hLS.1, fun u hu h4 => ?_, fun s hs => ?_⟩
    · have e : u ≠ t := fun z => by
        subst z
        rcases hso with y | y <;> exact absurd (h4.symm.trans y) (by decide)
      rw [hn2 _ (by omega) (by omega)]
      exact hLS.2.1 u hu h4
    · rw [hn2 _ (by omega) (by omega)]
      exact hLS.2.2 s hs
  have sim : ∀ (k2 : MI) (n2 : Nat → Int32) (v : Nat), (∀ a, a ≠ 7 + t → k2 a = k a) → (∀ j, j < 310 → (j < 12 * t ∨ 12 * t + 12 ≤ j) → n2 j = n j) → k2 (7 + t) 0 = nI v → k2 (7 + t) 1 = n2 (12 * t + 1) → k2 (7 + t) 2 = k (7 + t) 2 → n2 (12 * t + 2) = n (12 * t + 2) + nI 1 → k2 (7 + t) 4 = n2 (12 * t + 4) → (∀ f, f = 3 ∨ f = 5 ∨ f = 6 ∨ f = 7 ∨ f = 8 ∨ f = 11 ∨ f = 12 → k2 (7 + t) f = k (7 + t) f) → (∀ f, f = 3 ∨ f = 5 ∨ f = 6 ∨ f = 7 ∨ f = 8 ∨ f = 10 ∨ f = 11 → n2 (12 * t + f) = n (12 * t + f)) → Sim ns (upd2 k2 (7 + t) 2 (k2 (7 + t) 2 + nI 1)) (up n2 (12 * t + 0) (nI v)) := by
    intro k2 n2 v x1 x2 x3 x4 x5 x6 x7 x8 x9
    have hns := hT.2.2.1.2.1
    refine hS.row ht20 (fun a ha _ => by rw [upd2_ne ha]; exact x1 a ha) (fun s hs => ?_) (fun j hj hj2 => by rw [up_ne (by omega)]; exact x2 j (by omega) hj2) (nine ?_ ?_ ?_ ?_ ?_ ?_ ?_ ?_ ?_) ?_ ?_
    · rw [upd2_ne (by omega), x1 _ (by omega), up_ne (by omega), x2 _ (by omega) (by omega)]
      exact hS.tb hs
    · rw [upd2_row, up_ne (by omega), up_s]; exact x3
    · rw [upd2_row, up_ne (by omega), up_ne (by omega)]; exact x4
    · rw [upd2_row, up_s, up_ne (by omega), x6, x5, hS.tr ht20 (by omega)]
    · rw [upd2_row, up_ne (by omega), up_ne (by omega), x8 3 (by omega), x9 3 (by omega)]; exact hS.tr ht20 (by omega)
    · rw [upd2_row, up_ne (by omega), up_ne (by omega)]; exact x7
    · rw [upd2_row, up_ne (by omega), up_ne (by omega), x8 5 (by omega), x9 5 (by omega)]; exact hS.tr ht20 (by omega)
    · rw [upd2_row, up_ne (by omega), up_ne (by omega), x8 6 (by omega), x9 6 (by omega)]; exact hS.tr ht20 (by omega)
    · rw [upd2_row, up_ne (by omega), up_ne (by omega), x8 7 (by omega), x9 7 (by omega)]; exact hS.tr ht20 (by omega)
    · rw [upd2_row, up_ne (by omega), up_ne (by omega), x8 8 (by omega), x9 8 (by omega)]; exact hS.tr ht20 (by omega)
    · rw [upd2_row, up_ne (by omega), up_ne (by omega), x8 11 (by omega), x9 10 (by omega)]; exact hS.ts ht20
    · rw [upd2_row, up_ne (by omega), up_ne (by omega), x8 12 (by omega), x9 11 (by omega)]; exact hS.ti ht20
  have k1 : k (7 + t) 1 = n (12 * t + 1) := hS.tr ht20 (by omega)
  have k0 : k (7 + t) 0 = nI 1 := (hS.tr ht20 (by omega)).trans h1
  have ns4 : ¬ r 6 t = nI 4 := fun z => by rcases hso with y | y <;> exact absurd (z.symm.trans y) (by decide)
  by_cases hfa : p < f ∧ f ≤ R
  · rw [if_pos hfa] at hcw
    simp only [if_pos hfa] at hrf
    refine ⟨_, 3, _, Or.inl ⟨hs, hcw⟩, hrf, Or.inr (Or.inr rfl), sim _ _ _ (fun a ha => ?_) (fun j hj hj2 => ?_) ?_ ?_ ?_ ?_ ?_ (fun f hf => ?_) (fun f hf => ?_), fun a ha _ => ?_, fun j hj hj2 => ?_, ?_, hLS' _ (fun j hj hj2 => ?_), fun z => absurd z (by decide), fun _ _ => ?_, fun z => absurd rfl z, fun z => absurd z (by decide), fun y => absurd y ns4, fun s h8 h9 => ⟨?_, rfl⟩⟩
    all_goals try (simp (disch := omega) only [upd2_row, upd2_ne, up_ne, up_s]; done)
    · simp (disch := omega) only [upd2_row, upd2_ne, up_ne, up_s]
      unfold wf; rw [if_pos hso]
  · rw [if_neg hfa] at hcw
    simp only [if_neg hfa] at hrf
    by_cases hRQ : R = Q
    · rw [if_pos hRQ] at hcw
      simp only [if_pos hRQ] at hrf
      refine ⟨_, 2, _, Or.inl ⟨hs, hcw⟩, hrf, Or.inr (Or.inl rfl), sim _ _ _ (fun a ha => ?_) (fun j hj hj2 => ?_) ?_ ?_ ?_ ?_ ?_ (fun f hf => ?_) (fun f hf => ?_), fun a ha _ => ?_, fun j hj hj2 => ?_, ?_, hLS' _ (fun j hj hj2 => ?_), fun z => absurd z (by decide), fun z => absurd z (by decide), fun _ => ?_, fun z => absurd z (by decide), fun y => absurd y ns4, fun s h8 h9 => ⟨?_, rfl⟩⟩
      all_goals try (simp (disch := omega) only [upd2_row, upd2_ne, up_ne, up_s]; done)
      · simp (disch := omega) only [upd2_row, upd2_ne, up_ne, up_s]; exact k1
    · rw [if_neg hRQ] at hcw
      simp only [if_neg hRQ] at hrf
      refine ⟨_, 1, _, Or.inl ⟨hs, hcw⟩, hrf, Or.inl rfl, sim _ _ _ (fun a ha => ?_) (fun j hj hj2 => ?_) ?_ ?_ ?_ ?_ ?_ (fun f hf => ?_) (fun f hf => ?_), fun a ha _ => ?_, fun j hj hj2 => ?_, ?_, hLS' _ (fun j hj hj2 => ?_), fun _ => ⟨fun _ => ⟨R, Q, st + 1, ?_, i2, by omega, i4, ?_, fun e1 => ?_⟩, fun z => ?_, fun z => absurd z ns4⟩, fun z => absurd z (by decide), fun _ => ?_, fun _ z => absurd z ns4, fun y => absurd y ns4, fun s h8 h9 => ⟨?_, rfl⟩⟩
      all_goals try (simp (disch := omega) only [upd2_row, upd2_ne, up_ne, up_s]; done)
      · simp (disch := omega) only [upd2_row, upd2_ne, up_ne, up_s]; exact k0
      · simp (disch := omega) only [upd2_row, upd2_ne, up_ne, up_s]; exact k1
      · simp (disch := omega) only [upd2_row, upd2_ne, up_ne, up_s]; exact hst1
      · have e2 := i6 e1
        have e3 := hm0 e1
        rw [Nat.pow_succ]
        omega
      · exfalso
        rcases hso with y | y <;> rcases z with w | w <;> exact absurd (y.symm.trans w) (by decide)
end WAY

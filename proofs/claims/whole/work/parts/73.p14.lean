/-! ===== a run begins, on both sides ===== -/
section BG
variable {n : Nat → Int32} {r : MI} {rl : ML} {q : Nat → Int64} {k : MI} {kl : ML}
theorem l1_at : ∀ (m j : Nat), j < m → F_l1 n m j = nI 0
  | 0, j, h => absurd h (Nat.not_lt_zero j)
  | m + 1, j, h => by
    show up (F_l1 n m) m (nI 0) j = _
    by_cases e : j = m
    · subst e; rw [up_s]
    · rw [up_ne e]; exact l1_at m j (by omega)
theorem l2_hit {t : Nat} : ∀ (m : Nat), t < m → F_l2 n m (12 * t + 5) = -9
  | 0, h => absurd h (Nat.not_lt_zero t)
  | m + 1, h => by
    show up (F_l2 n m) (12 * m + 5) (-9) (12 * t + 5) = _
    by_cases e : t = m
    · subst e; rw [up_s]
    · rw [up_ne (by omega)]; exact l2_hit m (by omega)
theorem l2_miss {j : Nat} : ∀ (m : Nat), (∀ t, t < m → j ≠ 12 * t + 5) → F_l2 n m j = n j
  | 0, _ => rfl
  | m + 1, hj => by
    show up (F_l2 n m) (12 * m + 5) (-9) j = _
    rw [up_ne (hj m (by omega))]; exact l2_miss m (fun t ht => hj t (by omega))
theorem l3_hit {h : Nat} : ∀ (m : Nat), h < m → F_l3 n m (250 + h) = -9
  | 0, q => absurd q (Nat.not_lt_zero h)
  | m + 1, q => by
    show up (F_l3 n m) (250 + m) (-9) (250 + h) = _
    by_cases e : h = m
    · subst e; rw [up_s]
    · rw [up_ne (by omega)]; exact l3_hit m (by omega)
theorem l3_miss {j : Nat} : ∀ (m : Nat), (j < 250 ∨ 250 + m ≤ j) → F_l3 n m j = n j
  | 0, _ => rfl
  | m + 1, hj => by
    show up (F_l3 n m) (250 + m) (-9) j = _
    rw [up_ne (by omega)]; exact l3_miss m (by omega)
theorem l4_hit {s : Nat} : ∀ (m : Nat), s < m → F_l4 n m (302 + s) = -9
  | 0, q => absurd q (Nat.not_lt_zero s)
  | m + 1, q => by
    show up (F_l4 n m) (302 + m) (-9) (302 + s) = _
    by_cases e : s = m
    · subst e; rw [up_s]
    · rw [up_ne (by omega)]; exact l4_hit m (by omega)
theorem l4_miss {j : Nat} : ∀ (m : Nat), (j < 302 ∨ 302 + m ≤ j) → F_l4 n m j = n j
  | 0, _ => rfl
  | m + 1, hj => by
    show up (F_l4 n m) (302 + m) (-9) j = _
    rw [up_ne (by omega)]; exact l4_miss m (by omega)
theorem q2_hit {t : Nat} : ∀ (m : Nat), t < m → F_q2 q m t = 0
  | 0, h => absurd h (Nat.not_lt_zero t)
  | m + 1, h => by
    show up (F_q2 q m) m 0 t = _
    by_cases e : t = m
    · subst e; rw [up_s]
    · rw [up_ne e]; exact q2_hit m (by omega)
theorem q4_miss {j : Nat} : ∀ (m : Nat), m ≤ 8 → j < 20 → F_q4 rl q m j = q j
  | 0, _, _ => rfl
  | m + 1, h, hj => by
    show up (up (F_q4 rl q m) (20 + m) _) (28 + m) _ j = _
    rw [up_ne (by omega), up_ne (by omega)]; exact q4_miss m (by omega) hj
theorem q4_a {s : Nat} : ∀ (m : Nat), m ≤ 8 → s < m → F_q4 rl q m (20 + s) = -9223372036854775808
  | 0, _, h => absurd h (Nat.not_lt_zero s)
  | m + 1, h, hs => by
    show up (up (F_q4 rl q m) (20 + m) _) (28 + m) _ (20 + s) = _
    rw [up_ne (by omega)]
    by_cases e : s = m
    · subst e; rw [up_s]
    · rw [up_ne (by omega)]; exact q4_a m (by omega) (by omega)
theorem q4_b {s : Nat} : ∀ (m : Nat), m ≤ 8 → s < m → F_q4 rl q m (28 + s) = rl 18 s
  | 0, _, h => absurd h (Nat.not_lt_zero s)
  | m + 1, h, hs => by
    show up (up (F_q4 rl q m) (20 + m) _) (28 + m) (rl 18 m) (28 + s) = _
    by_cases e : s = m
    · subst e; rw [up_s]
    · rw [up_ne (by omega), up_ne (by omega)]; exact q4_b m (by omega) (by omega)
theorem bg_row {t j : Nat} (ht : t < 20) (hj : j < 12) (h5 : j ≠ 5) : F_bgN r n (12 * t + j) = nI 0 := by
  unfold F_bgN
  rw [up_ne (by omega), up_ne (by omega), up_ne (by omega), up_ne (by omega), l4_miss 8 (by omega), l3_miss 6 (by omega), l2_miss 20 (fun u hu => by omega), l1_at 310 _ (by omega)]
theorem bg_5 {t : Nat} (ht : t < 20) : F_bgN r n (12 * t + 5) = -9 := by
  unfold F_bgN
  rw [up_ne (by omega), up_ne (by omega), up_ne (by omega), up_ne (by omega), l4_miss 8 (by omega), l3_miss 6 (by omega), l2_hit 20 ht]
theorem bg_z {j : Nat} (hj : j = 240 ∨ j = 241 ∨ j = 243 ∨ j = 244 ∨ j = 246 ∨ (256 ≤ j ∧ j < 302)) : F_bgN r n j = nI 0 := by
  unfold F_bgN
  rw [up_ne (by omega), up_ne (by omega), up_ne (by omega), up_ne (by omega), l4_miss 8 (by omega), l3_miss 6 (by omega), l2_miss (j := j) 20 (fun u hu => by omega), l1_at 310 _ (by omega)]
theorem bg_h {h : Nat} (hh : h < 6) : F_bgN r n (250 + h) = -9 := by
  unfold F_bgN
  rw [up_ne (by omega), up_ne (by omega), up_ne (by omega), up_ne (by omega), l4_miss 8 (by omega), l3_hit 6 hh]
theorem bg_b {s : Nat} (hs : s < 8) : F_bgN r n (302 + s) = -9 := by
  unfold F_bgN
  rw [up_ne (by omega), up_ne (by omega), up_ne (by omega), up_ne (by omega), l4_hit 8 hs]
theorem bg_242 : F_bgN r n 242 = r 0 2 := by
  unfold F_bgN
  rw [up_ne (by omega), up_ne (by omega), up_ne (by omega), up_s]
theorem bg_245 : F_bgN r n 245 = -9 := by
  unfold F_bgN
  rw [up_ne (by omega), up_ne (by omega), up_s]
theorem bg_247 : F_bgN r n 247 = r 0 10 := by
  unfold F_bgN
  rw [up_ne (by omega), up_s]
theorem bg_248 : F_bgN r n 248 = r 0 10 := by
  unfold F_bgN
  rw [up_s]
-- the class's side
theorem wb_ne {o a : Nat} (h : a ≠ o) : W_begin k o a = k a := by
  unfold W_begin
  simp (disch := omega) only [upd2_ne]
theorem wb_0 {o f : Nat} (h : f < 9 ∨ f = 11 ∨ f = 12) (h5 : f ≠ 5) : W_begin k o o f = nI 0 := by
  unfold W_begin
  simp only [upd2_row]
  rcases (show f = 0 ∨ f = 1 ∨ f = 2 ∨ f = 3 ∨ f = 4 ∨ f = 6 ∨ f = 7 ∨ f = 8 ∨ f = 11 ∨ f = 12 by omega) with rfl | rfl | rfl | rfl | rfl | rfl | rfl | rfl | rfl | rfl <;> simp (disch := omega) only [up_ne, up_s]
theorem wb_5 {o : Nat} : W_begin k o o 5 = -9 := by
  unfold W_begin
  simp only [upd2_row]
  simp (disch := omega) only [up_ne, up_s]
theorem bw_miss {a : Nat} : ∀ (m : Nat), (a < 7 ∨ 7 + m ≤ a) → F_bwK k m a = k a
  | 0, _ => rfl
  | m + 1, h => by
    show W_begin (F_bwK k m) (7 + m) a = _
    rw [wb_ne (by omega)]; exact bw_miss m (by omega)
theorem bw_0 {t f : Nat} (h : f < 9 ∨ f = 11 ∨ f = 12) (h5 : f ≠ 5) : ∀ (m : Nat), t < m → F_bwK k m (7 + t) f = nI 0
  | 0, q => absurd q (Nat.not_lt_zero t)
  | m + 1, q => by
    show W_begin (F_bwK k m) (7 + m) (7 + t) f = _
    by_cases e : t = m
    · subst e; exact wb_0 h h5
    · rw [wb_ne (by omega)]; exact bw_0 h h5 m (by omega)
theorem bw_5 {t : Nat} : ∀ (m : Nat), t < m → F_bwK k m (7 + t) 5 = -9
  | 0, q => absurd q (Nat.not_lt_zero t)
  | m + 1, q => by
    show W_begin (F_bwK k m) (7 + m) (7 + t) 5 = _
    by_cases e : t = m
    · subst e; exact wb_5
    · rw [wb_ne (by omega)]; exact bw_5 m (by omega)
theorem bwl_miss {a : Nat} : ∀ (m : Nat), (a < 7 ∨ 7 + m ≤ a) → F_bwL kl m a = kl a
  | 0, _ => rfl
  | m + 1, h => by
    show upd2 (upd2 (F_bwL kl m) (7 + m) 9 0) (7 + m) 10 0 a = _
    rw [upd2_ne (by omega), upd2_ne (by omega)]; exact bwl_miss m (by omega)
theorem bwl_0 {t : Nat} : ∀ (m : Nat), t < m → F_bwL kl m (7 + t) 9 = 0 ∧ F_bwL kl m (7 + t) 10 = 0
  | 0, q => absurd q (Nat.not_lt_zero t)
  | m + 1, q => by
    show upd2 (upd2 (F_bwL kl m) (7 + m) 9 0) (7 + m) 10 0 (7 + t) 9 = 0 ∧ upd2 (upd2 (F_bwL kl m) (7 + m) 9 0) (7 + m) 10 0 (7 + t) 10 = 0
    by_cases e : t = m
    · subst e
      simp (disch := omega) only [upd2_row, up_ne, up_s, and_self]
    · rw [upd2_ne (by omega), upd2_ne (by omega)]; exact bwl_0 m (by omega)
theorem bh_miss {a : Nat} : ∀ (m : Nat), a < 27 → F_bhK k m a = k a
  | 0, _ => rfl
  | m + 1, h => by
    show upd2 (F_bhK k m) (27 + m) 1 (-9) a = _
    rw [upd2_ne (by omega)]; exact bh_miss m h
theorem bh_hit {s : Nat} : ∀ (m : Nat), s < m → F_bhK k m (27 + s) 1 = -9
  | 0, q => absurd q (Nat.not_lt_zero s)
  | m + 1, q => by
    show upd2 (F_bhK k m) (27 + m) 1 (-9) (27 + s) 1 = _
    by_cases e : s = m
    · subst e; rw [upd2_row, up_s]
    · rw [upd2_ne (by omega)]; exact bh_hit m (by omega)
theorem bhl_miss {N : NT} {P a : Nat} {GL : ML} : ∀ (m : Nat), a < 27 → F_bhL N P GL kl m a = kl a
  | 0, _ => rfl
  | m + 1, h => by
    show upd2 (upd2 (F_bhL N P GL kl m) (27 + m) 0 0) (27 + m) 2 _ a = _
    rw [upd2_ne (by omega), upd2_ne (by omega)]; exact bhl_miss m h
theorem bhl_hit {N : NT} {P s : Nat} {GL : ML} : ∀ (m : Nat), s < m → F_bhL N P GL kl m (27 + s) 0 = 0 ∧ F_bhL N P GL kl m (27 + s) 2 = GL ((N.1 (P + 3) s).getD 0) 3
  | 0, q => absurd q (Nat.not_lt_zero s)
  | m + 1, q => by
    show upd2 (upd2 (F_bhL N P GL kl m) (27 + m) 0 0) (27 + m) 2 (GL ((N.1 (P + 3) m).getD 0) 3) (27 + s) 0 = 0 ∧ upd2 (upd2 (F_bhL N P GL kl m) (27 + m) 0 0) (27 + m) 2 (GL ((N.1 (P + 3) m).getD 0) 3) (27 + s) 2 = _
    by_cases e : s = m
    · subst e
      simp (disch := omega) only [upd2_row, up_ne, up_s, and_self]
    · rw [upd2_ne (by omega), upd2_ne (by omega)]; exact bhl_hit m (by omega)
theorem b3_miss {a : Nat} (h4 : a ≠ 4) (h5 : a ≠ 5) : ∀ (m : Nat), F_b3 k m a = k a
  | 0 => rfl
  | m + 1 => by
    show upd2 (upd2 (F_b3 k m) 4 m (-9)) 5 m (nI 0) a = _
    rw [upd2_ne h5, upd2_ne h4]; exact b3_miss h4 h5 m
theorem b3_hit {i : Nat} : ∀ (m : Nat), i < m → F_b3 k m 4 i = -9 ∧ F_b3 k m 5 i = nI 0
  | 0, q => absurd q (Nat.not_lt_zero i)
  | m + 1, q => by
    show upd2 (upd2 (F_b3 k m) 4 m (-9)) 5 m (nI 0) 4 i = -9 ∧ upd2 (upd2 (F_b3 k m) 4 m (-9)) 5 m (nI 0) 5 i = nI 0
    by_cases e : i = m
    · subst e
      simp (disch := omega) only [upd2_row, upd2_ne, up_ne, up_s, and_self]
    · have ih := b3_hit m (show i < m by omega)
      simp (disch := omega) only [upd2_row, upd2_ne, up_ne, up_s]
      exact ih
theorem b4_row {x : Int32} {a : Nat} (h : a ≠ 0) : F_b4 k x a = k a := by
  unfold F_b4
  simp (disch := omega) only [upd2_ne]
end BG
/-- a run that is begun: the reference's side -/
def Fr (r : MI) (nt : Nat) (n : Nat → Int32) (q : Nat → Int64) : Prop := (∀ t, t < 20 → ∀ j, j < 12 → j ≠ 5 → n (12 * t + j) = 0) ∧ (n 242 = r 0 2 ∧ n 245 = -9 ∧ n 247 = nI nt ∧ n 248 = nI nt) ∧ (n 240 = 0 ∧ n 241 = 0 ∧ n 243 = 0 ∧ n 244 = 0) ∧ (∀ h, h < 6 → n (250 + h) = -9) ∧ (∀ s, s < 8 → n (302 + s) = -9 ∧ q (20 + s) = -9223372036854775808) ∧ ∀ t, t < 20 → q t = 0
/-- and the class's -/
def FrK (k : MI) (kl : ML) : Prop := k 0 18 = 0 ∧ ∀ t, t < 20 → kl (7 + t) 9 = 0 ∧ kl (7 + t) 10 = 0
section BEGIN
variable {N : NT} {G : MI} {GL : ML} {r : MI} {rl : ML} {F P ng nt ns mem : Nat} {k : MI} {n : Nat → Int32} {kl : ML} {q : Nat → Int64}
theorem begin_sim {x : Int32} (hT : Stc N G GL r rl F P ng nt ns mem) (hm : k 0 1 = r 0 2) : Sim ns (F_b4 (F_b3 (F_bhK (F_bwK k 20) ns) 6) x) (F_bgN r n) ∧ Fr r nt (F_bgN r n) (F_bgQ rl q) ∧ F_bgN r n 246 = 0 ∧ FrK (F_b4 (F_b3 (F_bhK (F_bwK k 20) ns) 6) x) (F_bhL N P GL (F_bwL kl 20) ns) ∧ LSh ns (F_bgN r n) (F_bhL N P GL (F_bwL kl 20) ns) (F_bgQ rl q) ∧ (F_b4 (F_b3 (F_bhK (F_bwK k 20) ns) 6) x 0 1 = r 0 2 ∧ F_b4 (F_b3 (F_bhK (F_bwK k 20) ns) 6) x 0 2 = k 0 2 ∧ F_b4 (F_b3 (F_bhK (F_bwK k 20) ns) 6) x 0 10 = x ∧ F_b4 (F_b3 (F_bhK (F_bwK k 20) ns) 6) x 0 16 = 0) := by
  have hns := hT.2.2.1.2.1
  obtain ⟨k3, hk3⟩ : ∃ k3, F_b3 (F_bhK (F_bwK k 20) ns) 6 = k3 := ⟨_, rfl⟩
  have r0 : k3 0 = k 0 := by rw [← hk3, b3_miss (by omega) (by omega), bh_miss ns (by omega), bw_miss 20 (by omega)]
  have rt : ∀ t, t < 20 → k3 (7 + t) = F_bwK k 20 (7 + t) := fun t ht => by rw [← hk3, b3_miss (by omega) (by omega), bh_miss ns (by omega)]
  rw [hk3]
  refine ⟨?_, ⟨fun t ht j hj h5 => bg_row ht hj h5, ⟨bg_242, bg_245, by rw [bg_247]; exact hT.2.1.2.2, by rw [bg_248]; exact hT.2.1.2.2⟩, ⟨bg_z (by omega), bg_z (by omega), bg_z (by omega), bg_z (by omega)⟩, fun h hh => bg_h hh, fun s hs => ⟨bg_b hs, ?_⟩, fun t ht => ?_⟩, bg_z (by omega), ⟨?_, fun t ht => ?_⟩, fun s hs => ?_, ?_, ?_, ?_, ?_⟩
  · intro j hj
    by_cases a1 : j < 240
    · obtain ⟨u, f, hf12, rfl⟩ : ∃ u f, f < 12 ∧ j = 12 * u + f := ⟨j / 12, j % 12, by omega, by omega⟩
      have hu : u < 20 := by omega
      have h9 : f ≠ 9 := fun q => by
        subst q
        unfold Mp at hj
        omega
      rcases (show (f < 9 ∧ f ≠ 5) ∨ f = 5 ∨ f = 10 ∨ f = 11 by omega) with y | y | y | y
      · rw [lo_t hu y.1, bg_row hu (by omega) y.2]
        show F_b4 k3 x (7 + u) f = nI 0
        rw [b4_row (by omega), rt u hu]; exact bw_0 (Or.inl y.1) y.2 20 hu
      · subst y
        rw [lo_t hu (by omega), bg_5 hu]
        show F_b4 k3 x (7 + u) 5 = -9
        rw [b4_row (by omega), rt u hu]; exact bw_5 20 hu
      · subst y
        rw [lo_s hu, bg_row hu (by omega) (by omega)]
        show F_b4 k3 x (7 + u) 11 = nI 0
        rw [b4_row (by omega), rt u hu]; exact bw_0 (Or.inr (Or.inl rfl)) (by omega) 20 hu
      · subst y
        rw [lo_i hu, bg_row hu (by omega) (by omega)]
        show F_b4 k3 x (7 + u) 12 = nI 0
        rw [b4_row (by omega), rt u hu]; exact bw_0 (Or.inr (Or.inr rfl)) (by omega) 20 hu
    · by_cases a2 : j < 250
      · rcases (show j = 240 ∨ j = 241 ∨ j = 242 ∨ j = 243 ∨ j = 244 ∨ j = 245 by unfold Mp at hj; omega) with rfl | rfl | rfl | rfl | rfl | rfl
        · rw [bg_z (by omega)]; show F_b4 k3 x 0 13 = nI 0; unfold F_b4; simp (disch := omega) only [upd2_row, up_ne, up_s]
        · rw [bg_z (by omega)]; show F_b4 k3 x 0 14 = nI 0; unfold F_b4; simp (disch := omega) only [upd2_row, up_ne, up_s]
        · rw [bg_242]; show F_b4 k3 x 0 11 = r 0 2; unfold F_b4; simp (disch := omega) only [upd2_row, up_ne, up_s]; rw [r0]; exact hm
        · rw [bg_z (by omega)]; show F_b4 k3 x 0 12 = nI 0; unfold F_b4; simp (disch := omega) only [upd2_row, up_ne, up_s]
        · rw [bg_z (by omega)]; show F_b4 k3 x 0 9 = nI 0; unfold F_b4; simp (disch := omega) only [upd2_row, up_ne, up_s]
        · rw [bg_245]; show F_b4 k3 x 0 15 = -9; unfold F_b4; simp (disch := omega) only [upd2_row, up_ne, up_s]
      · by_cases a3 : j < 256
        · obtain ⟨h, rfl⟩ : ∃ h, j = 250 + h := ⟨j - 250, by omega⟩
          rw [lo_h (by omega), bg_h (by omega)]
          show F_b4 k3 x 4 h = -9
          rw [b4_row (by omega), ← hk3]; exact (b3_hit 6 (by omega)).1
        · by_cases a4 : j < 262
          · obtain ⟨h, rfl⟩ : ∃ h, j = 256 + h := ⟨j - 256, by omega⟩
            rw [lo_e (by omega), bg_z (by omega)]
            show F_b4 k3 x 5 h = nI 0
            rw [b4_row (by omega), ← hk3]; exact (b3_hit 6 (by omega)).2
          · obtain ⟨s, rfl⟩ : ∃ s, j = 302 + s := ⟨j - 302, by unfold Mp at hj; omega⟩
            have hs : s < ns := by unfold Mp at hj; omega
            rw [lo_b, bg_b (by omega)]
            show F_b4 k3 x (27 + s) 1 = -9
            rw [b4_row (by omega), ← hk3, b3_miss (by omega) (by omega)]; exact bh_hit ns hs
  · unfold F_bgQ; exact q4_a 8 (by omega) hs
  · unfold F_bgQ; rw [q4_miss 8 (by omega) ht]; exact q2_hit 20 ht
  · unfold F_b4; simp (disch := omega) only [upd2_row, up_ne, up_s]; rfl
  · rw [bhl_miss ns (by omega)]; exact bwl_0 20 ht
  · obtain ⟨sa, g, ga, f1, -, -, -, -, -, -, -, -, f10⟩ := hT.2.2.2.2.2.1 s hs
    obtain ⟨y1, y2⟩ := bhl_hit (N := N) (P := P) (GL := GL) (kl := F_bwL kl 20) ns hs
    refine ⟨?_, fun _ => ⟨y1, ?_⟩, fun y => absurd (bg_b (by omega)) y⟩
    · rw [y2, f1]
      unfold F_bgQ
      rw [q4_b 8 (by omega) (by omega)]
      exact f10
    · unfold F_bgQ; exact q4_a 8 (by omega) (by omega)
  · unfold F_b4; simp (disch := omega) only [upd2_row, up_ne, up_s]; rw [r0]; exact hm
  · unfold F_b4; simp (disch := omega) only [upd2_row, up_ne, up_s]; rw [r0]
  · unfold F_b4; simp (disch := omega) only [upd2_row, up_ne, up_s]
  · unfold F_b4; simp (disch := omega) only [upd2_row, up_ne, up_s]; rfl
/-- a begun run, when its first turn comes: both sides have the run open -/
theorem Fr.ji {nth : Nat} (hT : Stc N G GL r rl F P ng nt ns mem) (hth : nth ≤ 6) (hS : Sim ns k n) (h : Fr r nt n q) (hK : FrK k kl) (hLh : LSh ns n kl q) (hm : k 0 1 = r 0 2) (h17 : k 0 17 = n 247) : JI r nt ns mem nth k kl n q := by
  have hnt := hT.2.1.2.1
  have hns := hT.2.2.1.2.1
  obtain ⟨f1, ⟨f2, f3, f4, f5⟩, ⟨-, -, -, f6⟩, f7, f8, f9⟩ := h
  have e0 : ∀ t, t < nt → n (12 * t + 0) = 0 := fun t ht => f1 t (by omega) 0 (by omega) (by omega)
  have hall : ∀ (w : Int32 → Nat) (c : Nat), w 0 = c → sm (fun t => w (n (12 * t + 0))) nt = c * nt := by
    intro w c hw
    have : ∀ m, m ≤ nt → sm (fun t => w (n (12 * t + 0))) m = c * m := by
      intro m
      induction m with
      | zero => intro _; rfl
      | succ m ih =>
        intro hm
        show sm (fun t => w (n (12 * t + 0))) m + w (n (12 * m + 0)) = _
        rw [ih (by omega), e0 m (by omega), hw, Nat.mul_succ]
    exact this nt (Nat.le_refl nt)
  refine ⟨hS, h17, Or.inl hK.1, hm, ⟨fun t ht => ?_, fun g hg => Or.inl (f7 g hg), ⟨?_, ?_, ⟨0, f6, ?_⟩, mem, ?_, ?_⟩, Or.inl f3⟩, fun _ t ht _ _ h2 => ?_, ⟨fun t ht _ => ?_, fun t ht _ => ⟨fun _ => (hK.2 t (by omega)).1, fun y => absurd (f1 t (by omega) 8 (by omega) (by omega)) y⟩, hLh⟩, fun t ht _ => f1 t (by omega) 6 (by omega) (by omega), fun K hK0 hK40 i hi => ?_, fun u h1 h2 => f1 u h2 0 (by omega) (by omega), fun s h1 h2 => f8 s h2⟩
  · refine ⟨⟨0, by omega, e0 t ht⟩, Or.inl (f1 t (by omega) 10 (by omega) (by omega)), Or.inl (f1 t (by omega) 11 (by omega) (by omega)), fun _ j hj h3 h5 => f1 t (by omega) j hj h5, fun y => absurd ((e0 t ht).symm.trans y) (by decide), fun _ => f1 t (by omega) 1 (by omega) (by omega), fun y => absurd ((e0 t ht).symm.trans y) (by decide)⟩
  · rw [hall wL 1 wL0, f4, Nat.one_mul]
  · rw [hall wW 1 wW0, f5, Nat.one_mul]
  · rw [hall wN 2 wN0]; omega
  · rw [f2]; exact hT.2.2.2.1.2.1
  · rw [sm_zero (fun t ht => by unfold ndF; rw [e0 t ht, if_neg (by decide)])]; rfl
  · exact absurd ((e0 t ht).symm.trans h2) (by decide)
  · rw [(hK.2 t (by omega)).2, f9 t (by omega)]
  · have : K = 0 := by
      have e : nI 0 = nI K := by rw [← hK0, f6]; rfl
      exact ((nI_eq (by omega) (by omega)).mp e).symm
    omega
end BEGIN

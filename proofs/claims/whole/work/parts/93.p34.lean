/-! ===== the start: all holds behind both constructors ===== -/
theorem th_eq (x : Int32) : thC x = thR x ∧ ∃ m, 1 ≤ m ∧ m ≤ 6 ∧ thR x = nI m := by
  unfold thC thR
  by_cases h1 : nI 1 ≤ x
  · by_cases h6 : x ≤ nI 6
    · obtain ⟨m, m1, m2, rfl⟩ := rng_of h1 h6 (by omega) (by omega)
      refine ⟨?_, m, m1, m2, by rw [if_pos h1, if_pos h6]⟩
      rcases (show m = 1 ∨ m = 2 ∨ m = 3 ∨ m = 4 ∨ m = 5 ∨ m = 6 by omega) with rfl | rfl | rfl | rfl | rfl | rfl <;> decide
    · have h2 : ¬ x < nI 6 := fun y => h6 (Int32.le_of_lt y)
      rw [if_pos h1, if_neg h6, if_neg h2, if_pos (by decide)]
      exact ⟨rfl, 6, by omega, by omega, rfl⟩
  · have h3 := Int32.not_le.mp h1
    have h2 : x < nI 6 := Int32.lt_trans h3 (by decide)
    rw [if_neg h1, if_pos h2, if_neg (fun y => absurd (Int32.lt_trans y h3) Int32.lt_irrefl)]
    exact ⟨rfl, 1, by omega, by omega, rfl⟩
theorem mem_eq (y : Int32) : memC y = memR y ∧ ∃ m, m ≤ 1000 ∧ memR y = nI m := by
  unfold memC memR
  by_cases h1 : 0 ≤ y
  · by_cases h6 : y ≤ nI 1000
    · obtain ⟨m, m1, m2, rfl⟩ := rng_of (a := 0) (c := 1000) h1 h6 (by omega) (by omega)
      refine ⟨?_, m, m2, by rw [if_pos h1, if_pos h6]⟩
      rw [if_pos h1, if_pos h6]
      by_cases e : nI m < nI 1000
      · rw [if_pos e]
        by_cases e0 : nI 0 < nI m
        · rw [if_pos e0]
        · rw [if_neg e0]
          have : ¬ 0 < m := fun w => e0 ((nI_ltI (by omega) (by omega)).mpr w)
          have e1 : m = 0 := by omega
          rw [e1]
      · rw [if_neg e, if_pos (by decide)]
        have : ¬ m < 1000 := fun w => e ((nI_ltI (by omega) (by omega)).mpr w)
        have e1 : m = 1000 := by omega
        rw [e1]
    · have h2 : ¬ y < nI 1000 := fun w => h6 (Int32.le_of_lt w)
      rw [if_pos h1, if_neg h6, if_neg h2, if_pos (by decide)]
      exact ⟨rfl, 1000, by omega, rfl⟩
  · have h3 := Int32.not_le.mp h1
    have h2 : y < nI 1000 := Int32.lt_trans h3 (by decide)
    have h4 : ¬ nI 0 < y := fun w => absurd (Int32.lt_trans w h3) Int32.lt_irrefl
    rw [if_neg h1, if_pos h2, if_neg h4]
    exact ⟨rfl, 0, by omega, rfl⟩
section START
variable {X : Nat} {I I1 : MI} {L L1 : ML} {N : NT} {x y : Int32}
theorem start_inv (hz : ∀ a, X ≤ a → ∀ j, I a j = 0 ∧ L a j = 0) (hA : FixA X N) (hF : FixR (X + 111) N) (hsz : N.2.2 = X + 137) (hI1 : I1 = pt (X + 6) 35 (F_b4 (F_b3 (F_bwK (fun o => IX0 I X x y (X + 6 + o)) 20) 6) (thC x)) (IX0 I X x y)) (hL1 : L1 = pt (X + 6) 35 (F_bwL (fun o => L (X + 6 + o)) 20) L) :
    GInv X 0 N (RI (X + 111) (fun o => IR0 I1 (X + 111) x y (X + 111 + o)) (F_bgN (fun o => IR0 I1 (X + 111) x y (X + 111 + o)) (IR0 I1 (X + 111) x y (X + 111 + 20))) (IR0 I1 (X + 111) x y)) (RLg (X + 111) (fun o => L1 (X + 111 + o)) (L1 (X + 111 + 0) 33) (F_bgQ (fun o => L1 (X + 111 + o)) (L1 (X + 111 + 22))) L1) := by
  obtain ⟨et, nth, n1, n2, n3⟩ := th_eq x
  obtain ⟨em, mem, m1, m2⟩ := mem_eq y
  obtain ⟨k, hk⟩ : ∃ k, F_b4 (F_b3 (F_bwK (fun o => IX0 I X x y (X + 6 + o)) 20) 6) (thC x) = k := ⟨_, rfl⟩
  obtain ⟨kl, hkl⟩ : ∃ kl, F_bwL (fun o => L (X + 6 + o)) 20 = kl := ⟨_, rfl⟩
  rw [hk] at hI1
  rw [hkl] at hL1
  -- the class's cells
  have x0 : ∀ a, a ≠ X → a ≠ X + 6 → a ≠ X + 41 → a ≠ X + 76 → IX0 I X x y a = I a := fun a a1 a2 a3 a4 => by
    unfold IX0
    rw [co3_ne a4, co3_ne a3, co3_ne a2, upd2_ne a1, upd2_ne a1]
  have xX : IX0 I X x y X 0 = thC x ∧ IX0 I X x y X 1 = memC y := by
    unfold IX0
    rw [co3_ne (by omega), co3_ne (by omega), co3_ne (by omega), upd2_row, up_s, up_ne (by omega), upd2_row, up_s]
    exact ⟨rfl, rfl⟩
  have x6 : IX0 I X x y (X + 6) 1 = memC y ∧ IX0 I X x y (X + 6) 2 = nI 1 := by
    unfold IX0
    rw [co3_ne (by omega), co3_ne (by omega)]
    unfold co3
    rw [upd2_row, up_ne (by omega), upd2_row, up_s, up_s]
    exact ⟨rfl, rfl⟩
  have x41 : IX0 I X x y (X + 41) 1 = memC y ∧ IX0 I X x y (X + 41) 2 = nI 0 := by
    unfold IX0
    rw [co3_ne (by omega)]
    unfold co3
    rw [upd2_row, up_ne (by omega), upd2_row, up_s, up_s]
    exact ⟨rfl, rfl⟩
  have x76 : IX0 I X x y (X + 76) 1 = memC y ∧ IX0 I X x y (X + 76) 2 = nI 0 := by
    unfold IX0
    unfold co3
    rw [upd2_row, up_ne (by omega), upd2_row, up_s, up_s]
    exact ⟨rfl, rfl⟩
  have i1o : ∀ a, ¬ (X + 6 ≤ a ∧ a < X + 41) → I1 a = IX0 I X x y a := fun a ha => by rw [hI1]; exact pt_out (by omega)
  have l1o : ∀ a, ¬ (X + 6 ≤ a ∧ a < X + 41) → L1 a = L a := fun a ha => by rw [hL1]; exact pt_out (by omega)
  have iro : ∀ a, a ≠ X + 111 → IR0 I1 (X + 111) x y a = I1 a := fun a ha => by
    unfold IR0
    rw [upd2_ne ha, upd2_ne ha]
  obtain ⟨r, hr⟩ : ∃ r : MI, (fun o => IR0 I1 (X + 111) x y (X + 111 + o)) = r := ⟨_, rfl⟩
  obtain ⟨rl, hrl⟩ : ∃ rl : ML, (fun o => L1 (X + 111 + o)) = rl := ⟨_, rfl⟩
  rw [hr, hrl]
  have r00 : r 0 = IR0 I1 (X + 111) x y (X + 111 + 0) := by rw [← hr]
  have r0 : ∀ f, f ≠ 1 → f ≠ 2 → r 0 f = 0 := fun f h1 h2 => by
    rw [r00]
    unfold IR0
    rw [upd2_row, up_ne h2, upd2_row, up_ne h1, i1o _ (by omega), x0 _ (by omega) (by omega) (by omega) (by omega)]
    exact (hz _ (by omega) f).1
  have r01 : r 0 1 = nI nth := by
    rw [r00]
    unfold IR0
    rw [upd2_row, up_ne (by omega), upd2_row, up_s]; exact n3
  have r02 : r 0 2 = nI mem := by
    rw [r00]
    unfold IR0
    rw [upd2_row, up_s]; exact m2
  have em2 : memC y = r 0 2 := by rw [em, m2, r02]
  have rl5 : ∀ j, rl 5 j = 0 := fun j => by
    rw [← hrl]
    show L1 (X + 111 + 5) j = 0
    rw [l1o _ (by omega)]
    exact (hz _ (by omega) j).2
  obtain ⟨n0, hn0⟩ : ∃ n0, IR0 I1 (X + 111) x y (X + 111 + 20) = n0 := ⟨_, rfl⟩
  obtain ⟨q0, hq0⟩ : ∃ q0, L1 (X + 111 + 22) = q0 := ⟨_, rfl⟩
  obtain ⟨S, hS⟩ : ∃ S, L1 (X + 111 + 0) 33 = S := ⟨_, rfl⟩
  rw [hn0, hq0, hS]
  obtain ⟨I2, hI2⟩ : ∃ I2, RI (X + 111) r (F_bgN r n0) (IR0 I1 (X + 111) x y) = I2 := ⟨_, rfl⟩
  obtain ⟨L2, hL2⟩ : ∃ L2, RLg (X + 111) rl S (F_bgQ rl q0) L1 = L2 := ⟨_, rfl⟩
  rw [hI2, hL2]
  have o2 : ∀ a, a < X + 111 → I2 a = I1 a := fun a ha => by
    rw [← hI2, show RI (X + 111) r (F_bgN r n0) (IR0 I1 (X + 111) x y) a = IR0 I1 (X + 111) x y a from pt_out (by omega), iro _ (by omega)]
  have ol2 : ∀ a, a < X + 111 → L2 a = L1 a := fun a ha => by
    rw [← hL2]; exact pt_out (by omega)
  have p1 : ∀ j, I2 (X + 1) j = 0 := fun j => by
    rw [o2 _ (by omega), i1o _ (by omega), x0 _ (by omega) (by omega) (by omega) (by omega)]
    exact (hz _ (by omega) j).1
  have hT : Stc N I2 L2 r rl (X + 137) (X + 1) 0 0 0 mem := ⟨⟨hA.2.1, by omega⟩, ⟨p1 5, by omega, r0 10 (by omega) (by omega)⟩, ⟨p1 6, by omega, r0 20 (by omega) (by omega)⟩, ⟨by omega, r02, m1⟩, fun g hg => absurd hg (Nat.not_lt_zero g), fun s hs => absurd hs (Nat.not_lt_zero s), fun t ht => absurd ht (Nat.not_lt_zero t)⟩
  have hb := begin_sim (k := fun o => IX0 I X x y (X + 6 + o)) (n := n0) (kl := fun o => L (X + 6 + o)) (q := q0) (x := thC x) hT (show IX0 I X x y (X + 6 + 0) 1 = r 0 2 from x6.1.trans em2)
  have e1 : F_b4 (F_b3 (F_bhK (F_bwK (fun o => IX0 I X x y (X + 6 + o)) 20) 0) 6) (thC x) = k := hk
  have e2 : F_bhL N (X + 1) L2 (F_bwL (fun o => L (X + 6 + o)) 20) 0 = kl := hkl
  rw [e1, e2] at hb
  obtain ⟨b1, b2, b3, b4, b5, b6, b7, b8, b9⟩ := hb
  refine ⟨0, 0, 0, mem, nth, 0, 0, r, rl, F_bgN r n0, F_bgQ rl q0, S, k, kl, fun _ => 0, ⟨hA, hF, by omega⟩, ⟨⟨?_, ?_⟩, ?_, ?_⟩, hT, ⟨⟨p1 4, r0 3 (by omega) (by omega)⟩, ⟨?_, ?_⟩, r01, ⟨n1, n2⟩, r0 0 (by omega) (by omega)⟩, ⟨⟨?_, ?_⟩, ?_, ?_⟩, ⟨p1 7, r0 25 (by omega) (by omega), by omega, fun j hj => absurd hj (Nat.not_lt_zero j)⟩, ⟨⟨⟨r0 7 (by omega) (by omega), fun u _ _ j _ => rl5 _⟩, fun u u' _ h => absurd h (Nat.not_lt_zero u'), fun u h => absurd h (Nat.not_lt_zero u), fun g g' _ _ _ h => absurd h (Nat.not_lt_zero g'), fun g _ h => absurd h (Nat.not_lt_zero g), fun g _ _ _ h => absurd h (Nat.not_lt_zero g)⟩, by omega⟩, ⟨⟨b6, b7.trans x6.2, b8.trans (et.trans n3), b9.trans b3.symm⟩, Or.inl ⟨b3, b1, b2, b4, b5⟩⟩⟩
  · rw [← hI2]; exact pt_pt
  · rw [← hL2]; exact pt_pt
  · funext a
    by_cases e : X + 6 ≤ a ∧ a < X + 6 + 35
    · rw [o2 a (by omega), hI1]
      show pt _ _ _ _ a = pt _ _ _ _ a
      unfold pt
      rw [if_pos e, if_pos e]
    · exact pt_out (by omega)
  · funext a
    by_cases e : X + 6 ≤ a ∧ a < X + 6 + 35
    · rw [ol2 a (by omega), hL1]
      show pt _ _ _ _ a = pt _ _ _ _ a
      unfold pt
      rw [if_pos e, if_pos e]
    · exact pt_out (by omega)
  · rw [o2 _ (by omega), i1o _ (by omega)]; exact xX.1.trans (et.trans n3)
  · rw [o2 _ (by omega), i1o _ (by omega)]; exact xX.2.trans (em.trans m2)
  · rw [o2 _ (by omega), i1o _ (by omega)]; exact x41.1.trans em2
  · rw [o2 _ (by omega), i1o _ (by omega)]; exact x41.2
  · rw [o2 _ (by omega), i1o _ (by omega)]; exact x76.1.trans em2
  · rw [o2 _ (by omega), i1o _ (by omega)]; exact x76.2
end START

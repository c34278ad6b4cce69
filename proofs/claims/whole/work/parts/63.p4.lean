/-! ===== a task ends; a task is taken; a task falls ===== -/
theorem nI_s {a b : Nat} (ha : a < 2 ^ 31) (hb : b < 2 ^ 31) (h : a ≠ b) : ¬ nI a = nI b := fun q => h (nI_eq_of q ha hb)
theorem nI_z {a : Nat} (ha : a < 2 ^ 31) (h : 0 < a) : ¬ nI a = 0 := nI_ne0 h ha
theorem wL0 : wL 0 = 1 := by decide
theorem wL1 : wL (nI 1) = 1 := by decide
theorem wW0 : wW 0 = 1 := by decide
theorem wW1 : wW (nI 1) = 0 := by decide
theorem wN0 : wN 0 = 2 := by decide
theorem wN1 : wN (nI 1) = 1 := by decide
theorem w_e {s : Nat} (h2 : 2 ≤ s) (h6 : s ≤ 6) : wL (nI s) = 0 ∧ wW (nI s) = 0 ∧ wN (nI s) = 0 := by
  have a0 : ¬ nI s = 0 := nI_z (by omega) (by omega)
  have a1 : ¬ nI s = nI 1 := nI_s (by omega) (by omega) (by omega)
  refine ⟨?_, ?_, ?_⟩
  · unfold wL; rw [if_neg (fun q => q.elim a0 a1)]
  · unfold wW; rw [if_neg a0]
  · unfold wN; rw [if_neg a0, if_neg a1]
section P4
variable {r : MI} {nt nth mem : Nat} {n : Nat → Int32} {t h K : Nat}
section ENDS
variable {v : Int32}
theorem ends_row {j : Nat} (ht : t < 20) (hh : h < 6) (hK : K < 40) (hj : j < 240) (hne : j ≠ 12 * t + 0) : F_ends r n t v h K j = n j := by
  unfold F_ends F_notes
  rw [up_ne (by omega), up_ne (by omega), up_ne (by omega), up_ne (by omega), up_ne (by omega), up_ne (by omega), up_ne hne]
theorem ends_0 (ht : t < 20) (hh : h < 6) (hK : K < 40) : F_ends r n t v h K (12 * t + 0) = v := by
  unfold F_ends F_notes
  rw [up_ne (by omega), up_ne (by omega), up_ne (by omega), up_ne (by omega), up_ne (by omega), up_ne (by omega), up_s]
theorem ends_h {g : Nat} (ht : t < 20) (hh : h < 6) (hK : K < 40) (hg : g < 6) : F_ends r n t v h K (250 + g) = if g = h then -9 else n (250 + g) := by
  unfold F_ends F_notes
  rw [up_ne (by omega), up_ne (by omega), up_ne (by omega), up_ne (by omega)]
  by_cases e : g = h
  · subst e; rw [up_s, if_pos rfl]
  · rw [if_neg e, up_ne (by omega), up_ne (by omega), up_ne (by omega)]
theorem ends_2 (ht : t < 20) (hh : h < 6) (hK : K < 40) : F_ends r n t v h K 242 = n 242 + r 10 t := by
  unfold F_ends F_notes
  rw [up_ne (by omega), up_ne (by omega), up_ne (by omega), up_ne (by omega), up_ne (by omega), up_s]
theorem ends_4 : F_ends r n t v h K 244 = nI (K + 1) := by
  unfold F_ends F_notes
  rw [up_s]
theorem ends_7 (hK : K < 40) : F_ends r n t v h K 247 = n 247 - nI 1 := by
  unfold F_ends F_notes
  rw [up_ne (by omega), up_ne (by omega), up_s]
theorem ends_o {j : Nat} (ht : t < 20) (hh : h < 6) (hK : K < 40) (hj : j = 240 ∨ j = 241 ∨ j = 243 ∨ j = 245 ∨ j = 246 ∨ j = 248 ∨ 302 ≤ j) : F_ends r n t v h K j = n j := by
  unfold F_ends F_notes
  rw [up_ne (by omega), up_ne (by omega), up_ne (by omega), up_ne (by omega), up_ne (by omega), up_ne (by omega), up_ne (by omega)]
end ENDS
/-- a task t, under way by thread h, ends in the state s -/
theorem RV.ends {s : Nat} (hnt : nt ≤ 20) (hth : nth ≤ 6) (ht : t < nt) (hh : h < nth) (h2 : 2 ≤ s) (h6 : s ≤ 6) (hnd : ∃ nd, nd ≤ mem ∧ r 10 t = nI nd) (hmem : mem ≤ 1000)
    (hO : ∀ u, u < nt → u ≠ t → TV r nth n u) (hH : HV nt nth n) (hC : CV r nt mem n) (hV : KV r nt n) (h1 : n (12 * t + 0) = nI 1) (hp : n (250 + h) = nI t) (hq : n (12 * t + 5) = nI h) (hf10 : n (12 * t + 10) = 0 ∨ n (12 * t + 10) = nI 1) (hf11 : n (12 * t + 11) = 0 ∨ n (12 * t + 11) = nI 1)
    (hF : ¬ s = 3 → n (12 * t + 1) = 0) (hF3 : s = 3 → ¬ r 6 t = nI 4 → n (12 * t + 1) = wf r t) (hK : n 244 = nI K) (hK2 : K < 40) : RV r nt nth mem (F_ends r n t (nI s) h K) := by
  have ht20 : t < 20 := by omega
  have hh6 : h < 6 := by omega
  have row : ∀ u j, u < nt → j < 12 → u ≠ t ∨ j ≠ 0 → F_ends r n t (nI s) h K (12 * u + j) = n (12 * u + j) := fun u j hu hj hne => ends_row ht20 hh6 hK2 (by omega) (by omega)
  have e0 : F_ends r n t (nI s) h K (12 * t + 0) = nI s := ends_0 ht20 hh6 hK2
  refine ⟨fun u hu => ?_, fun g hg => ?_, ?_, ?_⟩
  · by_cases e : u = t
    · subst e
      refine ⟨⟨s, h6, e0⟩, by rw [row u 10 hu (by omega) (Or.inr (by omega))]; exact hf10, by rw [row u 11 hu (by omega) (Or.inr (by omega))]; exact hf11, fun q => absurd (e0.symm.trans q) (nI_z (by omega) (by omega)), fun q => absurd (e0.symm.trans q) (nI_s (by omega) (by omega) (by omega)), fun q => ?_, fun q hs => ?_⟩
      · rw [row u 1 hu (by omega) (Or.inr (by omega))]
        exact hF (fun z => q (by rw [e0, z]))
      · rw [row u 1 hu (by omega) (Or.inr (by omega))]
        rw [e0] at q
        exact hF3 (nI_eq_of q (by omega) (by omega)) hs
    · refine (hO u hu e).congr (fun j hj _ => row u j hu hj (Or.inl e)) (fun g hg q => ?_)
      rw [ends_h ht20 hh6 hK2 (by omega)]
      by_cases eg : g = h
      · subst eg
        exact absurd (nI_eq_of (hp.symm.trans q) (by omega) (by omega)) (fun z => e z.symm)
      · rw [if_neg eg]; exact q
  · rw [ends_h ht20 hh6 hK2 hg]
    by_cases eg : g = h
    · rw [if_pos eg]; exact Or.inl rfl
    · rw [if_neg eg]
      rcases hH g hg with q | ⟨u, q1, q2, q3, q4, q5⟩
      · exact Or.inl q
      · have e : u ≠ t := fun z => by
          subst z
          exact eg (nI_eq_of (q5.symm.trans hq) (by omega) (by omega))
        exact Or.inr ⟨u, q1, q2, q3, by rw [row u 0 q1 (by omega) (Or.inl e)]; exact q4, by rw [row u 5 q1 (by omega) (Or.inl e)]; exact q5⟩
  · obtain ⟨c1, c2, ⟨K', c3, c4⟩, fr, c5, c6⟩ := hC
    obtain ⟨nd, n1, n2⟩ := hnd
    have eK : K' = K := nI_eq_of (c3.symm.trans hK) (by omega) (by omega)
    subst eK
    obtain ⟨w1, w2, w3⟩ := w_e h2 h6
    have a1 := sm_upd (k := nt) (f := fun u => wL (n (12 * u + 0))) (g := fun u => wL (F_ends r n t (nI s) h K' (12 * u + 0))) ht (fun i hi hne => by rw [row i 0 hi (by omega) (Or.inl hne)])
    have a2 := sm_upd (k := nt) (f := fun u => wW (n (12 * u + 0))) (g := fun u => wW (F_ends r n t (nI s) h K' (12 * u + 0))) ht (fun i hi hne => by rw [row i 0 hi (by omega) (Or.inl hne)])
    have a3 := sm_upd (k := nt) (f := fun u => wN (n (12 * u + 0))) (g := fun u => wN (F_ends r n t (nI s) h K' (12 * u + 0))) ht (fun i hi hne => by rw [row i 0 hi (by omega) (Or.inl hne)])
    have a4 := sm_upd (k := nt) (f := ndF r n) (g := ndF r (F_ends r n t (nI s) h K')) ht (fun i hi hne => by unfold ndF; rw [row i 0 hi (by omega) (Or.inl hne)])
    try simp only at a1 a2 a3
    rw [e0, h1, w1, wL1] at a1
    rw [e0, h1, w2, wW1] at a2
    rw [e0, h1, w3, wN1] at a3
    have d1 : ndF r n t = nd := by unfold ndF; rw [if_pos h1, n2, nI_clamp (by omega)]
    have d2 : ndF r (F_ends r n t (nI s) h K') t = 0 := by unfold ndF; rw [e0, if_neg (nI_s (by omega) (by omega) (by omega))]
    rw [d1, d2] at a4
    refine ⟨?_, ?_, ⟨K' + 1, ends_4, by omega⟩, fr + nd, ?_, by omega⟩
    · rw [ends_7 hK2, c1, pk_sub (by omega)]
      exact congrArg nI (by omega)
    · rw [ends_o ht20 hh6 hK2 (by omega), c2]
      exact congrArg nI (by omega)
    · rw [ends_2 ht20 hh6 hK2, c5, n2, nI_add]
  · unfold KV
    rw [ends_o ht20 hh6 hK2 (by omega)]
    rcases hV with q | ⟨u, q1, q2, q3, q4⟩
    · exact Or.inl q
    · have e : u ≠ t := fun z => by
        subst z
        exact absurd (h1.symm.trans q3) (by decide)
      exact Or.inr ⟨u, q1, q2, by rw [row u 0 q1 (by omega) (Or.inl e)]; exact q3, q4⟩
section TAKES
theorem takes_row {j : Nat} (ht : t < 20) (hh : h < 6) (hK : K < 40) (hj : j < 240) (h0 : j ≠ 12 * t + 0) (h5 : j ≠ 12 * t + 5) (h3 : j ≠ 12 * t + 3) : F_takes r n t h K j = n j := by
  unfold F_takes F_notes
  rw [up_ne (by omega), up_ne (by omega), up_ne (by omega), up_ne (by omega), up_ne (by omega), up_ne (by omega), up_ne h3, up_ne h5, up_ne h0]
theorem takes_0 (ht : t < 20) (hh : h < 6) (hK : K < 40) : F_takes r n t h K (12 * t + 0) = nI 1 := by
  unfold F_takes F_notes
  rw [up_ne (by omega), up_ne (by omega), up_ne (by omega), up_ne (by omega), up_ne (by omega), up_ne (by omega), up_ne (by omega), up_ne (by omega), up_s]
theorem takes_5 (ht : t < 20) (hh : h < 6) (hK : K < 40) : F_takes r n t h K (12 * t + 5) = nI h := by
  unfold F_takes F_notes
  rw [up_ne (by omega), up_ne (by omega), up_ne (by omega), up_ne (by omega), up_ne (by omega), up_ne (by omega), up_ne (by omega), up_s]
theorem takes_h {g : Nat} (ht : t < 20) (hh : h < 6) (hK : K < 40) (hg : g < 6) : F_takes r n t h K (250 + g) = if g = h then nI t else n (250 + g) := by
  unfold F_takes F_notes
  rw [up_ne (by omega), up_ne (by omega), up_ne (by omega), up_ne (by omega), up_ne (by omega)]
  by_cases e : g = h
  · subst e; rw [up_s, if_pos rfl]
  · rw [if_neg e, up_ne (by omega), up_ne (by omega), up_ne (by omega), up_ne (by omega)]
theorem takes_2 (hK : K < 40) : F_takes r n t h K 242 = n 242 - r 10 t := by
  unfold F_takes F_notes
  rw [up_ne (by omega), up_ne (by omega), up_ne (by omega), up_s]
theorem takes_4 : F_takes r n t h K 244 = nI (K + 1) := by
  unfold F_takes F_notes
  rw [up_s]
theorem takes_8 (hK : K < 40) : F_takes r n t h K 248 = n 248 - nI 1 := by
  unfold F_takes F_notes
  rw [up_ne (by omega), up_ne (by omega), up_ne (by omega), up_ne (by omega), up_s]
theorem takes_o {j : Nat} (ht : t < 20) (hh : h < 6) (hK : K < 40) (hj : j = 240 ∨ j = 241 ∨ j = 245 ∨ j = 246 ∨ j = 247 ∨ 302 ≤ j) : F_takes r n t h K j = n j := by
  unfold F_takes F_notes
  rw [up_ne (by omega), up_ne (by omega), up_ne (by omega), up_ne (by omega), up_ne (by omega), up_ne (by omega), up_ne (by omega), up_ne (by omega), up_ne (by omega)]
end TAKES
/-- thread h takes the waiting task t -/
theorem RV.takes (hnt : nt ≤ 20) (hth : nth ≤ 6) (ht : t < nt) (hh : h < nth) (hmem : mem ≤ 1000) (hR : RV r nt nth mem n) (h0 : n (12 * t + 0) = 0) (hfit : r 10 t ≤ n 242) (hp : n (250 + h) = -9) (hK : n 244 = nI K) (hK2 : K < 40) (hnd : ∃ nd, nd ≤ mem ∧ r 10 t = nI nd) (hbd : ∃ bd, 1 ≤ bd ∧ bd ≤ 1000 ∧ r 11 t = nI bd)
    (hsp : (r 6 t = nI 0 ∨ r 6 t = nI 1) → ∃ Q, 1 ≤ Q ∧ Q ≤ 100000 ∧ r 7 t = nI Q) (hsr : (r 6 t = nI 2 ∨ r 6 t = nI 3) → ∃ g sz, g < 6 ∧ r 12 t = nI g ∧ r 2 g = nI sz ∧ sz ≤ 12) (hss : r 6 t = nI 4 → ∃ s fr to g, s < 8 ∧ g < 6 ∧ r 12 t = nI s ∧ r 13 t = nI fr ∧ r 14 t = nI to ∧ fr ≤ to ∧ to ≤ 20 ∧ r 15 s = nI g) : RV r nt nth mem (F_takes r n t h K) := by
  have ht20 : t < 20 := by omega
  have hh6 : h < 6 := by omega
  obtain ⟨hT, hH, hC, hV⟩ := hR
  have row : ∀ u j, u < nt → j < 12 → u ≠ t ∨ (j ≠ 0 ∧ j ≠ 5 ∧ j ≠ 3) → F_takes r n t h K (12 * u + j) = n (12 * u + j) := fun u j hu hj hne => takes_row ht20 hh6 hK2 (by omega) (by omega) (by omega) (by omega)
  have e0 : F_takes r n t h K (12 * t + 0) = nI 1 := takes_0 ht20 hh6 hK2
  have e5 : F_takes r n t h K (12 * t + 5) = nI h := takes_5 ht20 hh6 hK2
  have hw := (hT t ht).2.2.2.1 h0
  have z : ∀ j, j < 12 → j ≠ 3 → j ≠ 5 → j ≠ 0 → F_takes r n t h K (12 * t + j) = 0 := fun j hj a b c => by rw [row t j ht hj (Or.inr ⟨c, b, a⟩)]; exact hw j hj a b
  have z' : ∀ j, j < 12 → j ≠ 3 → j ≠ 5 → j ≠ 0 → F_takes r n t h K (12 * t + j) = nI 0 := fun j hj a b c => by rw [z j hj a b c]; rfl
  refine ⟨fun u hu => ?_, fun g hg => ?_, ?_, ?_⟩
  · by_cases e : u = t
    · subst e
      refine ⟨⟨1, by omega, e0⟩, Or.inl (z 10 (by omega) (by omega) (by omega) (by omega)), Or.inl (z 11 (by omega) (by omega) (by omega) (by omega)), fun q => absurd (e0.symm.trans q) (by decide), fun _ => ⟨⟨h, hh, e5, ?_⟩, fun q => ?_, fun q => ?_, fun q => ?_, ?_⟩, fun _ => z 1 (by omega) (by omega) (by omega) (by omega), fun q => absurd (e0.symm.trans q) (by decide)⟩
      · rw [takes_h ht20 hh6 hK2 hh6, if_pos rfl]
      · obtain ⟨Q, q1, q2, q3⟩ := hsp q
        exact ⟨0, Q, 0, z' 4 (by omega) (by omega) (by omega) (by omega), q3, by omega, q2, z' 2 (by omega) (by omega) (by omega) (by omega), fun _ => rfl⟩
      · obtain ⟨g, sz, q1, q2, q3, q4⟩ := hsr q
        exact ⟨g, sz, 0, 0, q1, q2, q3, q4, z' 7 (by omega) (by omega) (by omega) (by omega), Nat.zero_le _, z' 8 (by omega) (by omega) (by omega) (by omega), Nat.zero_le _, Or.inl rfl⟩
      · obtain ⟨s, fr, to, g, q1, q2, q3, q4, q5, q6, q7, q8⟩ := hss q
        exact ⟨s, fr, to, g, 0, 0, q1, q2, q3, q4, q5, q7, q8, z' 7 (by omega) (by omega) (by omega) (by omega), z' 9 (by omega) (by omega) (by omega) (by omega), z' 8 (by omega) (by omega) (by omega) (by omega), Nat.zero_le _, by omega, Or.inl rfl⟩
      · obtain ⟨bd, q1, q2, q3⟩ := hbd
        exact ⟨bd, q2, q3, fun _ => ⟨0, z' 2 (by omega) (by omega) (by omega) (by omega), by omega⟩⟩
    · refine (hT u hu).congr (fun j hj _ => row u j hu hj (Or.inl e)) (fun g hg q => ?_)
      rw [takes_h ht20 hh6 hK2 (by omega)]
      by_cases eg : g = h
      · subst eg
        exact absurd (hp.symm.trans q).symm (nI_n9 (by omega))
      · rw [if_neg eg]; exact q
  · rw [takes_h ht20 hh6 hK2 hg]
    by_cases eg : g = h
    · subst eg
      rw [if_pos rfl]
      exact Or.inr ⟨t, ht, hh, rfl, e0, e5⟩
    · rw [if_neg eg]
      rcases hH g hg with q | ⟨u, q1, q2, q3, q4, q5⟩
      · exact Or.inl q
      · have e : u ≠ t := fun z => by
          subst z
          exact absurd (h0.symm.trans q4) (by decide)
        exact Or.inr ⟨u, q1, q2, q3, by rw [row u 0 q1 (by omega) (Or.inl e)]; exact q4, by rw [row u 5 q1 (by omega) (Or.inl e)]; exact q5⟩
  · obtain ⟨c1, c2, ⟨K', c3, c4⟩, fr, c5, c6⟩ := hC
    obtain ⟨nd, n1, n2⟩ := hnd
    have eK : K' = K := nI_eq_of (c3.symm.trans hK) (by omega) (by omega)
    subst eK
    have a1 := sm_upd (k := nt) (f := fun u => wL (n (12 * u + 0))) (g := fun u => wL (F_takes r n t h K' (12 * u + 0))) ht (fun i hi hne => by rw [row i 0 hi (by omega) (Or.inl hne)])
    have a2 := sm_upd (k := nt) (f := fun u => wW (n (12 * u + 0))) (g := fun u => wW (F_takes r n t h K' (12 * u + 0))) ht (fun i hi hne => by rw [row i 0 hi (by omega) (Or.inl hne)])
    have a3 := sm_upd (k := nt) (f := fun u => wN (n (12 * u + 0))) (g := fun u => wN (F_takes r n t h K' (12 * u + 0))) ht (fun i hi hne => by rw [row i 0 hi (by omega) (Or.inl hne)])
    have a4 := sm_upd (k := nt) (f := ndF r n) (g := ndF r (F_takes r n t h K')) ht (fun i hi hne => by unfold ndF; rw [row i 0 hi (by omega) (Or.inl hne)])
    try simp only at a1 a2 a3
    rw [e0, h0, wL1, wL0] at a1
    rw [e0, h0, wW1, wW0] at a2
    rw [e0, h0, wN1, wN0] at a3
    have d1 : ndF r n t = 0 := by unfold ndF; rw [h0, if_neg (by decide)]
    have d2 : ndF r (F_takes r n t h K') t = nd := by unfold ndF; rw [if_pos e0, n2, nI_clamp (by omega)]
    rw [d1, d2] at a4
    rw [n2, c5] at hfit
    have hle := (nI_leI (by omega) (by omega)).mp hfit
    refine ⟨?_, ?_, ⟨K' + 1, takes_4, by omega⟩, fr - nd, ?_, by omega⟩
    · rw [takes_o ht20 hh6 hK2 (by omega), c1]
      exact congrArg nI (by omega)
    · rw [takes_8 hK2, c2, pk_sub (by omega)]
      exact congrArg nI (by omega)
    · rw [takes_2 hK2, c5, n2, pk_sub hle]
  · unfold KV
    rw [takes_o ht20 hh6 hK2 (by omega)]
    rcases hV with q | ⟨u, q1, q2, q3, q4⟩
    · exact Or.inl q
    · have e : u ≠ t := fun z => by
        subst z
        exact absurd (h0.symm.trans q3) (by decide)
      exact Or.inr ⟨u, q1, q2, by rw [row u 0 q1 (by omega) (Or.inl e)]; exact q3, q4⟩
section FALLS
variable {v : Int32}
theorem falls_row {j : Nat} (hj : j ≠ 247 ∧ j ≠ 248) (h0 : j ≠ 12 * t + 0) : F_falls n t v j = n j := by
  unfold F_falls
  rw [up_ne hj.2, up_ne hj.1, up_ne h0]
theorem falls_0 (ht : t < 20) : F_falls n t v (12 * t + 0) = v := by
  unfold F_falls
  rw [up_ne (by omega), up_ne (by omega), up_s]
theorem falls_7 : F_falls n t v 247 = n 247 - nI 1 := by
  unfold F_falls
  rw [up_ne (by omega), up_s]
theorem falls_8 : F_falls n t v 248 = n 248 - nI 1 := by
  unfold F_falls
  rw [up_s]
end FALLS
/-- a waiting task falls -/
theorem RV.falls {s : Nat} (hnt : nt ≤ 20) (hth : nth ≤ 6) (ht : t < nt) (h2 : 4 ≤ s) (h6 : s ≤ 6) (hR : RV r nt nth mem n) (h0 : n (12 * t + 0) = 0) : RV r nt nth mem (F_falls n t (nI s)) := by
  have ht20 : t < 20 := by omega
  obtain ⟨hT, hH, hC, hV⟩ := hR
  have row : ∀ u j, u < nt → j < 12 → u ≠ t ∨ j ≠ 0 → F_falls n t (nI s) (12 * u + j) = n (12 * u + j) := fun u j hu hj hne => falls_row (by omega) (by omega)
  have e0 : F_falls n t (nI s) (12 * t + 0) = nI s := falls_0 ht20
  have hw := (hT t ht).2.2.2.1 h0
  have z : ∀ j, j < 12 → j ≠ 3 → j ≠ 5 → j ≠ 0 → F_falls n t (nI s) (12 * t + j) = 0 := fun j hj a b c => by rw [row t j ht hj (Or.inr c)]; exact hw j hj a b
  refine ⟨fun u hu => ?_, ?_, ?_, ?_⟩
  · by_cases e : u = t
    · subst e
      exact ⟨⟨s, h6, e0⟩, Or.inl (z 10 (by omega) (by omega) (by omega) (by omega)), Or.inl (z 11 (by omega) (by omega) (by omega) (by omega)), fun q => absurd (e0.symm.trans q) (nI_z (by omega) (by omega)), fun q => absurd (e0.symm.trans q) (nI_s (by omega) (by omega) (by omega)), fun _ => z 1 (by omega) (by omega) (by omega) (by omega), fun q => absurd (e0.symm.trans q) (nI_s (by omega) (by omega) (by omega))⟩
    · exact (hT u hu).congr (fun j hj _ => row u j hu hj (Or.inl e)) (fun g hg q => by rw [falls_row (by omega) (by omega)]; exact q)
  · intro g hg
    rw [falls_row (by omega) (by omega)]
    rcases hH g hg with q | ⟨u, q1, q2, q3, q4, q5⟩
    · exact Or.inl q
    · have e : u ≠ t := fun z => by
        subst z
        exact absurd (h0.symm.trans q4) (by decide)
      exact Or.inr ⟨u, q1, q2, q3, by rw [row u 0 q1 (by omega) (Or.inl e)]; exact q4, by rw [row u 5 q1 (by omega) (Or.inl e)]; exact q5⟩
  · obtain ⟨c1, c2, ⟨K', c3, c4⟩, fr, c5, c6⟩ := hC
    obtain ⟨w1, w2, w3⟩ := w_e (s := s) (by omega) h6
    have a1 := sm_upd (k := nt) (f := fun u => wL (n (12 * u + 0))) (g := fun u => wL (F_falls n t (nI s) (12 * u + 0))) ht (fun i hi hne => by rw [row i 0 hi (by omega) (Or.inl hne)])
    have a2 := sm_upd (k := nt) (f := fun u => wW (n (12 * u + 0))) (g := fun u => wW (F_falls n t (nI s) (12 * u + 0))) ht (fun i hi hne => by rw [row i 0 hi (by omega) (Or.inl hne)])
    have a3 := sm_upd (k := nt) (f := fun u => wN (n (12 * u + 0))) (g := fun u => wN (F_falls n t (nI s) (12 * u + 0))) ht (fun i hi hne => by rw [row i 0 hi (by omega) (Or.inl hne)])
    have a4 := sm_upd (k := nt) (f := ndF r n) (g := ndF r (F_falls n t (nI s))) ht (fun i hi hne => by unfold ndF; rw [row i 0 hi (by omega) (Or.inl hne)])
    try simp only at a1 a2 a3
    rw [e0, h0, w1, wL0] at a1
    rw [e0, h0, w2, wW0] at a2
    rw [e0, h0, w3, wN0] at a3
    have d1 : ndF r n t = 0 := by unfold ndF; rw [h0, if_neg (by decide)]
    have d2 : ndF r (F_falls n t (nI s)) t = 0 := by unfold ndF; rw [e0, if_neg (nI_s (by omega) (by omega) (by omega))]
    rw [d1, d2] at a4
    refine ⟨?_, ?_, ⟨K', by rw [falls_row (by omega) (by omega)]; exact c3, by omega⟩, fr, by rw [falls_row (by omega) (by omega)]; exact c5, by omega⟩
    · rw [falls_7, c1, pk_sub (by omega)]
      exact congrArg nI (by omega)
    · rw [falls_8, c2, pk_sub (by omega)]
      exact congrArg nI (by omega)
  · unfold KV
    rw [falls_row (by omega) (by omega)]
    rcases hV with q | ⟨u, q1, q2, q3, q4⟩
    · exact Or.inl q
    · have e : u ≠ t := fun z => by
        subst z
        exact absurd (h0.symm.trans q3) (by decide)
      exact Or.inr ⟨u, q1, q2, by rw [row u 0 q1 (by omega) (Or.inl e)]; exact q3, q4⟩
end P4

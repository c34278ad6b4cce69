/-! ===== what holds in a run is kept: small changes, a task ends, is taken, falls ===== -/
section P3
variable {r : MI} {nt nth mem : Nat} {n n' : Nat → Int32} {t : Nat}
theorem TV.congr (hr : ∀ j, j < 12 → j ≠ 3 → n' (12 * t + j) = n (12 * t + j)) (hh : ∀ h, h < nth → n (250 + h) = nI t → n' (250 + h) = nI t) (h : TV r nth n t) : TV r nth n' t := by
  obtain ⟨h1, h2, h3, h4, h5, h6, h7⟩ := h
  have e0 := hr 0 (by omega) (by omega)
  have e1 := hr 1 (by omega) (by omega)
  have e2 := hr 2 (by omega) (by omega)
  have e4 := hr 4 (by omega) (by omega)
  have e5 := hr 5 (by omega) (by omega)
  have e7 := hr 7 (by omega) (by omega)
  have e8 := hr 8 (by omega) (by omega)
  have e9 := hr 9 (by omega) (by omega)
  have e10 := hr 10 (by omega) (by omega)
  have e11 := hr 11 (by omega) (by omega)
  refine ⟨by rw [e0]; exact h1, by rw [e10]; exact h2, by rw [e11]; exact h3, fun q j hj h3 h5 => by rw [hr j hj h3]; exact h4 (e0 ▸ q) j hj h3 h5, fun q => ?_, fun q => by rw [e1]; exact h6 (e0 ▸ q), fun q => by rw [e1]; exact h7 (e0 ▸ q)⟩
  obtain ⟨⟨h, g1, g2, g3⟩, gp, gr, gs, bd, b1, b2, b3⟩ := h5 (e0 ▸ q)
  refine ⟨⟨h, g1, by rw [e5]; exact g2, hh h g1 g3⟩, ?_, ?_, ?_, bd, b1, b2, by rw [e2]; exact b3⟩
  · intro q; rw [e4, e2]; exact gp q
  · intro q; rw [e7, e8]; exact gr q
  · intro q; rw [e7, e8, e9]; exact gs q
theorem HV.congr (hr : ∀ u, u < nt → n' (12 * u + 0) = n (12 * u + 0) ∧ n' (12 * u + 5) = n (12 * u + 5)) (hh : ∀ h, h < 6 → n' (250 + h) = n (250 + h)) (h : HV nt nth n) : HV nt nth n' := by
  intro g hg
  rw [hh g hg]
  rcases h g hg with q | ⟨t, q1, q2, q3, q4, q5⟩
  · exact Or.inl q
  · exact Or.inr ⟨t, q1, q2, q3, by rw [(hr t q1).1]; exact q4, by rw [(hr t q1).2]; exact q5⟩
theorem CV.congr (hr : ∀ u, u < nt → n' (12 * u + 0) = n (12 * u + 0)) (h2 : n' 242 = n 242) (h4 : n' 244 = n 244) (h7 : n' 247 = n 247) (h8 : n' 248 = n 248) (h : CV r nt mem n) : CV r nt mem n' := by
  obtain ⟨c1, c2, ⟨K, c3, c4⟩, fr, c5, c6⟩ := h
  have a1 : sm (fun t => wL (n' (12 * t + 0))) nt = sm (fun t => wL (n (12 * t + 0))) nt := sm_congr (fun i hi => by rw [hr i hi])
  have a2 : sm (fun t => wW (n' (12 * t + 0))) nt = sm (fun t => wW (n (12 * t + 0))) nt := sm_congr (fun i hi => by rw [hr i hi])
  have a3 : sm (fun t => wN (n' (12 * t + 0))) nt = sm (fun t => wN (n (12 * t + 0))) nt := sm_congr (fun i hi => by rw [hr i hi])
  have a4 : sm (ndF r n') nt = sm (ndF r n) nt := sm_congr (fun i hi => by unfold ndF; rw [hr i hi])
  exact ⟨by rw [h7, a1]; exact c1, by rw [h8, a2]; exact c2, ⟨K, by rw [h4]; exact c3, by rw [a3]; exact c4⟩, fr, by rw [h2]; exact c5, by rw [a4]; exact c6⟩
theorem KV.congr (hr : ∀ u, u < nt → n' (12 * u + 0) = n (12 * u + 0)) (h5 : n' 245 = n 245) (h : KV r nt n) : KV r nt n' := by
  unfold KV
  rw [h5]
  rcases h with q | ⟨t, q1, q2, q3, q4⟩
  · exact Or.inl q
  · exact Or.inr ⟨t, q1, q2, by rw [hr t q1]; exact q3, q4⟩
theorem RV.congr (hnt : nt ≤ 20) (hr : ∀ u, u < nt → ∀ j, j < 12 → j ≠ 3 → n' (12 * u + j) = n (12 * u + j)) (hh : ∀ h, h < 6 → n' (250 + h) = n (250 + h)) (hth : nth ≤ 6) (h2 : n' 242 = n 242) (h4 : n' 244 = n 244) (h5 : n' 245 = n 245) (h7 : n' 247 = n 247) (h8 : n' 248 = n 248) (h : RV r nt nth mem n) : RV r nt nth mem n' :=
  ⟨fun u hu => (h.1 u hu).congr (hr u hu) (fun g hg q => by rw [hh g (by omega)]; exact q), h.2.1.congr (fun u hu => ⟨hr u hu 0 (by omega) (by omega), hr u hu 5 (by omega) (by omega)⟩) hh, h.2.2.1.congr (fun u hu => hr u hu 0 (by omega) (by omega)) h2 h4 h7 h8, h.2.2.2.congr (fun u hu => hr u hu 0 (by omega) (by omega)) h5⟩
/-- a place that none of it reads -/
theorem RV.set1 {j : Nat} {v : Int32} (hnt : nt ≤ 20) (hth : nth ≤ 6) (hj : j = 240 ∨ j = 241 ∨ j = 243 ∨ j = 246 ∨ 256 ≤ j ∨ (∃ u, u < 20 ∧ j = 12 * u + 3)) (h : RV r nt nth mem n) : RV r nt nth mem (up n j v) := by
  refine h.congr hnt (fun u hu i hi h3 => up_ne ?_) (fun g hg => up_ne ?_) hth (up_ne ?_) (up_ne ?_) (up_ne ?_) (up_ne ?_) (up_ne ?_) <;> rcases hj with q | q | q | q | q | ⟨w, q1, q⟩ <;> omega
end P3

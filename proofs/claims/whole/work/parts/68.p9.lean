/-! ===== a step of any task on both sides; what a run has left to do ===== -/
theorem LK.congr {r : MI} {nt : Nat} {n n' : Nat → Int32} (h : LK r nt n) (h5 : n' 245 = n 245) (hs : ∀ u, u < nt → (skipR r n' u ↔ skipR r n u)) (h2 : ∀ u, u < nt → n' (12 * u + 0) = nI 2 → n (12 * u + 0) = nI 2) : LK r nt n' := by
  intro q t ht hu hn h2'
  exact h (h5 ▸ q) t ht (fun u hu' => (hs u (by omega)).mp (hu u hu')) (fun y => hn ((hs t ht).mpr y)) (h2 t ht h2')
theorem LK.same {r : MI} {nt : Nat} {n n' : Nat → Int32} (h : LK r nt n) (h5 : n' 245 = n 245) (hs : ∀ u, u < nt → n' (12 * u + 0) = n (12 * u + 0)) : LK r nt n' :=
  h.congr h5 (fun u hu => by unfold skipR; rw [hs u hu]) (fun u hu q => by rw [← hs u hu]; exact q)
/-- what is left to do of a task, of all -/
def tm (r : MI) (n : Nat → Int32) (t : Nat) : Nat := if n (12 * t + 0) = 0 then 1002 else if n (12 * t + 0) = nI 1 then (if r 6 t = nI 4 then 300 - mu n t else 1001 - (n (12 * t + 2)).toNatClampNeg) else 0
def MU (r : MI) (nt : Nat) (n : Nat → Int32) : Nat := sm (tm r n) nt
theorem tm_le {r : MI} {n : Nat → Int32} {t : Nat} : tm r n t ≤ 1002 := by
  unfold tm
  repeat' split
  all_goals omega
theorem MU_le {r : MI} {nt : Nat} {n : Nat → Int32} (h : nt ≤ 20) : MU r nt n ≤ 20040 := by
  have := sm_le (f := tm r n) (b := 1002) (k := nt) (fun i _ => tm_le)
  unfold MU
  have : 1002 * nt ≤ 1002 * 20 := Nat.mul_le_mul_left _ h
  omega
theorem sm_mono {f g : Nat → Nat} : ∀ {k : Nat}, (∀ i, i < k → f i ≤ g i) → sm f k ≤ sm g k
  | 0, _ => Nat.le_refl _
  | k + 1, h => by
    have h1 := sm_mono (k := k) (fun i hi => h i (by omega))
    have h2 := h k (by omega)
    show sm f k + f k ≤ sm g k + g k
    omega
theorem MU_keep {r : MI} {nt : Nat} {n n' : Nat → Int32} (hnt : nt ≤ 20) (h : Keep n n') : MU r nt n' ≤ MU r nt n := by
  refine sm_mono (fun t ht => ?_)
  have e2 := h.2.1 t (by omega) 2 (by omega) (by omega) (by omega)
  have e7 := h.2.1 t (by omega) 7 (by omega) (by omega) (by omega)
  have e8 := h.2.1 t (by omega) 8 (by omega) (by omega) (by omega)
  rcases h.2.2 t (by omega) with q | ⟨q1, q2⟩
  · unfold tm mu
    rw [q, e2, e7, e8]
    exact Nat.le_refl _
  · have : tm r n' t = 0 := by
      unfold tm
      rw [q2, if_neg (by decide), if_neg (by decide)]
    omega
theorem MU_lt {r : MI} {nt t : Nat} {n n' : Nat → Int32} (ht : t < nt) (ho : ∀ u, u < nt → u ≠ t → tm r n' u = tm r n u) (hl : tm r n' t < tm r n t) : MU r nt n' < MU r nt n := by
  have := sm_upd (k := nt) (f := tm r n) (g := tm r n') ht (fun i hi hne => (ho i hi hne).symm)
  unfold MU
  omega
theorem tm_row {r : MI} {n n' : Nat → Int32} {u : Nat} (h : ∀ j, j = 0 ∨ j = 2 ∨ j = 7 ∨ j = 8 → n' (12 * u + j) = n (12 * u + j)) : tm r n' u = tm r n u := by
  unfold tm mu
  rw [h 0 (by omega), h 2 (by omega), h 7 (by omega), h 8 (by omega)]
section ANY
variable {l : Launch} {D : va_G} {B b : Nat} {N : NT} {G : MI} {GL : ML} {r : MI} {rl : ML} {F P ng nt ns mem c t a : Nat} {k : MI} {n : Nat → Int32} {kl : ML} {q : Nat → Int64}
theorem looks_id (hF : FixR b N) (hnt : r 0 10 = nI nt) (hnt2 : nt ≤ 20) (h : LK r nt n) (G2 : MI) (L : ML) : Cq l D B mX12_looks [vr (some (b + 0))] (RI b r n G2) L N none (RI b r n G2) L := by
  refine n_looks_no hF hnt hnt2 ?_
  by_cases q : n 245 = -9
  · exact Or.inr (h q)
  · exact Or.inl q
theorem step_any (hT : Stc N G GL r rl F P ng nt ns mem) (hX : FixC c P N) (hcF : c + 35 ≤ F) (hF : FixR b N) (ht : t < nt) (ha : N.1 (P + 2) t = some a) (hS : Sim ns k n) (h1 : n (12 * t + 0) = nI 1) (h00 : n (12 * t + 1) = 0) (hp : PIp r n t) (hr : PIr r n t) (hs : PIs r n t) (hLS : LSa r nt ns n kl q) :
    ∃ k2 kl2 v n2 q2 us, StepC l D B c N a (7 + t) k kl G GL k2 kl2 ∧ (∀ G2 S GL2, ∃ S2, Cq l D B mX12_step [vr (some (b + 0)), vi (nI t)] (RI b r n G2) (RLg b rl S q GL2) N (some (vi (F_stV (nI v) us (r 11 t)))) (RI b r n2 G2) (RLg b rl S2 q2 GL2)) ∧ StepRes r nt ns t k n q k2 kl2 v n2 q2 ∧ (v = 1 → usedK N a (upd2 k2 (7 + t) 2 (k2 (7 + t) 2 + nI 1)) (7 + t) = us) ∧ (¬ r 6 t = nI 4 → us = n2 (12 * t + 2)) := by
  have hnt := hT.2.1.2.1
  have ht20 : t < 20 := by omega
  obtain ⟨a', e1, e2, e3, e4, e5, -, -, e6⟩ := hT.2.2.2.2.2.2 t ht
  have ea : a' = a := Option.some.inj (e1.symm.trans ha)
  subst ea
  rcases e6 with ⟨f1, f2, f3, -, f5, -, f7⟩ | ⟨f1, f2, g, ga, f3, f4, f5, f6, f7⟩ | ⟨f1, f2, s, sa, fr, to, f3, f4, f5, f6, f7, f8, f9, f10, f11, f12, f13⟩
  · obtain ⟨k2, v, n2, x1, x2, x3⟩ := step_way (l := l) (D := D) (B := B) hT hX hcF hF ht e2 f1 f2 e3 f3 f5 f7 hS h1 h00 hp hLS
    obtain ⟨so, so1, so2⟩ : ∃ so, r 6 t = nI so ∧ (so = 0 ∨ so = 1) := f2.elim (fun y => ⟨0, y, Or.inl rfl⟩) (fun y => ⟨1, y, Or.inr rfl⟩)
    have h9 : usedK N a' (upd2 k2 (7 + t) 2 (k2 (7 + t) 2 + nI 1)) (7 + t) = n2 (12 * t + 2) := by
      unfold usedK
      rw [if_neg (by rw [f1]; decide), x3.2.1.tr ht20 (by omega), up_ne (by omega)]
    exact ⟨k2, kl, v, n2, q, _, x1, fun G2 S GL2 => ⟨S, n_step_P hF ht20 so1 so2 (x2 G2 (RLg b rl S q GL2))⟩, x3, fun _ => h9, fun _ => rfl⟩
  · obtain ⟨k2, kl2, v, n2, q2, x1, x2, x3⟩ := step_reader (l := l) (D := D) (B := B) hT hX hcF hF ht e2 f1 f2 e3 f3 f4 f5 f6 f7 hS h1 hr hLS
    have h9 : usedK N a' (upd2 k2 (7 + t) 2 (k2 (7 + t) 2 + nI 1)) (7 + t) = n2 (12 * t + 2) := by
      unfold usedK
      rw [if_neg (by rw [f1]; decide), x3.2.1.tr ht20 (by omega), up_ne (by omega)]
    exact ⟨k2, kl2, v, n2, q2, _, x1, fun G2 S GL2 => ⟨S, n_step_R hF ht20 f2 (x2 G2 S GL2)⟩, x3, fun _ => h9, fun _ => rfl⟩
  · obtain ⟨k2, kl2, v, n2, q2, x1, x2, x3⟩ := step_share (l := l) (D := D) (B := B) hT hX hcF hF ht e2 f1 f2 f3 f4 f5 f6 f7 f8 f9 f10 f11 f12 f13 hS h1 h00 hs hLS
    refine ⟨k2, kl2, v, n2, q2, n2 (12 * t + 9), x1, fun G2 S GL2 => ?_, x3, fun hv => ?_, fun y => absurd f2 y⟩
    · obtain ⟨S2, y⟩ := x2 G2 S GL2
      exact ⟨S2, n_step_S hF ht20 f2 y⟩
    · obtain ⟨-, -, -, -, ln, it, -, -, -, -, -, -, -, y1, y2, -⟩ := (x3.2.2.2.2.2.2.1 hv).2.2 f2
      unfold usedK
      rw [if_pos f1, x3.2.1.tr ht20 (by omega), up_ne (by omega), y1, y2]
end ANY

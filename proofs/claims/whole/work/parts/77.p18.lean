/-! ===== what is looked at, and no more ===== -/
def tr (r : MI) : MI := fun o f => cond (Nat.ble o 18) (cond (and (Nat.beq o 0) (Nat.beq f 25)) 0 (r o f)) 0
def trl (r : ML) : ML := fun o f => cond (Nat.ble o 18) (cond (Nat.beq o 0) 0 (r o f)) 0
theorem Stc_tr {N : NT} {G : MI} {GL : ML} {r : MI} {rl : ML} {F P ng nt ns mem : Nat} : Stc N G GL r rl F P ng nt ns mem = Stc N G GL (tr r) (trl rl) F P ng nt ns mem := rfl
theorem JI_tr {r : MI} {nt ns mem nth : Nat} {k : MI} {kl : ML} {n : Nat → Int32} {q : Nat → Int64} : JI r nt ns mem nth k kl n q = JI (tr r) nt ns mem nth k kl n q := rfl
theorem OJ_tr {r : MI} {nt ns : Nat} {k : MI} {kl : ML} {n : Nat → Int32} {q : Nat → Int64} : OJ r nt ns k kl n q = OJ (tr r) nt ns k kl n q := rfl
theorem EJ_tr {r : MI} {nt : Nat} {n : Nat → Int32} : EJ r nt n = EJ (tr r) nt n := rfl
theorem Fr_tr {r : MI} {nt : Nat} {n : Nat → Int32} {q : Nat → Int64} : Fr r nt n q = Fr (tr r) nt n q := rfl
theorem tr_eq {r r' : MI} (h : ∀ o, 1 ≤ o → o ≤ 18 → r' o = r o) (h0 : ∀ f, f ≠ 25 → r' 0 f = r 0 f) : tr r' = tr r := by
  funext o f
  unfold tr
  cases e : Nat.ble o 18
  · rfl
  · by_cases e0 : o = 0
    · subst e0
      by_cases e5 : f = 25
      · subst e5; rfl
      · rw [h0 f e5]
    · rw [h o (by omega) (Nat.le_of_ble_eq_true e)]
theorem trl_eq {r r' : ML} (h : ∀ o, 1 ≤ o → o ≤ 18 → r' o = r o) : trl r' = trl r := by
  funext o f
  unfold trl
  cases e : Nat.ble o 18
  · rfl
  · by_cases e0 : o = 0
    · subst e0; rfl
    · rw [h o (by omega) (Nat.le_of_ble_eq_true e)]
section SAME
variable {N : NT} {G G' : MI} {GL GL' : ML} {r r' : MI} {rl rl' : ML} {F P ng nt ns mem nth c : Nat} {k : MI} {n n' : Nat → Int32} {kl : ML} {q q' : Nat → Int64}
theorem Stc.heap (hG : ∀ a, (P ≤ a ∧ a < P + 5) ∨ F ≤ a → G' a = G a) (hL : ∀ a, F ≤ a → GL' a = GL a) (h : Stc N G GL r rl F P ng nt ns mem) : Stc N G' GL' r rl F P ng nt ns mem := by
  obtain ⟨h1, h2, h3, h4, h5, h6, h7⟩ := h
  refine ⟨h1, ⟨by rw [hG P (Or.inl (by omega))]; exact h2.1, h2.2⟩, ⟨by rw [hG P (Or.inl (by omega))]; exact h3.1, h3.2⟩, h4, fun g hg => ?_, fun s hs => ?_, fun t ht => ?_⟩
  · obtain ⟨ga, la, z, x1, x2, x3, x4, x5, x6, x7⟩ := h5 g hg
    refine ⟨ga, la, z, x1, x2, x3, by rw [hG ga (Or.inr x2)]; exact x4, x5, x6, fun i hi => ?_⟩
    rcases x7 i hi with y | ⟨p, np, m, l, y1, y2, y3, y4, y5, y6, y7, y8⟩
    · exact Or.inl y
    · exact Or.inr ⟨p, np, m, l, y1, y2, y3, y4, y5, y6, by rw [hG p (Or.inr y2)]; exact y7, fun j hj => by rw [hL np y3]; exact y8 j hj⟩
  · obtain ⟨sa, g, ga, x1, x2, x3, x4⟩ := h6 s hs
    exact ⟨sa, g, ga, x1, x2, x3, by rw [hG sa (Or.inr x3), hL sa x3]; exact x4⟩
  · obtain ⟨a, x1, x2, x3⟩ := h7 t ht
    exact ⟨a, x1, x2, by rw [hG a (Or.inr x2), hL a x2]; exact x3⟩
theorem Stc.pt (hP : P + 5 ≤ c) (hcF : c + 35 ≤ F) (h : Stc N G GL r rl F P ng nt ns mem) : Stc N (pt c 35 k G) (pt c 35 kl GL) r rl F P ng nt ns mem :=
  h.heap (fun a ha => pt_out (by omega)) (fun a ha => pt_out (by omega))
theorem Stc.ref (h : Stc N G GL r rl F P ng nt ns mem) (h1 : tr r' = tr r) (h2 : trl rl' = trl rl) : Stc N G GL r' rl' F P ng nt ns mem := by
  rw [Stc_tr, h1, h2, ← Stc_tr]; exact h
theorem Sim.congr (hns : ns ≤ 8) (hn : ∀ j, j < 310 → n' j = n j) (h : Sim ns k n) : Sim ns k n' := by
  intro j hj
  rw [hn j (by unfold Mp at hj; omega)]
  exact h j hj
theorem XI.congr (hn : ∀ j, j < 310 → n' j = n j) (hq : ∀ j, j < 36 → q' j = q j) (h : XI nt ns n q) : XI nt ns n' q' :=
  ⟨fun u h1 h2 => by rw [hn _ (by omega)]; exact h.1 u h1 h2, fun s h1 h2 => by rw [hn _ (by omega), hq _ (by omega)]; exact h.2 s h1 h2⟩
theorem LSh.congr (hns : ns ≤ 8) (hn : ∀ j, j < 310 → n' j = n j) (hq : ∀ j, j < 36 → q' j = q j) (h : LSh ns n kl q) : LSh ns n' kl q' :=
  fun s hs => by rw [hn _ (by omega), hq _ (by omega), hq _ (by omega)]; exact h s hs
theorem JI.congr (hnt : nt ≤ 20) (hns : ns ≤ 8) (hth : nth ≤ 6) (hn : ∀ j, j < 310 → n' j = n j) (hq : ∀ j, j < 36 → q' j = q j) (h : JI r nt ns mem nth k kl n q) : JI r nt ns mem nth k kl n' q' := by
  obtain ⟨hS, hL, hNF, hM, hR, hK, hLS, hZ, hNR, hXI⟩ := h
  have sk : ∀ u, u < nt → (skipR r n' u ↔ skipR r n u) := fun u hu => by unfold skipR; rw [hn _ (by omega)]
  have hNF' : k 0 18 = 0 ∨ ∀ j, j < nt → ¬ (n' (12 * j + 0) = 0 ∧ r 10 j ≤ n' 242) := by
    refine hNF.imp id (fun y j hj z => y j hj ?_)
    rw [hn _ (by omega), hn _ (by omega)] at z
    exact z
  refine ⟨hS.congr hns hn, by rw [hn _ (by omega)]; exact hL, hNF', hM, hR.congr hnt (fun u hu j hj _ => hn _ (by omega)) (fun h hh => hn _ (by omega)) hth (hn _ (by omega)) (hn _ (by omega)) (hn _ (by omega)) (hn _ (by omega)) (hn _ (by omega)), fun h9 t ht hs hn2 => ?_, ⟨fun t ht h23 => ?_, fun t ht h4 => ?_, hLS.2.2.congr hns hn hq⟩, fun t ht h4 => ?_, hNR.congr rfl (hn _ (by omega)) (fun i hi => hn _ (by omega)), hXI.congr hn hq⟩
  · rw [hn _ (by omega)] at h9 ⊢
    exact hK h9 t ht (fun u hu => (sk u (by omega)).mp (hs u hu)) (fun y => hn2 ((sk t ht).mpr y))
  · rw [hq _ (by omega)]; exact hLS.1 t ht h23
  · rw [hn _ (by omega), hq _ (by omega)]; exact hLS.2.1 t ht h4
  · rw [hn _ (by omega)]; exact hZ t ht h4
theorem OJ.congr (hnt : nt ≤ 20) (hns : ns ≤ 8) (hn : ∀ j, j < 310 → n' j = n j) (hq : ∀ j, j < 36 → q' j = q j) (h : OJ r nt ns k kl n q) : OJ r nt ns k kl n' q' := by
  obtain ⟨h1, h2, h3, h4, h5, h6, K, h7, h8⟩ := h
  exact ⟨h1.congr hns hn, h2, fun t ht a b => by rw [hq _ (by omega)]; exact h3 t ht a (by rw [hn _ (by omega)] at b; exact b), h4.congr hns hn hq, h5.congr rfl (hn _ (by omega)) (fun i hi => hn _ (by omega)), h6.congr hn hq, K, h7, by rw [hn _ (by omega)]; exact h8⟩
theorem Fr.congr (hn : ∀ j, j < 310 → n' j = n j) (hq : ∀ j, j < 36 → q' j = q j) (h : Fr r nt n q) : Fr r nt n' q' := by
  obtain ⟨f1, ⟨f2, f3, f4, f5⟩, ⟨g1, g2, g3, f6⟩, f7, f8, f9⟩ := h
  refine ⟨fun t ht j hj h5 => by rw [hn _ (by omega)]; exact f1 t ht j hj h5, ⟨?_, ?_, ?_, ?_⟩, ⟨?_, ?_, ?_, ?_⟩, fun h hh => by rw [hn _ (by omega)]; exact f7 h hh, fun s hs => by rw [hn _ (by omega), hq _ (by omega)]; exact f8 s hs, fun t ht => by rw [hq _ (by omega)]; exact f9 t ht⟩
  all_goals (rw [hn _ (by omega)]; assumption)
end SAME
theorem pt_comm {α : Type} {b c n m : Nat} {k j G : Nat → Nat → α} (h : b + n ≤ c ∨ c + m ≤ b) : pt b n k (pt c m j G) = pt c m j (pt b n k G) := by
  funext a
  by_cases e : b ≤ a ∧ a < b + n
  · rw [show pt c m j (pt b n k G) a = pt b n k G a from pt_out (by omega)]
    unfold pt; rw [if_pos e, if_pos e]
  · rw [show pt b n k (pt c m j G) a = pt c m j G a from pt_out (by omega)]
    by_cases e2 : c ≤ a ∧ a < c + m
    · unfold pt; rw [if_pos e2, if_pos e2]
    · rw [pt_out (by omega), pt_out (by omega), pt_out (by omega)]
theorem pt_pt {α : Type} {b n : Nat} {k j G : Nat → Nat → α} : pt b n k (pt b n j G) = pt b n k G := by
  funext a
  unfold pt
  by_cases e : b ≤ a ∧ a < b + n
  · rw [if_pos e, if_pos e]
  · rw [if_neg e, if_neg e, if_neg e]
theorem F_cp_hit {r : MI} {o : Nat} {n : Nat → Int32} : ∀ (m : Nat) {j : Nat}, j < m → F_cp r o n m o j = n j
  | 0, j, h => absurd h (Nat.not_lt_zero j)
  | m + 1, j, h => by
    show upd2 (F_cp r o n m) o m (n m) o j = n j
    rw [upd2_row]
    by_cases e : j = m
    · subst e; exact up_s _ _ _
    · rw [up_ne e]; exact F_cp_hit m (by omega)
theorem F_cp_miss {r : MI} {o a : Nat} {n : Nat → Int32} (h : a ≠ o) : ∀ (m : Nat), F_cp r o n m a = r a
  | 0 => rfl
  | m + 1 => by
    show upd2 (F_cp r o n m) o m (n m) a = r a
    rw [upd2_ne h]; exact F_cp_miss h m
theorem F_cpl_hit {r : ML} {o : Nat} {n : Nat → Int64} : ∀ (m : Nat) {j : Nat}, j < m → F_cpl r o n m o j = n j
  | 0, j, h => absurd h (Nat.not_lt_zero j)
  | m + 1, j, h => by
    show upd2 (F_cpl r o n m) o m (n m) o j = n j
    rw [upd2_row]
    by_cases e : j = m
    · subst e; exact up_s _ _ _
    · rw [up_ne e]; exact F_cpl_hit m (by omega)
theorem F_cpl_miss {r : ML} {o a : Nat} {n : Nat → Int64} (h : a ≠ o) : ∀ (m : Nat), F_cpl r o n m a = r a
  | 0 => rfl
  | m + 1 => by
    show upd2 (F_cpl r o n m) o m (n m) a = r a
    rw [upd2_ne h]; exact F_cpl_miss h m
theorem F_br_hit {α : Type} {n x : Nat → α} : ∀ (m : Nat) {j : Nat}, j < m → F_br n x m j = x j
  | 0, j, h => absurd h (Nat.not_lt_zero j)
  | m + 1, j, h => by
    show up (F_br n x m) m (x m) j = x j
    by_cases e : j = m
    · subst e; exact up_s _ _ _
    · rw [up_ne e]; exact F_br_hit m (by omega)

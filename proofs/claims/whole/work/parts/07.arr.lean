/-! ===== arrays, what is made ===== -/
theorem nI_out {n : Nat} {i : Int32} {j : Nat} (hi : i = nI j) (hj : j < n) (hn : n < 2 ^ 31) : ¬ (i < 0 ∨ n ≤ i.toNatClampNeg) := by
  rw [hi]; exact nI_in hj hn
section ARR
variable {l : Launch} {D : va_G} {B : Nat} {own : String} {cc : ByteArray} {nL : Nat} {mn : String} {R : Room} {g : GT} {ls ls' : List (Option MV)} {st : List MV} {I : MI} {L : ML} {N : NT} {kc ks : Nat}
theorem G_iald (pc : Nat) (hC : Cx l D B own cc nL mn R g) {a n : Nat} {i : Int32} {j : Nat} {kd : Nat} (hs : N.2.1 a = (kd, n)) (hkd : kd = 12 ∨ kd = 20) (hi : i = nI j) (hj : j < n) (hn : n < 2 ^ 31) (hd : decode cc pc = .ok (.iaload, 1)) (kk : g (pc + 1) ls (vi (I a j) :: st) I L N kc ks) : g pc ls (vi i :: vr (some a) :: st) I L N kc ks := by
  obtain ⟨p, e, s, m, args, below, meth, c, Q, ⟨hx, hb, hml, ho, hts, hK, hnm⟩, rfl⟩ := hC
  intro lr H locs hl hH hS
  have hcell := hH.2.2.1 a
  rw [hs] at hcell
  obtain ⟨cell, c1, c2, c3, c4, c5⟩ := hcell.2.1 hkd
  have hc : i.toNatClampNeg = j := by rw [hi]; exact nI_clamp (by omega)
  exact W.iald (v := .int (I a j)) hx hb c1 c2 c3 (by rw [c4]; exact nI_out hi hj hn) (by rw [hc]; exact c5 j hj) rfl rfl hd (kk lr H locs hl hH hS)
theorem G_lald (pc : Nat) (hC : Cx l D B own cc nL mn R g) {a n : Nat} {i : Int32} {j : Nat} (hs : N.2.1 a = (13, n)) (hi : i = nI j) (hj : j < n) (hn : n < 2 ^ 31) (hd : decode cc pc = .ok (.laload, 1)) (kk : g (pc + 1) ls (vl (L a j) :: st) I L N kc ks) : g pc ls (vi i :: vr (some a) :: st) I L N kc ks := by
  obtain ⟨p, e, s, m, args, below, meth, c, Q, ⟨hx, hb, hml, ho, hts, hK, hnm⟩, rfl⟩ := hC
  intro lr H locs hl hH hS
  have hcell := hH.2.2.1 a
  rw [hs] at hcell
  obtain ⟨cell, c1, c2, c3, c4, c5⟩ := hcell.2.2.1 rfl
  have hc : i.toNatClampNeg = j := by rw [hi]; exact nI_clamp (by omega)
  exact W.lald (v := .long (L a j)) hx hb c1 c2 c3 (by rw [c4]; exact nI_out hi hj hn) (by rw [hc]; exact c5 j hj) rfl rfl hd (kk lr H locs hl hH hS)
theorem G_aald (pc : Nat) (hC : Cx l D B own cc nL mn R g) {a n kd : Nat} {i : Int32} {j : Nat} {r : Option Nat} (hs : N.2.1 a = (kd, n)) (hk1 : 14 ≤ kd) (hk2 : kd < 20) (hi : i = nI j) (hj : j < n) (hn : n < 2 ^ 31) (hr : N.1 a j = r) (hd : decode cc pc = .ok (.aaload, 1)) (kk : g (pc + 1) ls (vr r :: st) I L N kc ks) : g pc ls (vi i :: vr (some a) :: st) I L N kc ks := by
  obtain ⟨p, e, s, m, args, below, meth, c, Q, ⟨hx, hb, hml, ho, hts, hK, hnm⟩, rfl⟩ := hC
  intro lr H locs hl hH hS
  have hcell := hH.2.2.1 a
  rw [hs] at hcell
  obtain ⟨cell, c1, c2, c3, c3', c4, c5⟩ := hcell.2.2.2 hk1 hk2
  have hc : i.toNatClampNeg = j := by rw [hi]; exact nI_clamp (by omega)
  exact W.aald (v := va_rf r) hx hb c1 c2 rfl (by rw [c3]; exact fun h => by cases h) (by rw [c4]; exact nI_out hi hj hn) (by rw [hc, ← hr]; exact c5 j hj) rfl rfl hd (kk lr H locs hl hH hS)
theorem G_alen (pc : Nat) (hC : Cx l D B own cc nL mn R g) {a n kd : Nat} (hs : N.2.1 a = (kd, n)) (hk1 : 12 ≤ kd) (hk2 : kd ≤ 20) (hd : decode cc pc = .ok (.arraylength, 1)) (kk : g (pc + 1) ls (vi (nI n) :: st) I L N kc ks) : g pc ls (vr (some a) :: st) I L N kc ks := by
  obtain ⟨p, e, s, m, args, below, meth, c, Q, ⟨hx, hb, hml, ho, hts, hK, hnm⟩, rfl⟩ := hC
  intro lr H locs hl hH hS
  have hcell := hH.2.2.1 a
  rw [hs] at hcell
  have h : ∃ (cell : Cell) (ty : FieldType), H[a]? = some cell ∧ s.isArrayOf cell ty ∧ cell.slots.size = n := by
    by_cases q2 : kd = 12 ∨ kd = 20
    · obtain ⟨x, x1, x2, -, x4, -⟩ := hcell.2.1 q2
      exact ⟨x, _, x1, x2, x4⟩
    · by_cases q3 : kd = 13
      · obtain ⟨x, x1, x2, -, x4, -⟩ := hcell.2.2.1 q3
        exact ⟨x, _, x1, x2, x4⟩
      · obtain ⟨x, x1, x2, -, -, x4, -⟩ := hcell.2.2.2 (show 14 ≤ kd by omega) (show kd < 20 by omega)
        exact ⟨x, _, x1, x2, x4⟩
  obtain ⟨cell, ty, c1, c2, c4⟩ := h
  exact W.alen hx hb c1 c2 (by rw [c4]; rfl) rfl rfl hd (kk lr H locs hl hH hS)
theorem slots_set {cell : Cell} {n j : Nat} {f : Nat → Value} {v : Value} (h : ∀ k : Nat, k < n → cell.slots[k]? = some (f k)) (hj : j < n) (hz : cell.slots.size = n) : ∀ k : Nat, k < n → (cell.setSlot j v).slots[k]? = some (up f j v k) := by
  intro k hk
  by_cases e : k = j
  · subst e
    rw [Cell.slots_setSlot_self _ (by omega), up_s]
  · rw [slot_ne _ _ (fun q => e q.symm), up_n _ _ e]
    exact h k hk
theorem G_iast (pc : Nat) (hC : Cx l D B own cc nL mn R g) {a n : Nat} {i x : Int32} {j : Nat} (hs : N.2.1 a = (12, n)) (hi : i = nI j) (hj : j < n) (hn : n < 2 ^ 31) (hd : decode cc pc = .ok (.iastore, 1)) (kk : g (pc + 1) ls st (upd2 I a j x) L N kc ks) : g pc ls (vi x :: vi i :: vr (some a) :: st) I L N kc ks := by
  obtain ⟨p, e, s, m, args, below, meth, c, Q, ⟨hx, hb, hml, ho, hts, hK, hnm⟩, rfl⟩ := hC
  intro lr H locs hl hH hS
  have hcell := hH.2.2.1 a
  have hlow : (N.2.1 a).1 < 20 := by rw [hs]; simp only; omega
  have hBa : B ≤ a := hH.2.2.2.2 a hlow
  rw [hs] at hcell
  obtain ⟨cell, c1, c2, c3, c4, c5⟩ := hcell.2.1 (Or.inl rfl)
  have hc : i.toNatClampNeg = j := by rw [hi]; exact nI_clamp (by omega)
  refine W.iast hx hb c1 c2 c3 (by rw [c4]; exact nI_out hi hj hn) rfl rfl hd fun H' e1 e2 e3 => ?_
  rw [hc] at e1 ⊢
  refine kk lr H' _ hl (hH.put hlow e2 e3 rfl (fun q h => ⟨upd2_ne h, rfl, rfl⟩) ?_) (hS.put e2 e3 hBa)
  rw [hs]
  refine ⟨fun h => absurd h (by simp only; omega), fun _ => ⟨_, e1, c2, c3, by simpa [Cell.setSlot] using c4, fun k hk => ?_⟩, fun h => absurd h (by simp only; omega), fun h => absurd h (by simp only; omega)⟩
  rw [slots_set (f := fun k => .int (I a k)) c5 hj c4 k hk, upd2_row]
  by_cases q : k = j <;> simp [up, q]
theorem G_last (pc : Nat) (hC : Cx l D B own cc nL mn R g) {a n : Nat} {i : Int32} {x : Int64} {j : Nat} (hs : N.2.1 a = (13, n)) (hi : i = nI j) (hj : j < n) (hn : n < 2 ^ 31) (hd : decode cc pc = .ok (.lastore, 1)) (kk : g (pc + 1) ls st I (upd2 L a j x) N kc ks) : g pc ls (vl x :: vi i :: vr (some a) :: st) I L N kc ks := by
  obtain ⟨p, e, s, m, args, below, meth, c, Q, ⟨hx, hb, hml, ho, hts, hK, hnm⟩, rfl⟩ := hC
  intro lr H locs hl hH hS
  have hcell := hH.2.2.1 a
  have hlow : (N.2.1 a).1 < 20 := by rw [hs]; simp only; omega
  have hBa : B ≤ a := hH.2.2.2.2 a hlow
  rw [hs] at hcell
  obtain ⟨cell, c1, c2, c3, c4, c5⟩ := hcell.2.2.1 rfl
  have hc : i.toNatClampNeg = j := by rw [hi]; exact nI_clamp (by omega)
  refine W.last hx hb c1 c2 c3 (by rw [c4]; exact nI_out hi hj hn) rfl rfl hd fun H' e1 e2 e3 => ?_
  rw [hc] at e1 ⊢
  refine kk lr H' _ hl (hH.put hlow e2 e3 rfl (fun q h => ⟨rfl, upd2_ne h, rfl⟩) ?_) (hS.put e2 e3 hBa)
  rw [hs]
  refine ⟨fun h => absurd h (by simp only; omega), fun h => absurd h (by simp only; omega), fun _ => ⟨_, e1, c2, c3, by simpa [Cell.setSlot] using c4, fun k hk => ?_⟩, fun h => absurd h (by simp only; omega)⟩
  rw [slots_set (f := fun k => .long (L a k)) c5 hj c4 k hk, upd2_row]
  by_cases q : k = j <;> simp [up, q]
theorem ast_fin {s : State} {H H' : Heap} {a n kd j : Nat} {r : Option Nat} {cell : Cell} (hH : Hp D B s H I L N) (hs : N.2.1 a = (kd, n)) (hk1 : 14 ≤ kd) (hk2 : kd < 20) (hj : j < n) (c2 : s.isArrayOf cell (.object (elC kd))) (c3 : cell.vm = .none) (c3' : va_RA s cell.cls (.object (elC kd))) (c4 : cell.slots.size = n) (c5 : ∀ j : Nat, j < n → cell.slots[j]? = some (va_rf (N.1 a j)))
    (e1 : H'[a]? = some (cell.setSlot j (va_rf r))) (e2 : H'.size = H.size) (e3 : ∀ q, q ≠ a → H'[q]? = H[q]?) : Hp D B s H' I L (upd2 N.1 a j r, N.2) := by
  refine hH.put (by rw [hs]; show kd < 20; exact hk2) e2 e3 rfl (fun q h => ⟨rfl, rfl, upd2_ne h⟩) ?_
  rw [hs]
  refine ⟨fun h => absurd h (by show ¬ kd < 12; omega), fun h => absurd h (by show ¬ (kd = 12 ∨ kd = 20); omega), fun h => absurd h (by show ¬ kd = 13; omega), fun _ _ => ⟨_, e1, c2, c3, c3', by simpa [Cell.setSlot] using c4, fun k hk => ?_⟩⟩
  rw [slots_set (f := fun k => va_rf (N.1 a k)) c5 hj c4 k hk]
  show _ = some (va_rf ((upd2 N.1 a j r) a k))
  rw [upd2_row]
  by_cases q : k = j <;> simp [up, q]
theorem G_aastN (pc : Nat) (hC : Cx l D B own cc nL mn R g) {a n kd : Nat} {i : Int32} {j : Nat} (hs : N.2.1 a = (kd, n)) (hk1 : 14 ≤ kd) (hk2 : kd < 20) (hi : i = nI j) (hj : j < n) (hn : n < 2 ^ 31) (hd : decode cc pc = .ok (.aastore, 1)) (kk : g (pc + 1) ls st I L (upd2 N.1 a j none, N.2) kc ks) : g pc ls (vr none :: vi i :: vr (some a) :: st) I L N kc ks := by
  obtain ⟨p, e, s, m, args, below, meth, c, Q, ⟨hx, hb, hml, ho, hts, hK, hnm⟩, rfl⟩ := hC
  intro lr H locs hl hH hS
  have hcell := hH.2.2.1 a
  have hBa : B ≤ a := hH.2.2.2.2 a (by rw [hs]; exact hk2)
  rw [hs] at hcell
  obtain ⟨cell, c1, c2, c3, c3', c4, c5⟩ := hcell.2.2.2 hk1 hk2
  have hc : i.toNatClampNeg = j := by rw [hi]; exact nI_clamp (by omega)
  refine va_WaastN (C := elC kd) hx hb c1 c2 (by rw [c3]; exact fun h => by cases h) (by rw [c4]; exact nI_out hi hj hn) rfl rfl hd fun H' e1 e2 e3 => ?_
  rw [hc] at e1 ⊢
  exact kk lr H' _ hl (ast_fin hH hs hk1 hk2 hj c2 c3 c3' c4 c5 e1 e2 e3) (hS.put e2 e3 hBa)
/-- an object of the class itself, or of one that may be cast to it -/
theorem G_aast (pc : Nat) (hC : Cx l D B own cc nL mn R g) {a n kd b ci nb : Nat} {i : Int32} {j : Nat} (q : vw_C) (hs : N.2.1 a = (kd, n)) (hk1 : 14 ≤ kd) (hk2 : kd < 20) (hb0 : N.2.1 b = (ci, nb)) (hcq : vwCl[ci]? = some q) (hcast : q.1 = elC kd ∨ Cond.castable q.1 (elC kd) ∈ nwL) (hi : i = nI j) (hj : j < n) (hn : n < 2 ^ 31) (hd : decode cc pc = .ok (.aastore, 1)) (kk : g (pc + 1) ls st I L (upd2 N.1 a j (some b), N.2) kc ks) : g pc ls (vr (some b) :: vi i :: vr (some a) :: st) I L N kc ks := by
  obtain ⟨p, e, s, m, args, below, meth, c, Q, ⟨hx, hb, hml, ho, hts, hK, hnm⟩, rfl⟩ := hC
  intro lr H locs hl hH hS
  have hcell := hH.2.2.1 a
  have hBa : B ≤ a := hH.2.2.2.2 a (by rw [hs]; exact hk2)
  rw [hs] at hcell
  obtain ⟨cell, c1, c2, c3, c3', c4, c5⟩ := hcell.2.2.2 hk1 hk2
  have hcb := hH.2.2.1 b
  rw [hb0] at hcb
  have hci := (cls_ok ci q hcq).1
  obtain ⟨q', hq', cellV, g1, g2, g3, -⟩ := hcb.1 hci
  have hcls := (hK.1.1 ci q hcq).2
  obtain ⟨kC, hkC, -⟩ := hcls.2
  obtain ⟨kA, comp, k1, k2, k3, k4⟩ := id c3'
  have hc : i.toNatClampNeg = j := by rw [hi]; exact nI_clamp (by omega)
  obtain ⟨kcomp, hkcomp, -⟩ := Vm.findClass_spec k3
  have hasg : s.vm.assignable cellV.cls comp = true := by
    rcases hcast with h | h
    · have : comp = D.1 ci := Option.some.inj (k3.symm.trans (by rw [← h]; exact hcls.1))
      rw [this, g2]; exact va_assign hcls
    · obtain ⟨c0, t1, f1, f2, f3⟩ := Cond.castable_spec (va_Nw.use (A := args) rfl (hK.2.2.2 _ h))
      cases hcls.1.symm.trans f1
      cases k3.symm.trans f2
      rw [g2]; exact f3
  refine W.aast hx hb c1 (fun q h => by rw [c3] at h; cases h) (fun h => by rw [c3] at h; cases h) k1 k2 rfl hkcomp ⟨fun h => (nI_out hi hj hn) (Or.inl h), by rw [c4, hc]; exact hj⟩ g1 (fun q h => by rw [g3] at h; cases h) (by rw [g2]; exact hkC) hasg rfl rfl hd fun H' e1 e2 e3 => ?_
  rw [hc] at e1 ⊢
  exact kk lr H' _ hl (ast_fin (r := some b) hH hs hk1 hk2 hj c2 c3 c3' c4 c5 e1 e2 e3) (hS.put e2 e3 hBa)
end ARR

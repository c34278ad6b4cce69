/-! ===== both sides: which place of 'now' is which cell of a course ===== -/
def hdL : List Nat := [13, 14, 11, 12, 9, 15, 16]
def lo (j : Nat) : Nat × Nat := if j < 240 then (7 + j / 12, if j % 12 < 9 then j % 12 else j % 12 + 1) else if j < 250 then (0, hdL.getD (j - 240) 0) else if j < 256 then (4, j - 250) else if j < 262 then (5, j - 256) else if j < 302 then (6, j - 262) else (27 + (j - 302), 1)
def Mp (ns j : Nat) : Prop := (j < 240 ∧ j % 12 ≠ 9) ∨ (240 ≤ j ∧ j < 246) ∨ (250 ≤ j ∧ j < 262) ∨ (302 ≤ j ∧ j < 302 + ns)
theorem hdL_inj : ∀ a, a < 6 → ∀ b, b < 6 → hdL.getD a 0 = hdL.getD b 0 → a = b := by decide
theorem hdL_ne : ∀ a, a < 6 → hdL.getD a 0 ≠ 17 ∧ hdL.getD a 0 ≠ 18 ∧ hdL.getD a 0 ≠ 16 := by decide
theorem lo_inj {ns i j : Nat} (hi : Mp ns i) (hj : Mp ns j) (h : lo i = lo j) : i = j := by
  unfold Mp at hi hj
  unfold lo at h
  by_cases a1 : i < 240
  · rw [if_pos a1] at h
    by_cases b1 : j < 240
    · rw [if_pos b1] at h
      have h1 := congrArg Prod.fst h
      have h2 := congrArg Prod.snd h
      simp only at h1 h2
      split at h2 <;> split at h2 <;> omega
    · rw [if_neg b1] at h
      have h1 := congrArg Prod.fst h
      repeat' split at h1
      all_goals (simp only at h1; omega)
  · rw [if_neg a1] at h
    by_cases b1 : j < 240
    · rw [if_pos b1] at h
      have h1 := congrArg Prod.fst h
      repeat' split at h1
      all_goals (simp only at h1; omega)
    · rw [if_neg b1] at h
      by_cases a2 : i < 250
      · by_cases b2 : j < 250
        · rw [if_pos a2, if_pos b2] at h
          have h2 := congrArg Prod.snd h
          simp only at h2
          generalize hx : i - 240 = x at h2
          generalize hy : j - 240 = y at h2
          have := hdL_inj x (by omega) y (by omega) h2
          omega
        · rw [if_pos a2, if_neg b2] at h
          have h1 := congrArg Prod.fst h
          repeat' split at h1
          all_goals (simp only at h1; omega)
      · by_cases b2 : j < 250
        · rw [if_neg a2, if_pos b2] at h
          have h1 := congrArg Prod.fst h
          repeat' split at h1
          all_goals (simp only at h1; omega)
        · rw [if_neg a2, if_neg b2] at h
          repeat' split at h
          all_goals (have h1 := congrArg Prod.fst h; have h2 := congrArg Prod.snd h; simp only at h1 h2; omega)
theorem lo_no {ns i f : Nat} (hi : Mp ns i) (hf : f = 17 ∨ f = 18 ∨ f = 16) : lo i ≠ (0, f) := by
  intro h
  unfold Mp at hi
  unfold lo at h
  by_cases a1 : i < 240
  · rw [if_pos a1] at h
    have h1 := congrArg Prod.fst h
    simp only at h1
    omega
  · rw [if_neg a1] at h
    by_cases a2 : i < 250
    · rw [if_pos a2] at h
      have h2 := congrArg Prod.snd h
      simp only at h2
      have := hdL_ne (i - 240) (by omega)
      omega
    · rw [if_neg a2] at h
      have h1 := congrArg Prod.fst h
      repeat' split at h1
      all_goals (simp only at h1; omega)
theorem lo_no3 {ns i f : Nat} (hi : Mp ns i) : lo i ≠ (3, f) := by
  intro h
  unfold lo at h
  have h1 := congrArg Prod.fst h
  repeat' split at h1
  all_goals (simp only at h1; omega)
theorem lo_t {t f : Nat} (ht : t < 20) (hf : f < 9) : lo (12 * t + f) = (7 + t, f) := by
  unfold lo
  rw [if_pos (by omega), show (12 * t + f) / 12 = t by omega, show (12 * t + f) % 12 = f by omega, if_pos hf]
theorem lo_s {t : Nat} (ht : t < 20) : lo (12 * t + 10) = (7 + t, 11) := by
  unfold lo
  rw [if_pos (by omega), show (12 * t + 10) / 12 = t by omega, show (12 * t + 10) % 12 = 10 by omega, if_neg (by omega)]
theorem lo_i {t : Nat} (ht : t < 20) : lo (12 * t + 11) = (7 + t, 12) := by
  unfold lo
  rw [if_pos (by omega), show (12 * t + 11) / 12 = t by omega, show (12 * t + 11) % 12 = 11 by omega, if_neg (by omega)]
theorem lo_h {h : Nat} (hh : h < 6) : lo (250 + h) = (4, h) := by
  unfold lo
  rw [if_neg (by omega), if_neg (by omega), if_pos (by omega), show 250 + h - 250 = h by omega]
theorem lo_e {h : Nat} (hh : h < 6) : lo (256 + h) = (5, h) := by
  unfold lo
  rw [if_neg (by omega), if_neg (by omega), if_neg (by omega), if_pos (by omega), show 256 + h - 256 = h by omega]
theorem lo_n {i : Nat} (hi : i < 40) : lo (262 + i) = (6, i) := by
  unfold lo
  rw [if_neg (by omega), if_neg (by omega), if_neg (by omega), if_neg (by omega), if_pos (by omega), show 262 + i - 262 = i by omega]
theorem lo_b (s : Nat) : lo (302 + s) = (27 + s, 1) := by
  unfold lo
  rw [if_neg (by omega), if_neg (by omega), if_neg (by omega), if_neg (by omega), if_neg (by omega), show 302 + s - 302 = s by omega]
theorem Mp_t {ns t f : Nat} (ht : t < 20) (hf : f < 12) (h9 : f ≠ 9) : Mp ns (12 * t + f) := Or.inl ⟨by omega, by omega⟩
theorem Mp_c {ns j : Nat} (h1 : 240 ≤ j) (h2 : j < 246) : Mp ns j := Or.inr (Or.inl ⟨h1, h2⟩)
theorem Mp_r {ns j : Nat} (h1 : 250 ≤ j) (h2 : j < 262) : Mp ns j := Or.inr (Or.inr (Or.inl ⟨h1, h2⟩))
theorem Mp_b {ns j : Nat} (h1 : 302 ≤ j) (h2 : j < 302 + ns) : Mp ns j := Or.inr (Or.inr (Or.inr ⟨h1, h2⟩))
theorem lo_no6 {ns i f : Nat} (hi : Mp ns i) : lo i ≠ (6, f) := by
  intro h
  unfold Mp at hi
  unfold lo at h
  have h1 := congrArg Prod.fst h
  repeat' split at h1
  all_goals (simp only at h1; omega)
theorem up_comm {α : Type} {f : Nat → α} {a b : Nat} {v w : α} (h : a ≠ b) : up (up f a v) b w = up (up f b w) a v := by
  funext x
  by_cases h1 : x = b
  · subst h1; rw [up_s, up_ne (fun q => h q.symm), up_s]
  · rw [up_ne h1]
    by_cases h2 : x = a
    · subst h2; rw [up_s, up_s]
    · rw [up_ne h2, up_ne h2, up_ne h1]
def Sim (ns : Nat) (k : MI) (n : Nat → Int32) : Prop := ∀ j, Mp ns j → k (lo j).1 (lo j).2 = n j
section SIM
variable {ns : Nat} {k : MI} {n : Nat → Int32}
theorem Sim.get {j a f : Nat} (h : Sim ns k n) (hl : lo j = (a, f)) (hm : Mp ns j) : k a f = n j := by
  have := h j hm
  rw [hl] at this
  exact this
theorem Sim.put {j a f : Nat} {v : Int32} (h : Sim ns k n) (hl : lo j = (a, f)) (hm : Mp ns j) : Sim ns (upd2 k a f v) (up n j v) := by
  intro i hi
  by_cases e : i = j
  · subst e
    rw [hl, up_s, upd2_row, up_s]
  · rw [up_ne e]
    by_cases e1 : (lo i).1 = a
    · by_cases e2 : (lo i).2 = f
      · exact absurd (lo_inj hi hm (by rw [hl, ← e1, ← e2])) e
      · rw [e1, upd2_row, up_ne e2, ← e1]; exact h i hi
    · rw [upd2_ne e1]; exact h i hi
theorem Sim.putK {a f : Nat} {v : Int32} (h : Sim ns k n) (hn : ∀ i, Mp ns i → lo i ≠ (a, f)) : Sim ns (upd2 k a f v) n := by
  intro i hi
  by_cases e1 : (lo i).1 = a
  · by_cases e2 : (lo i).2 = f
    · exact absurd (by rw [← e1, ← e2]) (hn i hi)
    · rw [e1, upd2_row, up_ne e2, ← e1]; exact h i hi
  · rw [upd2_ne e1]; exact h i hi
theorem Sim.put17 {v : Int32} (h : Sim ns k n) : Sim ns (upd2 k 0 17 v) n := h.putK (fun _ hi => lo_no hi (Or.inl rfl))
theorem Sim.put18 {v : Int32} (h : Sim ns k n) : Sim ns (upd2 k 0 18 v) n := h.putK (fun _ hi => lo_no hi (Or.inr (Or.inl rfl)))
theorem Sim.put16 {v : Int32} (h : Sim ns k n) : Sim ns (upd2 k 0 16 v) n := h.putK (fun _ hi => lo_no hi (Or.inr (Or.inr rfl)))
theorem Sim.putN {j : Nat} {v : Int32} (h : Sim ns k n) (hn : ¬ Mp ns j) : Sim ns k (up n j v) := by
  intro i hi
  have e : i ≠ j := fun e => hn (by rw [← e]; exact hi)
  rw [up_ne e]
  exact h i hi
theorem Sim.to {n' : Nat → Int32} (h : Sim ns k n) (e : n = n') : Sim ns k n' := e ▸ h
theorem Sim.tr {t f : Nat} (h : Sim ns k n) (ht : t < 20) (hf : f < 9) : k (7 + t) f = n (12 * t + f) := h.get (lo_t ht hf) (Mp_t ht (by omega) (by omega))
theorem Sim.ts {t : Nat} (h : Sim ns k n) (ht : t < 20) : k (7 + t) 11 = n (12 * t + 10) := h.get (lo_s ht) (Mp_t ht (by omega) (by omega))
theorem Sim.ti {t : Nat} (h : Sim ns k n) (ht : t < 20) : k (7 + t) 12 = n (12 * t + 11) := h.get (lo_i ht) (Mp_t ht (by omega) (by omega))
theorem Sim.th {t : Nat} (h : Sim ns k n) (ht : t < 6) : k 4 t = n (250 + t) := h.get (lo_h ht) (Mp_r (by omega) (by omega))
theorem Sim.te {t : Nat} (h : Sim ns k n) (ht : t < 6) : k 5 t = n (256 + t) := h.get (lo_e ht) (Mp_r (by omega) (by omega))
theorem Sim.tb {t : Nat} (h : Sim ns k n) (ht : t < ns) : k (27 + t) 1 = n (302 + t) := h.get (lo_b t) (Mp_b (by omega) (by omega))
theorem Sim.t13 (h : Sim ns k n) : k 0 13 = n 240 := h.get rfl (Mp_c (by omega) (by omega))
theorem Sim.t14 (h : Sim ns k n) : k 0 14 = n 241 := h.get rfl (Mp_c (by omega) (by omega))
theorem Sim.t11 (h : Sim ns k n) : k 0 11 = n 242 := h.get rfl (Mp_c (by omega) (by omega))
theorem Sim.t12 (h : Sim ns k n) : k 0 12 = n 243 := h.get rfl (Mp_c (by omega) (by omega))
theorem Sim.t9 (h : Sim ns k n) : k 0 9 = n 244 := h.get rfl (Mp_c (by omega) (by omega))
theorem Sim.t15 (h : Sim ns k n) : k 0 15 = n 245 := h.get rfl (Mp_c (by omega) (by omega))
theorem Mp_n6 : ¬ Mp ns 246 := by unfold Mp; omega
theorem Mp_n7 {j : Nat} (h : j = 247 ∨ j = 248 ∨ j = 249) : ¬ Mp ns j := by unfold Mp; omega
theorem Mp_n9 {t : Nat} (ht : t < 20) : ¬ Mp ns (12 * t + 9) := by unfold Mp; omega
variable {r : MI} {t h K : Nat}
theorem Mp_n2 {j : Nat} (h1 : 262 ≤ j) (h2 : j < 302) : ¬ Mp ns j := by unfold Mp; omega
theorem write_sim {x : Int32} (hS : Sim ns k n) (hK : K < 40) : Sim ns (W_write k K x) (F_notes n K x) := by
  unfold W_write F_notes
  exact ((hS.putK (fun _ hi => lo_no6 hi)).putN (Mp_n2 (by omega) (by omega))).put rfl (Mp_c (by omega) (by omega))
/-- the notes that are written -/
def NR (k : MI) (n : Nat → Int32) : Prop := ∀ K, n 244 = nI K → K ≤ 40 → ∀ i, i < K → k 6 i = n (262 + i)
theorem NR.congr {k' : MI} {n' : Nat → Int32} (h : NR k n) (hk : k' 6 = k 6) (h4 : n' 244 = n 244) (hn : ∀ i, i < 40 → n' (262 + i) = n (262 + i)) : NR k' n' := by
  intro K hK hK2 i hi
  rw [hk, hn i (by omega)]
  exact h K (h4 ▸ hK) hK2 i hi
theorem NR.write {x : Int32} (h : NR k n) (hK : n 244 = nI K) (hK2 : K < 40) : NR (W_write k K x) (F_notes n K x) := by
  intro K' hK' hK2' i hi
  unfold F_notes at hK' ⊢
  rw [up_s] at hK'
  have e : K + 1 = K' := by
    have q := hK'
    exact (nI_eq (by omega) (by omega)).mp q
  unfold W_write
  rw [upd2_ne (by omega), upd2_row, show up (up n (262 + K) x) 244 (nI (K + 1)) (262 + i) = up n (262 + K) x (262 + i) from up_ne (by omega)]
  by_cases e2 : i = K
  · subst e2; rw [up_s, up_s]
  · rw [up_ne e2, up_ne (by omega)]
    exact h K hK (by omega) i (by omega)
theorem leave_sim {v nd : Int32} (hS : Sim ns k (up n (12 * t + 0) v)) (ht : t < 20) (hh : h < 6) (hK : K < 40) (hnd : nd = r 10 t) : Sim ns (W_leave k nd t h K) (F_ends r n t v h K) := by
  have e0 : k (7 + t) 0 = v := (hS.tr ht (by omega)).trans (up_s _ _ _)
  have e5 : k 5 h = n (256 + h) := (hS.te hh).trans (up_ne (by omega))
  have e11 : k 0 11 = n 242 := hS.t11.trans (up_ne (by omega))
  have e : F_ends r n t v h K = F_notes (up (up (up (up (up n (12 * t + 0) v) (250 + h) (-9)) (256 + h) (n (256 + h) + nI 1)) 242 (n 242 + r 10 t)) 247 (n 247 - nI 1)) K (nI (100 * t + 10 * h) + v) := by
    unfold F_ends
    rw [up_comm (f := up n (12 * t + 0) v) (a := 242) (b := 250 + h) (by omega), up_comm (a := 242) (b := 256 + h) (by omega)]
  rw [e]
  unfold W_leave
  rw [e0, e5, e11, hnd, pk_mul, pk_mul, nI_add]
  refine write_sim ?_ hK
  exact ((((((hS.put (lo_h hh) (Mp_r (by omega) (by omega))).put (lo_e hh) (Mp_r (by omega) (by omega))).put17).put (j := 242) rfl (Mp_c (by omega) (by omega))).put18).putN (Mp_n7 (Or.inl rfl)))
theorem take_sim {nd : Int32} (hS : Sim ns k n) (ht : t < 20) (hh : h < 6) (hK : K < 40) (hnd : nd = r 10 t) (hm : k 0 1 = r 0 2) : Sim ns (W_take k nd t h K) (F_takes r n t h K) := by
  have e3 : k (7 + t) 3 = n (12 * t + 3) := hS.tr ht (by omega)
  have e11 : k 0 11 = n 242 := hS.t11
  have e12 : k 0 12 = n 243 := hS.t12
  unfold W_take F_takes
  rw [e3, e11, e12, hnd, hm, pk_mul, pk_mul, nI_add, nI_add]
  refine write_sim ?_ hK
  exact ((((((hS.put (lo_t ht (by omega)) (Mp_t ht (by omega) (by omega))).put (lo_t ht (by omega)) (Mp_t ht (by omega) (by omega))).put (lo_t ht (by omega)) (Mp_t ht (by omega) (by omega))).put (lo_h hh) (Mp_r (by omega) (by omega))).putN (j := 248) (Mp_n7 (Or.inr (Or.inl rfl)))).put (j := 242) rfl (Mp_c (by omega) (by omega))).put (j := 243) rfl (Mp_c (by omega) (by omega))
theorem NR.leave {v nd : Int32} (h0 : NR k n) (hk : k (7 + t) 0 = v) (ht : t < 20) (hh : h < 6) (hK : n 244 = nI K) (hK2 : K < 40) : NR (W_leave k nd t h K) (F_ends r n t v h K) := by
  unfold W_leave F_ends
  rw [hk, pk_mul, pk_mul, nI_add]
  refine NR.write (h0.congr ?_ ?_ (fun i hi => ?_)) ?_ hK2
  · simp (disch := omega) only [upd2_ne]
  · simp (disch := omega) only [up_ne]
  · simp (disch := omega) only [up_ne]
  · simp (disch := omega) only [up_ne]; exact hK
theorem NR.take {nd : Int32} (h0 : NR k n) (ht : t < 20) (hh : h < 6) (hK : n 244 = nI K) (hK2 : K < 40) : NR (W_take k nd t h K) (F_takes r n t h K) := by
  unfold W_take F_takes
  rw [pk_mul, pk_mul, nI_add, nI_add]
  refine NR.write (h0.congr ?_ ?_ (fun i hi => ?_)) ?_ hK2
  · simp (disch := omega) only [upd2_ne]
  · simp (disch := omega) only [up_ne]
  · simp (disch := omega) only [up_ne]
  · simp (disch := omega) only [up_ne]; exact hK
theorem falls_sim {v : Int32} (hS : Sim ns k n) (ht : t < 20) : Sim ns (W_ew k t v) (F_falls n t v) := by
  unfold W_ew F_falls
  exact (((hS.put (lo_t ht (by omega)) (Mp_t ht (by omega) (by omega))).put17).putN (Mp_n7 (Or.inl rfl))).putN (Mp_n7 (Or.inr (Or.inl rfl)))
end SIM

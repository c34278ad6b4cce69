/-! ===== a turn on both sides ===== -/
/-- no line of a share is lost in a run -/
def LZ (r : MI) (nt : Nat) (n : Nat → Int32) : Prop := ∀ t, t < nt → r 6 t = nI 4 → n (12 * t + 6) = 0
/-- what is not told yet is as it was begun -/
def XI (nt ns : Nat) (n : Nat → Int32) (q : Nat → Int64) : Prop := (∀ u, nt ≤ u → u < 20 → n (12 * u + 0) = 0) ∧ ∀ s, ns ≤ s → s < 8 → n (302 + s) = -9 ∧ q (20 + s) = -9223372036854775808
/-- what holds of a run on both sides -/
def JI (r : MI) (nt ns mem nth : Nat) (k : MI) (kl : ML) (n : Nat → Int32) (q : Nat → Int64) : Prop := Sim ns k n ∧ k 0 17 = n 247 ∧ (k 0 18 = 0 ∨ ∀ j, j < nt → ¬ (n (12 * j + 0) = 0 ∧ r 10 j ≤ n 242)) ∧ k 0 1 = r 0 2 ∧ RV r nt nth mem n ∧ LK r nt n ∧ LSa r nt ns n kl q ∧ LZ r nt n ∧ NR k n ∧ XI nt ns n q
/-- a turn of thread h brings a run on, or is passed -/
def Prog (r : MI) (nt h : Nat) (n n' : Nat → Int32) : Prop := MU r nt n' < MU r nt n ∨ (n (250 + h) = -9 ∧ (∀ j, j < 240 → n' j = n j) ∧ (∀ g, g < 6 → n' (250 + g) = n (250 + g)) ∧ n' 242 = n 242 ∧ ∀ u, u < nt → ¬ (n (12 * u + 0) = 0 ∧ r 10 u ≤ n 242))
theorem least {Q : Nat → Prop} : ∀ (m : Nat), (∃ w, w < m ∧ Q w) → ∃ w, w < m ∧ Q w ∧ ∀ j, j < w → ¬ Q j
  | 0, ⟨w, hw, _⟩ => absurd hw (Nat.not_lt_zero w)
  | m + 1, ⟨w, hw, hq⟩ => by
    by_cases h : ∃ w, w < m ∧ Q w
    · obtain ⟨w', h1, h2, h3⟩ := least m h
      exact ⟨w', by omega, h2, h3⟩
    · have e : w = m := by
        rcases Nat.lt_or_ge w m with y | y
        · exact absurd ⟨w, y, hq⟩ h
        · omega
      subst e
      exact ⟨w, by omega, hq, fun j hj y => h ⟨j, hj, y⟩⟩
section LSK
variable {r : MI} {nt ns : Nat} {n n' : Nat → Int32} {kl : ML} {q : Nat → Int64}
theorem LSa.congr (hns : ns ≤ 8) (h8 : ∀ u, u < nt → n' (12 * u + 8) = n (12 * u + 8)) (hb : ∀ s, s < ns → n' (302 + s) = n (302 + s)) (h : LSa r nt ns n kl q) : LSa r nt ns n' kl q :=
  ⟨h.1, fun u hu h4 => by rw [h8 u hu]; exact h.2.1 u hu h4, fun s hs => by rw [hb s hs]; exact h.2.2 s hs⟩
end LSK
theorem tm_1 {r : MI} {n : Nat → Int32} {t : Nat} (h : n (12 * t + 0) = nI 1) : tm r n t = if r 6 t = nI 4 then 300 - mu n t else 1001 - (n (12 * t + 2)).toNatClampNeg := by
  unfold tm
  rw [h, if_neg (by decide), if_pos rfl]
theorem subI_lt {a : Int32} {m : Nat} (h : a = nI m) (h0 : 0 < m) (hm : m < 2 ^ 31) : a - nI 1 < a := by
  rw [h, pk_sub (by omega)]
  exact (nI_ltI (by omega) hm).mpr (by omega)
section TURN
variable {l : Launch} {D : va_G} {B b : Nat} {N : NT} {G : MI} {GL : ML} {r : MI} {rl : ML} {F P ng nt ns mem nth c h : Nat} {k : MI} {n : Nat → Int32} {kl : ML} {q : Nat → Int64}
/-- a task that ends leaves both sides alike; then a look -/
theorem end_sim {t a s K : Nat} {k0 : MI} {n0 : Nat → Int32} {kl0 : ML} {q0 : Nat → Int64} (hT : Stc N G GL r rl F P ng nt ns mem) (hX : FixC c P N) (hP : P + 5 ≤ c) (hcF : c + 35 ≤ F) (hF : FixR b N) (hth : nth ≤ 6) (hh : h < nth) (ht : t < nt) (ha : N.1 (P + 2) t = some a) (h2 : 2 ≤ s) (h6 : s ≤ 6)
    (hS : Sim ns k0 (up n0 (12 * t + 0) (nI s))) (hL : k0 0 17 = n0 247) (hm : k0 0 1 = r 0 2) (hO : ∀ u, u < nt → u ≠ t → TV r nth n0 u) (hH : HV nt nth n0) (hC : CV r nt mem n0) (hV : KV r nt n0) (h1 : n0 (12 * t + 0) = nI 1) (hp : n0 (250 + h) = nI t) (hq : n0 (12 * t + 5) = nI h) (hf10 : n0 (12 * t + 10) = 0 ∨ n0 (12 * t + 10) = nI 1) (hf11 : n0 (12 * t + 11) = 0 ∨ n0 (12 * t + 11) = nI 1) (hF1 : ¬ s = 3 → n0 (12 * t + 1) = 0) (hF3 : s = 3 → ¬ r 6 t = nI 4 → n0 (12 * t + 1) = wf r t) (hK : n0 244 = nI K) (hK2 : K < 40) (hLS : LSa r nt ns n0 kl0 q0) (hZ : LZ r nt n0) (hN : NR k0 n0) (hXI : XI nt ns n0 q0) :
    ∃ k3 n3, (∀ L, Cq l D B mX0_lookWhatIsTaken [vr (some (c + 0))] (pt c 35 (W_leave k0 (G a 1) t h K) G) L N none (pt c 35 k3 G) L) ∧ (∀ G2 L, Cq l D B mX12_looks [vr (some (b + 0))] (RI b r (F_ends r n0 t (nI s) h K) G2) L N none (RI b r n3 G2) L) ∧ JI r nt ns mem nth k3 kl0 n3 q0 ∧ n3 240 = n0 240 ∧ n3 246 = n0 246 ∧ MU r nt n3 + tm r n0 t ≤ MU r nt n0 ∧ W_leave k0 (G a 1) t h K 0 17 < k0 0 17 ∧ (∀ f, f = 2 ∨ f = 10 ∨ f = 16 → k3 0 f = k0 0 f) := by
  have hnt := hT.2.1.2.1
  have hns := hT.2.2.1.2.1
  have ht20 : t < 20 := by omega
  have hh6 : h < 6 := by omega
  have hmem := hT.2.2.2.1.2.2
  obtain ⟨a', e1, -, -, e4, -, e6, -, -⟩ := hT.2.2.2.2.2.2 t ht
  have ea : a' = a := Option.some.inj (e1.symm.trans ha)
  subst ea
  have R1 : RV r nt nth mem (F_ends r n0 t (nI s) h K) := RV.ends hnt hth ht hh h2 h6 e6 hmem hO hH hC hV h1 hp hq hf10 hf11 hF1 hF3 hK hK2
  have S1 : Sim ns (W_leave k0 (G a' 1) t h K) (F_ends r n0 t (nI s) h K) := leave_sim hS ht20 hh6 hK2 e4
  have L1 : W_leave k0 (G a' 1) t h K 0 17 = F_ends r n0 t (nI s) h K 247 := by
    rw [ends_7 hK2, ← hL]
    unfold W_leave W_write
    simp (disch := omega) only [upd2_row, upd2_ne, up_ne, up_s]
  obtain ⟨k3, n3, x1, x2, x3, x4, x5, x6, x7, x8, x9⟩ := look_sim (l := l) (D := D) (B := B) hT hth hX hP hcF hF S1 L1 R1
  have hl17 : W_leave k0 (G a' 1) t h K 0 17 < k0 0 17 := by
    rw [L1, ends_7 hK2, hL]
    have hpos : 0 < sm (fun u => wL (n0 (12 * u + 0))) nt := by
      have := sm_ge (f := fun u => wL (n0 (12 * u + 0))) ht
      try simp only at this
      rw [h1, wL1] at this
      omega
    have hle := sm_le (f := fun u => wL (n0 (12 * u + 0))) (b := 1) (k := nt) (fun i _ => by unfold wL; split <;> omega)
    exact subI_lt hC.1 hpos (by omega)
  refine ⟨k3, n3, x1, x2, ⟨x3, x4, Or.inl ?_, ?_, x5, x6, ?_, fun u hu h4 => ?_, ?_, fun u h1 h2 => ?_, fun s' h1 h2 => ?_⟩, ?_, ?_, ?_, hl17, fun f hf => ?_⟩
  · rw [x8.1 18 (by omega) (by omega)]
    unfold W_leave W_write
    simp (disch := omega) only [upd2_row, upd2_ne, up_ne, up_s]
    rfl
  · rw [x8.1 1 (by omega) (by omega)]
    unfold W_leave W_write
    simp (disch := omega) only [upd2_row, upd2_ne, up_ne, up_s]
    exact hm
  · refine hLS.congr hns (fun u hu => ?_) (fun s' hs' => ?_)
    · rw [x7.2.1 u (by omega) 8 (by omega) (by omega) (by omega), ends_row ht20 hh6 hK2 (by omega) (by omega)]
    · rw [x7.1 _ (by omega) (by omega) (by omega) (by omega), ends_o ht20 hh6 hK2 (by omega)]
  · rw [x7.2.1 u (by omega) 6 (by omega) (by omega) (by omega), ends_row ht20 hh6 hK2 (by omega) (by omega)]
    exact hZ u hu h4
  · exact (NR.leave hN ((hS.tr ht20 (by omega)).trans (up_s _ _ _)) ht20 hh6 hK hK2).congr (x8.2 6 (by omega) (by omega)) (x7.1 _ (by omega) (by omega) (by omega) (by omega)) (fun i hi => x7.1 _ (by omega) (by omega) (by omega) (by omega))
  · rw [x9 u h1 h2, ends_row ht20 hh6 hK2 (by omega) (by omega)]
    exact hXI.1 u h1 h2
  · rw [x7.1 _ (by omega) (by omega) (by omega) (by omega), ends_o ht20 hh6 hK2 (by omega)]
    exact hXI.2 s' h1 h2
  · rw [x7.1 240 (by omega) (by omega) (by omega) (by omega), ends_o ht20 hh6 hK2 (by omega)]
  · rw [x7.1 246 (by omega) (by omega) (by omega) (by omega), ends_o ht20 hh6 hK2 (by omega)]
  · have a1 := MU_keep (r := r) hnt x7
    have a2 := sm_upd (k := nt) (f := tm r n0) (g := tm r (F_ends r n0 t (nI s) h K)) ht (fun u hu hne => (tm_row (fun j hj => ends_row ht20 hh6 hK2 (by omega) (by omega))).symm)
    have a3 : tm r (F_ends r n0 t (nI s) h K) t = 0 := by
      unfold tm
      rw [ends_0 ht20 hh6 hK2, if_neg (nI_z (by omega) (by omega)), if_neg (nI_s (by omega) (by omega) (by omega))]
    unfold MU at a1 ⊢
    omega
  · rw [x8.1 f (by omega) (by omega)]
    unfold W_leave W_write
    simp (disch := omega) only [upd2_row, upd2_ne, up_ne, up_s]
end TURN

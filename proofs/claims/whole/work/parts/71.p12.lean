/-! ===== failed shares are done again, on both sides ===== -/
theorem seqm {A : Type} {I : Nat → A → Prop} {R : Nat → A → A → Prop} : ∀ (m : Nat) (a0 : A), (∀ i, i < m → ∀ a, I i a → ∃ a', I (i + 1) a' ∧ R i a a') → I 0 a0 → ∃ f : Nat → A, f 0 = a0 ∧ (∀ i, i ≤ m → I i (f i)) ∧ ∀ i, i < m → R i (f i) (f (i + 1))
  | 0, a0, _, h0 => ⟨fun _ => a0, rfl, fun i hi => by
      have e : i = 0 := by omega
      subst e
      exact h0, fun i hi => absurd hi (Nat.not_lt_zero i)⟩
  | m + 1, a0, hs, h0 => by
    obtain ⟨f, f1, f2, f3⟩ := seqm m a0 (fun i hi => hs i (by omega)) h0
    obtain ⟨a', g1, g2⟩ := hs m (by omega) (f m) (f2 m (Nat.le_refl m))
    refine ⟨fun i => if i ≤ m then f i else a', ?_, fun i hi => ?_, fun i hi => ?_⟩
    · show (if 0 ≤ m then f 0 else a') = a0
      rw [if_pos (Nat.zero_le m)]; exact f1
    · show I i (if i ≤ m then f i else a')
      by_cases e : i ≤ m
      · rw [if_pos e]; exact f2 i e
      · rw [if_neg e, show i = m + 1 by omega]; exact g1
    · show R i (if i ≤ m then f i else a') (if i + 1 ≤ m then f (i + 1) else a')
      by_cases e : i + 1 ≤ m
      · rw [if_pos (by omega), if_pos e]; exact f3 i (by omega)
      · have e2 : i = m := by omega
        subst e2
        rw [if_pos (Nat.le_refl i), if_neg e]; exact g2
def LaRes (s : Nat) (k : MI) (kl : ML) (n : Nat → Int32) (q : Nat → Int64) (K : Int32 × (MI × ML)) (M : Int32 × ((Nat → Int32) × ((Nat → Int64) × Int64))) : Prop :=
  K.1 = M.1 ∧ ¬ M.1 = 0 ∧ (∀ a, a ≠ 3 → a ≠ 27 + s → K.2.1 a = k a) ∧ (∀ a, a ≠ 3 → a ≠ 27 + s → K.2.2 a = kl a) ∧ (∀ j, j ≠ 302 + s → M.2.1 j = n j) ∧ (∀ j, j ≠ 20 + s → j ≠ 28 + s → M.2.2.1 j = q j) ∧ K.2.1 (27 + s) 1 = M.2.1 (302 + s) ∧ HuR s M.2.1 K.2.2 M.2.2.1 ∧ K.2.1 3 7 = k 3 7
section AGAIN1
variable {N : NT} {G : MI} {GL : ML} {r : MI} {rl : ML} {F g ga la z s sa : Nat}
theorem il_sim {i l m np p : Nat} (hs : s < 8) (hz : z ≤ 12) (hi31 : i < 2 ^ 31) (f9 : G sa 2 = r 17 s) (hk : G ga 0 = G sa 1) (hiz : i < z) (hL : LnA N la i p np m) (r4 : r 4 l = nI m) (b4 : ∀ j, j < m → GL np j = rl 5 (12 * l + j)) : ∀ (d rd e : Nat) (k : MI) (kl : ML) (n : Nat → Int32) (q : Nat → Int64) (S : Int64), m - rd = d → rd ≤ m → d + 1 ≤ e → k 3 8 = nI rd → kl 3 9 = S → k (27 + s) 1 = n (302 + s) → HuR s n kl q → LaRes s k kl n q (F_di N G GL sa ga la z i 3 (27 + s) e (nI 0, (k, kl))) (F_il r rl s i l m (d + 1) rd S n q) := by
  intro d
  have hm := hL.2.2.2.2
  induction d using Nat.strongRecOn with
  | _ d ih =>
    intro rd e k kl n q S hd hrd he k8 kl9 hb hH
    obtain ⟨e', rfl⟩ : ∃ e', e = e' + 1 := ⟨e - 1, by omega⟩
    rw [F_di_s (show (nI 0, (k, kl)).1 = 0 from rfl), F_il_s]
    show LaRes s k kl n q (F_di N G GL sa ga la z i 3 (27 + s) e' (F_sil N G GL sa ga la z i 3 (27 + s) k kl)) _
    rw [F_sil_ok hk hiz hz hL.1 hL.2.2.1 hL.2.2.2.1 k8 (by omega), f9]
    -- what has been read
    obtain ⟨k3, kl3, rd1, S1, y1, y2, y3, y4, y5, y6, y7, y8⟩ : ∃ k3 kl3 rd1 S1, F_si GL (r 17 s) np m i 3 (27 + s) rd k kl = F_sg (r 17 s) m i 3 (27 + s) k3 kl3 ∧ (if rd < m then rd + 1 else rd) = rd1 ∧ (if rd < m then S + F_worth (rl 5 (12 * l + rd)) else S) = S1 ∧ k3 3 8 = nI rd1 ∧ kl3 3 9 = S1 ∧ (∀ a, a ≠ 3 → k3 a = k a ∧ kl3 a = kl a) ∧ k3 3 7 = k 3 7 ∧ ((rd < m ∧ rd1 = rd + 1) ∨ (rd1 = rd ∧ m ≤ rd)) := by
      by_cases hlt : rd < m
      · refine ⟨W_rdK k 3, W_rdL kl 3 (F_worth (GL np rd)), rd + 1, S + F_worth (rl 5 (12 * l + rd)), F_si_t hlt, if_pos hlt, if_pos hlt, W_rd_8 k8, ?_, fun a ha => ⟨?_, ?_⟩, W_rd_7 _ _, Or.inl ⟨hlt, rfl⟩⟩
        · unfold W_rdL
          rw [upd2_row, up_ne (by omega), upd2_row, up_s, kl9, b4 rd hlt]
        · unfold W_rdK; rw [upd2_ne ha, upd2_ne ha]
        · unfold W_rdL; rw [upd2_ne ha, upd2_ne ha]
      · exact ⟨k, kl, rd, S, F_si_f hlt, if_neg hlt, if_neg hlt, k8, kl9, fun a ha => ⟨rfl, rfl⟩, rfl, Or.inr ⟨rfl, by omega⟩⟩
    rw [y1, y2, y3]
    have hgo := goes_sim (r := r) (k := k3) (kl := kl3) (n := n) (q := q) (S := S1) (s := s) (i := i) (it := rd1) (m := m) (l := l) (o := 3) hs y4 (by omega) hm hi31 r4 y5 (by rw [(y6 _ (by omega)).1]; exact hb) (by
      unfold HuR
      rw [(y6 _ (by omega)).2]
      exact hH)
    unfold F_ilg
    obtain ⟨K, hK⟩ : ∃ K, F_sg (r 17 s) m i 3 (27 + s) k3 kl3 = K := ⟨_, rfl⟩
    obtain ⟨M, hM⟩ : ∃ M, F_goes r n q S1 s i (nI rd1) l = M := ⟨_, rfl⟩
    rw [hK, hM] at hgo
    rw [hK, hM]
    obtain ⟨w1, w2, w3, w4, w5, w6, w7, w8⟩ := hgo
    rcases w1 with w | w | ⟨w, wl⟩
    · rw [if_neg (by rw [w]; decide), F_di_n (by rw [w2, w]; decide)]
      exact ⟨w2, by show ¬ M.1 = 0; rw [w]; decide, fun a h1 h2 => (w3 a h2).trans (y6 a h1).1, fun a h1 h2 => (w4 a h2).trans (y6 a h1).2, w5, w6, w7, w8, by rw [w3 3 (by omega)]; exact y7⟩
    · rw [if_neg (by rw [w]; decide), F_di_n (by rw [w2, w]; decide)]
      exact ⟨w2, by show ¬ M.1 = 0; rw [w]; decide, fun a h1 h2 => (w3 a h2).trans (y6 a h1).1, fun a h1 h2 => (w4 a h2).trans (y6 a h1).2, w5, w6, w7, w8, by rw [w3 3 (by omega)]; exact y7⟩
    · rw [if_pos (by rw [w]; rfl)]
      have eK : K = (nI 0, (K.2.1, K.2.2)) := Prod.ext (w2.trans w) rfl
      rw [eK, show d = (m - rd1) + 1 by omega]
      have h := ih (m - rd1) (by omega) rd1 e' K.2.1 K.2.2 M.2.1 M.2.2 S1 rfl (by omega) (by omega) (by rw [w3 3 (by omega)]; exact y4) (by rw [w4 3 (by omega)]; exact y5) w7 w8
      obtain ⟨x1, x2, x3, x4, x5, x6, x7, x8, x9⟩ := h
      exact ⟨x1, x2, fun a h1 h2 => (x3 a h1 h2).trans ((w3 a h2).trans (y6 a h1).1), fun a h1 h2 => (x4 a h1 h2).trans ((w4 a h2).trans (y6 a h1).2), fun j hj => (x5 j hj).trans (w5 j hj), fun j h1 h2 => (x6 j h1 h2).trans (w6 j h1 h2), x7, x8, x9.trans (by rw [w3 3 (by omega)]; exact y7)⟩
/-- a line of a failed share, once more -/
theorem line_sim {i : Nat} {k : MI} {kl : ML} {n : Nat → Int32} {q : Nat → Int64} (hs : s < 8) (hz : z ≤ 12) (hi : i < 20) (g2 : r 2 g = nI z) (hpl : PlOk r g z) (hl : ∀ i, i < z → LnR N G GL r rl F la g i) (gk : G ga 0 = r 1 g) (f8 : G sa 1 = r 16 s) (f9 : G sa 2 = r 17 s) (k8 : k 3 8 = nI 0) (kl9 : kl 3 9 = 0) (hb : k (27 + s) 1 = n (302 + s)) (hH : HuR s n kl q) : LaRes s k kl n q (F_di N G GL sa ga la z i 3 (27 + s) 13 (nI 0, (k, kl))) (F_lost r rl s g i n q) := by
  unfold F_lost
  by_cases hlf : F_lf r s g (nI i) = 0
  · obtain ⟨hkd, hiz, p, p6, hp, m, m12, r4⟩ := F_lf_z hlf g2 hz (by omega) hpl
    rcases hl i hiz with ⟨-, a2⟩ | ⟨pa, np, m', l', hL, -, -, b1, b2, b3, -, b4⟩
    · exact absurd (hp.symm.trans a2) (nI_nm1 (by omega))
    · have el : l' = p := nI_eq_of (b1.symm.trans hp) (by omega) (by omega)
      subst el
      have em : m' = m := nI_eq_of (b3.symm.trans r4) (by have := hL.2.2.2.2; omega) (by omega)
      subst em
      rw [if_pos hlf, hp, nI_clamp (by omega), r4, nI_clamp (by omega)]
      exact il_sim hs hz (by omega) f9 (by rw [gk, f8]; exact hkd) hiz hL r4 b4 m' 0 13 k kl n q 0 rfl (by omega) (by omega) k8 kl9 hb hH
  · rw [if_neg hlf]
    have hsil : F_sil N G GL sa ga la z i 3 (27 + s) k kl = (F_lf r s g (nI i), (k, kl)) := by
      by_cases hkd : r 1 g = r 16 s
      · have e := lf_fo (N := N) (G := G) (GL := GL) (r := r) (rl := rl) (F := F) (la := la) (s := s) g2 hz (show i < 2 ^ 31 by omega) hkd hl
        rw [F_sil_f (by rw [gk, f8]; exact hkd) (by rw [e]; exact hlf), e]
      · rw [F_sil_c (by rw [gk, f8]; exact hkd), lf_kd hkd]
    rw [F_di_s (show (nI 0, (k, kl)).1 = 0 from rfl)]
    show LaRes s k kl n q (F_di N G GL sa ga la z i 3 (27 + s) 12 (F_sil N G GL sa ga la z i 3 (27 + s) k kl)) _
    rw [hsil, F_di_n hlf]
    exact ⟨rfl, hlf, fun _ _ _ => rfl, fun _ _ _ => rfl, fun _ _ => rfl, fun _ _ _ => rfl, hb, hH, rfl⟩
def DoRes (s t : Nat) (k : MI) (kl : ML) (n : Nat → Int32) (q : Nat → Int64) (K : Nat × (MI × ML)) (M : (Nat → Int32) × ((Nat → Int64) × Int64)) : Prop :=
  M.1 (12 * t + 6) = nI K.1 ∧ (∀ a, a ≠ 3 → a ≠ 27 + s → K.2.1 a = k a) ∧ (∀ a, a ≠ 3 → a ≠ 27 + s → K.2.2 a = kl a) ∧ (∀ j, j ≠ 302 + s → j ≠ 12 * t + 6 → M.1 j = n j) ∧ (∀ j, j ≠ 20 + s → j ≠ 28 + s → M.2.1 j = q j) ∧ K.2.1 (27 + s) 1 = M.1 (302 + s) ∧ HuR s M.1 K.2.2 M.2.1
theorem do_sim {t fr to : Nat} (ht : t < 20) (hs : s < 8) (hz : z ≤ 12) (hto : to ≤ 20) (g2 : r 2 g = nI z) (hpl : PlOk r g z) (hl : ∀ i, i < z → LnR N G GL r rl F la g i) (gk : G ga 0 = r 1 g) (f8 : G sa 1 = r 16 s) (f9 : G sa 2 = r 17 s) : ∀ (f ln x : Nat) (k : MI) (kl : ML) (n : Nat → Int32) (q : Nat → Int64) (S : Int64), to - (fr + ln) = f → fr + ln ≤ to → k 3 7 = nI ln → k 3 8 = nI 0 → kl 3 9 = 0 → n (12 * t + 6) = nI x → k (27 + s) 1 = n (302 + s) → HuR s n kl q → DoRes s t k kl n q (F_do N G GL sa ga la z fr 3 (27 + s) f ln x k kl) (F_agI r rl t s g f (fr + ln) n q S)
  | 0, ln, x, k, kl, n, q, S, hf, hle, k7, k8, kl9, h6, hb, hH => ⟨h6, fun _ _ _ => rfl, fun _ _ _ => rfl, fun _ _ _ => rfl, fun _ _ _ => rfl, hb, hH⟩
  | f + 1, ln, x, k, kl, n, q, S, hf, hle, k7, k8, kl9, h6, hb, hH => by
    have h := line_sim (N := N) (G := G) (GL := GL) (r := r) (rl := rl) (F := F) (i := fr + ln) hs hz (by omega) g2 hpl hl gk f8 f9 k8 kl9 hb hH
    rw [F_agI_s]
    show DoRes s t k kl n q (F_do N G GL sa ga la z fr 3 (27 + s) f (ln + 1) (if 0 < (F_di N G GL sa ga la z (fr + ln) 3 (27 + s) 13 (nI 0, (k, kl))).1 then x + 1 else x) (W_nlK (F_di N G GL sa ga la z (fr + ln) 3 (27 + s) 13 (nI 0, (k, kl))).2.1 3) (upd2 (F_di N G GL sa ga la z (fr + ln) 3 (27 + s) 13 (nI 0, (k, kl))).2.2 3 9 0)) _
    obtain ⟨K, hK⟩ : ∃ K, F_di N G GL sa ga la z (fr + ln) 3 (27 + s) 13 (nI 0, (k, kl)) = K := ⟨_, rfl⟩
    obtain ⟨M, hM⟩ : ∃ M, F_lost r rl s g (fr + ln) n q = M := ⟨_, rfl⟩
    rw [hK, hM] at h
    rw [hK, hM]
    obtain ⟨x1, x2, x3, x4, x5, x6, x7, x8, x9⟩ := h
    rw [x1]
    obtain ⟨n', x', e1, e2, e3, e4⟩ : ∃ n' x', (if 0 < M.1 then up M.2.1 (12 * t + 6) (M.2.1 (12 * t + 6) + nI 1) else M.2.1) = n' ∧ (if 0 < M.1 then x + 1 else x) = x' ∧ n' (12 * t + 6) = nI x' ∧ ∀ j, j ≠ 12 * t + 6 → n' j = M.2.1 j := by
      by_cases hp : 0 < M.1
      · rw [if_pos hp, if_pos hp]
        refine ⟨_, _, rfl, rfl, ?_, fun j hj => up_ne hj⟩
        rw [up_s, x5 _ (by omega), h6, nI_add]
      · rw [if_neg hp, if_neg hp]
        exact ⟨_, _, rfl, rfl, by rw [x5 _ (by omega)]; exact h6, fun j hj => rfl⟩
    rw [e1, e2, show fr + ln + 1 = fr + (ln + 1) by omega]
    have ih := do_sim (fr := fr) ht hs hz hto g2 hpl hl gk f8 f9 f (ln + 1) x' (W_nlK K.2.1 3) (upd2 K.2.2 3 9 0) n' M.2.2.1 M.2.2.2 (by omega) (by omega) (W_nl_7 (x9.trans k7)) (W_nl_8 _ _) (by rw [upd2_row, up_s]) e3 (by
      unfold W_nlK
      rw [upd2_ne (by omega), upd2_ne (by omega), e4 _ (by omega)]
      exact x7) (by
      unfold HuR at x8 ⊢
      rw [upd2_ne (by omega), e4 _ (by omega)]
      exact x8)
    obtain ⟨y1, y2, y3, y4, y5, y6, y7⟩ := ih
    refine ⟨y1, fun a h1 h2 => ?_, fun a h1 h2 => ?_, fun j h1 h2 => ?_, fun j h1 h2 => (y5 j h1 h2).trans (x6 j h1 h2), y6, y7⟩
    · rw [y2 a h1 h2]
      unfold W_nlK
      rw [upd2_ne h1, upd2_ne h1]; exact x3 a h1 h2
    · rw [y3 a h1 h2, upd2_ne h1]; exact x4 a h1 h2
    · rw [y4 j h1 h2, e4 j h2]; exact x5 j h1
end AGAIN1

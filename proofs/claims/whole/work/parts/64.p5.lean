/-! ===== a look on both sides ===== -/
section FLAG
variable {r : MI} {nt nth mem : Nat} {n : Nat → Int32} {t : Nat}
theorem TV.flag {j : Nat} (hj : j = 10 ∨ j = 11) (ht : t < 20) (h : TV r nth n t) (hnth : nth ≤ 6) (h1 : n (12 * t + 0) = nI 1) : TV r nth (up n (12 * t + j) (nI 1)) t := by
  obtain ⟨g1, g2, g3, g4, g5, g6, g7⟩ := h
  have e : ∀ i, i < 12 → i ≠ 10 → i ≠ 11 → up n (12 * t + j) (nI 1) (12 * t + i) = n (12 * t + i) := fun i hi a b => up_ne (by omega)
  have e0 := e 0 (by omega) (by omega) (by omega)
  have e1 := e 1 (by omega) (by omega) (by omega)
  have e2 := e 2 (by omega) (by omega) (by omega)
  have e4 := e 4 (by omega) (by omega) (by omega)
  have e5 := e 5 (by omega) (by omega) (by omega)
  have e7 := e 7 (by omega) (by omega) (by omega)
  have e8 := e 8 (by omega) (by omega) (by omega)
  have e9 := e 9 (by omega) (by omega) (by omega)
  refine ⟨by rw [e0]; exact g1, ?_, ?_, fun q => absurd ((e0.symm.trans q).symm.trans h1) (by decide), fun q => ?_, fun q => by rw [e1]; exact g6 (e0 ▸ q), fun q => by rw [e1]; exact g7 (e0 ▸ q)⟩
  · rcases hj with q | q
    · subst q; exact Or.inr (up_s _ _ _)
    · rw [up_ne (by omega)]; exact g2
  · rcases hj with q | q
    · rw [up_ne (by omega)]; exact g3
    · subst q; exact Or.inr (up_s _ _ _)
  · obtain ⟨⟨h, a1, a2, a3⟩, gp, gr, gs, bd, b1, b2, b3⟩ := g5 h1
    refine ⟨⟨h, a1, by rw [e5]; exact a2, by rw [up_ne (by omega)]; exact a3⟩, ?_, ?_, ?_, bd, b1, b2, by rw [e2]; exact b3⟩
    · intro q; rw [e4, e2]; exact gp q
    · intro q; rw [e7, e8]; exact gr q
    · intro q; rw [e7, e8, e9]; exact gs q
theorem RV.flag {j : Nat} (hj : j = 10 ∨ j = 11) (hnt : nt ≤ 20) (hth : nth ≤ 6) (ht : t < nt) (h : RV r nt nth mem n) (h1 : n (12 * t + 0) = nI 1) : RV r nt nth mem (up n (12 * t + j) (nI 1)) := by
  have ht20 : t < 20 := by omega
  obtain ⟨hT, hH, hC, hV⟩ := h
  refine ⟨fun u hu => ?_, hH.congr (fun u hu => ⟨up_ne (by omega), up_ne (by omega)⟩) (fun g hg => up_ne (by omega)), hC.congr (fun u hu => up_ne (by omega)) (up_ne (by omega)) (up_ne (by omega)) (up_ne (by omega)) (up_ne (by omega)), hV.congr (fun u hu => up_ne (by omega)) (up_ne (by omega))⟩
  by_cases e : u = t
  · subst e; exact (hT u hu).flag hj ht20 hth h1
  · exact (hT u hu).congr (fun i hi _ => up_ne (by omega)) (fun g hg q => by rw [up_ne (by omega)]; exact q)
theorem RV.taken (hnt : nt ≤ 20) (hth : nth ≤ 6) (ht : t < nt) (h : RV r nt nth mem n) (h2 : n (12 * t + 0) = nI 2) (h4 : ¬ r 6 t = nI 4) : RV r nt nth mem (up n 245 (nI t)) := by
  obtain ⟨hT, hH, hC, hV⟩ := h
  refine ⟨fun u hu => (hT u hu).congr (fun i hi _ => up_ne (by omega)) (fun g hg q => by rw [up_ne (by omega)]; exact q), hH.congr (fun u hu => ⟨up_ne (by omega), up_ne (by omega)⟩) (fun g hg => up_ne (by omega)), hC.congr (fun u hu => up_ne (by omega)) (up_ne (by omega)) (up_ne (by omega)) (up_ne (by omega)) (up_ne (by omega)), Or.inr ⟨t, ht, up_s _ _ _, by rw [up_ne (by omega)]; exact h2, h4⟩⟩
end FLAG
/-- what a look leaves as it is -/
def Keep (n n' : Nat → Int32) : Prop := (∀ j, 240 ≤ j → j ≠ 245 → j ≠ 247 → j ≠ 248 → n' j = n j) ∧ (∀ u, u < 20 → ∀ j, j < 12 → j ≠ 0 → j ≠ 10 → n' (12 * u + j) = n (12 * u + j)) ∧ ∀ u, u < 20 → n' (12 * u + 0) = n (12 * u + 0) ∨ (n (12 * u + 0) = 0 ∧ n' (12 * u + 0) = nI 5)
theorem Keep.rf {n : Nat → Int32} : Keep n n := ⟨fun _ _ _ _ _ => rfl, fun _ _ _ _ _ _ => rfl, fun _ _ => Or.inl rfl⟩
theorem Keep.tr {n n' n2 : Nat → Int32} (h : Keep n n') (g : Keep n' n2) : Keep n n2 := by
  refine ⟨fun j a b c d => (g.1 j a b c d).trans (h.1 j a b c d), fun u hu j a b c => (g.2.1 u hu j a b c).trans (h.2.1 u hu j a b c), fun u hu => ?_⟩
  rcases h.2.2 u hu with q | ⟨q1, q2⟩
  · rw [← q]; exact g.2.2 u hu
  · rcases g.2.2 u hu with w | ⟨w1, w2⟩
    · exact Or.inr ⟨q1, w.trans q2⟩
    · exact Or.inr ⟨q1, w2⟩
/-- and of the course's cells: all but works, and of the object all but what is taken and left -/
def KeepK (k k' : MI) : Prop := (∀ f, f ≠ 15 → f ≠ 17 → k' 0 f = k 0 f) ∧ ∀ a, a ≠ 0 → (a < 7 ∨ 27 ≤ a) → k' a = k a
theorem KeepK.rf {k : MI} : KeepK k k := ⟨fun _ _ _ => rfl, fun _ _ _ => rfl⟩
theorem KeepK.tr {k k' k2 : MI} (h : KeepK k k') (g : KeepK k' k2) : KeepK k k2 := ⟨fun f a b => (g.1 f a b).trans (h.1 f a b), fun a b c => (g.2 a b c).trans (h.2 a b c)⟩
section LOOK
variable {l : Launch} {D : va_G} {B b : Nat} {N : NT} {G : MI} {GL : ML} {r : MI} {rl : ML} {F P ng nt ns mem nth c : Nat} {k : MI} {n : Nat → Int32}
theorem tw1_sim {u : Nat} (hT : Stc N G GL r rl F P ng nt ns mem) (hth : nth ≤ 6) (hu : u < nt) (hS : Sim ns k n) (hL : k 0 17 = n 247) (hR : RV r nt nth mem n) : Sim ns (F_tw1 G N P u k) (F_slS r n u) ∧ F_tw1 G N P u k 0 17 = F_slS r n u 247 ∧ RV r nt nth mem (F_slS r n u) ∧ Keep n (F_slS r n u) ∧ F_slS r n u 245 = n 245 ∧ KeepK k (F_tw1 G N P u k) ∧ ∀ w, nt ≤ w → w < 20 → F_slS r n u (12 * w + 0) = n (12 * w + 0) := by
  have hnt := hT.2.1.2.1
  have hu20 : u < 20 := by omega
  have e0 : k (7 + u) 0 = n (12 * u + 0) := hS.tr hu20 (by omega)
  have es := (hT.srt hu).1
  unfold F_tw1
  rw [es, e0]
  by_cases h4 : r 6 u = nI 4
  · rw [if_pos h4, F_slS_3 h4]
    exact ⟨hS, hL, hR, Keep.rf, rfl, KeepK.rf, fun _ _ _ => rfl⟩
  · rw [if_neg h4]
    by_cases h0 : n (12 * u + 0) = 0
    · rw [if_pos h0, F_slS_1 h4 h0]
      refine ⟨falls_sim hS hu20, ?_, hR.falls hnt hth hu (by omega) (by omega) h0, ⟨fun j a b d e => falls_row ⟨d, e⟩ (by omega), fun w hw j a b d => falls_row (by omega) (by omega), fun w hw => ?_⟩, falls_row (by omega) (by omega), ⟨fun f a b => ?_, fun a b d => ?_⟩, fun w hw hw2 => falls_row (by omega) (by omega)⟩
      · unfold W_ew
        rw [upd2_row, up_s, falls_7, hL]
      · by_cases e : w = u
        · subst e; exact Or.inr ⟨h0, falls_0 hu20⟩
        · exact Or.inl (falls_row (by omega) (by omega))
      · unfold W_ew
        rw [upd2_row, up_ne b, upd2_ne (by omega)]
      · unfold W_ew
        rw [upd2_ne b, upd2_ne (by omega)]
    · rw [if_neg h0]
      by_cases h1 : n (12 * u + 0) = nI 1
      · rw [if_pos h1, F_slS_2 h4 h1]
        refine ⟨hS.put (lo_s hu20) (Mp_t hu20 (by omega) (by omega)), ?_, hR.flag (Or.inl rfl) hnt hth hu h1, ⟨fun j a b d e => up_ne (by omega), fun w hw j a b d => up_ne (by omega), fun w hw => Or.inl (up_ne (by omega))⟩, up_ne (by omega), ⟨fun f a b => ?_, fun a b d => upd2_ne (by omega)⟩, fun w hw hw2 => up_ne (by omega)⟩
        · rw [upd2_ne (by omega), up_ne (by omega)]; exact hL
        · rw [upd2_ne (by omega)]
      · rw [if_neg h1, F_slS_4 h0 h1]
        exact ⟨hS, hL, hR, Keep.rf, rfl, KeepK.rf, fun _ _ _ => rfl⟩
theorem tw_sim (hT : Stc N G GL r rl F P ng nt ns mem) (hth : nth ≤ 6) : ∀ (f u : Nat) (k : MI) (n : Nat → Int32), nt - u = f → u ≤ nt → Sim ns k n → k 0 17 = n 247 → RV r nt nth mem n → Sim ns (F_tw G N P f u k) (F_sl r f u n) ∧ F_tw G N P f u k 0 17 = F_sl r f u n 247 ∧ RV r nt nth mem (F_sl r f u n) ∧ Keep n (F_sl r f u n) ∧ F_sl r f u n 245 = n 245 ∧ KeepK k (F_tw G N P f u k) ∧ ∀ w, nt ≤ w → w < 20 → F_sl r f u n (12 * w + 0) = n (12 * w + 0)
  | 0, u, k, n, _, _, hS, hL, hR => ⟨hS, hL, hR, Keep.rf, rfl, KeepK.rf, fun _ _ _ => rfl⟩
  | f + 1, u, k, n, hf, hu, hS, hL, hR => by
    obtain ⟨a1, a2, a3, a4, a5, a6, a7⟩ := tw1_sim (u := u) hT hth (by omega) hS hL hR
    obtain ⟨b1, b2, b3, b4, b5, b6, b7⟩ := tw_sim hT hth f (u + 1) _ _ (by omega) (by omega) a1 a2 a3
    exact ⟨b1, b2, b3, a4.tr b4, b5.trans a5, a6.tr b6, fun w h1 h2 => (b7 w h1 h2).trans (a7 w h1 h2)⟩
theorem lw_spec (hT : Stc N G GL r rl F P ng nt ns mem) (hS : Sim ns k n) (hst : ∀ u, u < nt → ∃ s, s ≤ 6 ∧ n (12 * u + 0) = nI s) : ∀ (f i : Nat), nt - i = f → i ≤ nt → (∀ u, u < i → skipR r n u) → (F_lw k G N P f i = none → ∀ t, t < nt → (∀ u, u < t → skipR r n u) → ¬ skipR r n t → ¬ n (12 * t + 0) = nI 2) ∧ ∀ t, F_lw k G N P f i = some t → t < nt ∧ (∀ u, u < t → skipR r n u) ∧ ¬ skipR r n t ∧ n (12 * t + 0) = nI 2
  | 0, i, hf, hi, hsk => ⟨fun _ t ht _ hns => absurd (hsk t (by omega)) hns, fun t h => by unfold F_lw at h; cases h⟩
  | f + 1, i, hf, hi, hsk => by
    have hnt := hT.2.1.2.1
    have hi' : i < nt := by omega
    obtain ⟨s, hs6, hs⟩ := hst i hi'
    have e0 : k (7 + i) 0 = nI s := (hS.tr (by omega) (by omega)).trans hs
    have es := (hT.srt hi').1
    unfold F_lw
    rw [es, e0]
    have nxt : skipR r n i → _ := fun q => lw_spec hT hS hst f (i + 1) (by omega) (by omega) (fun u hu => by
      rcases Nat.lt_or_ge u i with y | y
      · exact hsk u y
      · have e : u = i := by omega
        subst e; exact q)
    by_cases h4 : r 6 i = nI 4
    · rw [if_pos h4]
      exact nxt (Or.inl h4)
    · rw [if_neg h4]
      by_cases h01 : nI s = 0 ∨ nI s = nI 1
      · rw [if_pos h01]
        refine ⟨fun _ t ht htsk hns hn2 => ?_, fun t h => by cases h⟩
        have hsm : s ≤ 1 := by
          rcases h01 with q | q
          · exact Nat.le_of_not_lt (fun z => nI_z (by omega) (by omega) q)
          · have := nI_eq_of q (by omega) (by omega)
            omega
        have hni : ¬ skipR r n i := fun q => by
          rcases q with q | q
          · exact h4 q
          · rw [hs] at q
            have := (nI_ltI (by omega) (by omega)).mp q
            omega
        rcases Nat.lt_trichotomy t i with y | y | y
        · exact hns (hsk t y)
        · subst y
          rw [hs] at hn2
          have := nI_eq_of hn2 (by omega) (by omega)
          omega
        · exact hni (htsk i y)
      · rw [if_neg h01]
        by_cases h2 : nI s = nI 2
        · rw [if_pos h2]
          refine ⟨fun h => (by cases h), fun t h => ?_⟩
          cases h
          refine ⟨hi', hsk, fun q => ?_, hs.trans h2⟩
          rcases q with q | q
          · exact h4 q
          · rw [hs, h2] at q
            exact absurd q (by decide)
        · rw [if_neg h2]
          refine nxt (Or.inr ?_)
          rw [hs]
          refine (nI_ltI (by omega) (by omega)).mpr ?_
          have a0 : s ≠ 0 := fun z => h01 (Or.inl (by rw [z]; rfl))
          have a1 : s ≠ 1 := fun z => h01 (Or.inr (by rw [z]))
          have a2 : s ≠ 2 := fun z => h2 (by rw [z])
          omega
/-- a look, on both sides -/
theorem look_sim (hT : Stc N G GL r rl F P ng nt ns mem) (hth : nth ≤ 6) (hX : FixC c P N) (hP : P + 5 ≤ c) (hcF : c + 35 ≤ F) (hF : FixR b N) (hS : Sim ns k n) (hL : k 0 17 = n 247) (hR : RV r nt nth mem n) :
    ∃ k3 n3, (∀ L, Cq l D B mX0_lookWhatIsTaken [vr (some (c + 0))] (pt c 35 k G) L N none (pt c 35 k3 G) L) ∧ (∀ G2 L, Cq l D B mX12_looks [vr (some (b + 0))] (RI b r n G2) L N none (RI b r n3 G2) L) ∧ Sim ns k3 n3 ∧ k3 0 17 = n3 247 ∧ RV r nt nth mem n3 ∧ LK r nt n3 ∧ Keep n n3 ∧ KeepK k k3 ∧ ∀ w, nt ≤ w → w < 20 → n3 (12 * w + 0) = n (12 * w + 0) := by
  have hPP : FixP c P N := hT.1.1.p (Or.inl hP)
  have hnt := hT.2.1.2.1
  have e15 : k 0 15 = n 245 := hS.t15
  have hst : ∀ u, u < nt → ∃ s, s ≤ 6 ∧ n (12 * u + 0) = nI s := fun u hu => (hR.1 u hu).1
  by_cases h9 : n 245 = -9
  · obtain ⟨sp1, sp2⟩ := lw_spec hT hS hst nt 0 rfl (Nat.zero_le _) (fun u hu => absurd hu (Nat.not_lt_zero u))
    have hc : ∀ L, _ := fun L => c_look (l := l) (D := D) (B := B) (L := L) hX hPP hT.2.1.1 hnt (hT.tk hcF) (e15.trans h9)
    cases hw : F_lw k G N P nt 0 with
    | none =>
      have hno := sp1 hw
      refine ⟨k, n, fun L => ?_, fun G2 L => n_looks_no hF hT.2.1.2.2 hnt (Or.inr hno), hS, hL, hR, fun _ => hno, Keep.rf, KeepK.rf, fun _ _ _ => rfl⟩
      have q := hc L
      rw [hw] at q
      exact q
    | some t =>
      obtain ⟨ht, hsk, hns, h2⟩ := sp2 t hw
      have h4 : ¬ r 6 t = nI 4 := fun q => hns (Or.inl q)
      have ht20 : t < 20 := by omega
      have S1 : Sim ns (upd2 k 0 15 (nI t)) (up n 245 (nI t)) := hS.put rfl (Mp_c (by omega) (by omega))
      have L1 : upd2 k 0 15 (nI t) 0 17 = up n 245 (nI t) 247 := by rw [upd2_row, up_ne (by omega), up_ne (by omega)]; exact hL
      obtain ⟨b1, b2, b3, b4, b5, b6, b7⟩ := tw_sim hT hth (nt - (t + 1)) (t + 1) _ _ rfl (by omega) S1 L1 (hR.taken hnt hth ht h2 h4)
      refine ⟨F_take G N P nt t k, F_sl r (nt - (t + 1)) (t + 1) (up n 245 (nI t)), fun L => ?_, fun G2 L => n_looks_yes hF hT.2.1.2.2 hnt h9 ht hsk hns h2, b1, b2, b3, fun q => ?_, ?_, ?_, fun w h1 h2 => (b7 w h1 h2).trans (up_ne (by omega))⟩
      · have q := hc L
        rw [hw] at q
        exact q
      · rw [b5, up_s] at q
        exact absurd q (nI_n9 (by omega))
      · refine Keep.tr ⟨fun j a b d e => up_ne b, fun u hu j a b d => up_ne (by omega), fun u hu => Or.inl (up_ne (by omega))⟩ b4
      · refine KeepK.tr ⟨fun f a d => ?_, fun a d e => upd2_ne d⟩ b6
        rw [upd2_row, up_ne a]
  · exact ⟨k, n, fun L => c_look_no hX (fun q => h9 (e15.symm.trans q)), fun G2 L => n_looks_no hF hT.2.1.2.2 hnt (Or.inl h9), hS, hL, hR, fun q => absurd q h9, Keep.rf, KeepK.rf, fun _ _ _ => rfl⟩
end LOOK

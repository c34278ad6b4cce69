/-! ===== again ===== -/
noncomputable def F_lost (r : MI) (rl : ML) (s g0 i : Nat) (n : Nat → Int32) (q : Nat → Int64) : Int32 × ((Nat → Int32) × ((Nat → Int64) × Int64)) :=
  if F_lf r s g0 (nI i) = 0 then F_il r rl s i (r 3 (20 * g0 + i)).toNatClampNeg (r 4 (r 3 (20 * g0 + i)).toNatClampNeg).toNatClampNeg ((r 4 (r 3 (20 * g0 + i)).toNatClampNeg).toNatClampNeg + 1) 0 0 n q
  else (F_lf r s g0 (nI i), (n, (q, 0)))
theorem F_lf_z {r : MI} {s g0 sz i : Nat} (h : F_lf r s g0 (nI i) = 0) (h2 : r 2 g0 = nI sz) (hsz : sz ≤ 12) (hi : i < 2 ^ 31) (hpl : PlOk r g0 sz) : r 1 g0 = r 16 s ∧ i < sz ∧ ∃ p, p < 600 ∧ r 3 (20 * g0 + i) = nI p ∧ ∃ q, q ≤ 12 ∧ r 4 p = nI q := by
  unfold F_lf at h
  split at h
  · exact absurd h (by decide)
  · rename_i h1
    split at h
    · exact absurd h (by decide)
    · rename_i h3
      rw [h2, nI_clamp (by omega)] at h3
      have h3 : inR (nI i) sz := Decidable.not_not.mp h3
      unfold inR at h3
      rw [nI_toInt hi] at h3
      have hlt : i < sz := by omega
      split at h
      · exact absurd h (by decide)
      · rename_i h4
        rw [nI_clamp hi] at h4
        refine ⟨Decidable.not_not.mp h1, hlt, ?_⟩
        rcases hpl i hlt with hm | hm
        · exact absurd (by rw [hm]; decide) h4
        · exact hm
theorem F_il_n {r : MI} {rl : ML} {s i p li j : Nat} (hj : j < 302) : ∀ (k rd : Nat) (S : Int64) (n : Nat → Int32) (q : Nat → Int64), (F_il r rl s i p li k rd S n q).2.1 j = n j
  | 0, _, _, _, _ => rfl
  | k + 1, rd, S, n, q => by
    rw [F_il_s]
    generalize (if rd < li then rd + 1 else rd) = rd1
    generalize (if rd < li then S + F_worth (rl 5 (12 * p + rd)) else S) = S1
    unfold F_ilg
    split
    · rw [F_il_n hj k, F_goes_n hj]
    · exact F_goes_n hj
theorem F_lost_n {r : MI} {rl : ML} {s g0 i j : Nat} {n : Nat → Int32} {q : Nat → Int64} (hj : j < 302) : (F_lost r rl s g0 i n q).2.1 j = n j := by
  unfold F_lost
  split
  · exact F_il_n hj _ _ _ _ _
  · rfl
noncomputable def F_agI (r : MI) (rl : ML) (t s g0 : Nat) : Nat → Nat → (Nat → Int32) → (Nat → Int64) → Int64 → (Nat → Int32) × ((Nat → Int64) × Int64)
  | 0, _, n, q, S => (n, (q, S))
  | k + 1, i, n, q, _ => F_agI r rl t s g0 k (i + 1) (if 0 < (F_lost r rl s g0 i n q).1 then up (F_lost r rl s g0 i n q).2.1 (12 * t + 6) ((F_lost r rl s g0 i n q).2.1 (12 * t + 6) + nI 1) else (F_lost r rl s g0 i n q).2.1) (F_lost r rl s g0 i n q).2.2.1 (F_lost r rl s g0 i n q).2.2.2
theorem F_agI_s {r : MI} {rl : ML} {t s g0 k i : Nat} {n : Nat → Int32} {q : Nat → Int64} {S : Int64} : F_agI r rl t s g0 (k + 1) i n q S = F_agI r rl t s g0 k (i + 1) (if 0 < (F_lost r rl s g0 i n q).1 then up (F_lost r rl s g0 i n q).2.1 (12 * t + 6) ((F_lost r rl s g0 i n q).2.1 (12 * t + 6) + nI 1) else (F_lost r rl s g0 i n q).2.1) (F_lost r rl s g0 i n q).2.2.1 (F_lost r rl s g0 i n q).2.2.2 := rfl
noncomputable def F_agT (r : MI) (rl : ML) : Nat → Nat → (Nat → Int32) → (Nat → Int64) → Int64 → (Nat → Int32) × ((Nat → Int64) × Int64)
  | 0, _, n, q, S => (n, (q, S))
  | k + 1, t, n, q, S =>
    if r 6 t = nI 4 ∧ n (12 * t + 0) = nI 3 then
      F_agT r rl k (t + 1) (F_agI r rl t (r 12 t).toNatClampNeg (r 15 (r 12 t).toNatClampNeg).toNatClampNeg ((r 14 t).toNatClampNeg - (r 13 t).toNatClampNeg) (r 13 t).toNatClampNeg n q S).1 (F_agI r rl t (r 12 t).toNatClampNeg (r 15 (r 12 t).toNatClampNeg).toNatClampNeg ((r 14 t).toNatClampNeg - (r 13 t).toNatClampNeg) (r 13 t).toNatClampNeg n q S).2.1 (F_agI r rl t (r 12 t).toNatClampNeg (r 15 (r 12 t).toNatClampNeg).toNatClampNeg ((r 14 t).toNatClampNeg - (r 13 t).toNatClampNeg) (r 13 t).toNatClampNeg n q S).2.2
    else F_agT r rl k (t + 1) n q S
section FAG
variable {r : MI} {rl : ML} {t k : Nat} {n : Nat → Int32} {q : Nat → Int64} {S : Int64}
theorem F_agT_y (h : r 6 t = nI 4 ∧ n (12 * t + 0) = nI 3) : F_agT r rl (k + 1) t n q S = F_agT r rl k (t + 1) (F_agI r rl t (r 12 t).toNatClampNeg (r 15 (r 12 t).toNatClampNeg).toNatClampNeg ((r 14 t).toNatClampNeg - (r 13 t).toNatClampNeg) (r 13 t).toNatClampNeg n q S).1 (F_agI r rl t (r 12 t).toNatClampNeg (r 15 (r 12 t).toNatClampNeg).toNatClampNeg ((r 14 t).toNatClampNeg - (r 13 t).toNatClampNeg) (r 13 t).toNatClampNeg n q S).2.1 (F_agI r rl t (r 12 t).toNatClampNeg (r 15 (r 12 t).toNatClampNeg).toNatClampNeg ((r 14 t).toNatClampNeg - (r 13 t).toNatClampNeg) (r 13 t).toNatClampNeg n q S).2.2 := by
  conv => lhs; unfold F_agT
  rw [if_pos h]
theorem F_agT_n (h : ¬ (r 6 t = nI 4 ∧ n (12 * t + 0) = nI 3)) : F_agT r rl (k + 1) t n q S = F_agT r rl k (t + 1) n q S := by
  conv => lhs; unfold F_agT
  rw [if_neg h]
end FAG
/-- what is told of a share -/
def ShOk (r : MI) (t : Nat) : Prop := r 6 t = nI 4 → ∃ s fr to g0 sz, s < 8 ∧ fr ≤ to ∧ to ≤ 20 ∧ g0 < 6 ∧ sz ≤ 12 ∧ r 12 t = nI s ∧ r 13 t = nI fr ∧ r 14 t = nI to ∧ r 15 s = nI g0 ∧ r 2 g0 = nI sz ∧ PlOk r g0 sz
section M11
variable {l : Launch} {D : va_G} {B b : Nat} {N : NT} {r G : MI} {rl GL : ML} {n n1 n2 n3 : Nat → Int32} {q q1 : Nat → Int64} {S S1 : Int64} {I : MI} {L L1 : ML}
theorem n_isLost (hF : FixR b N) {s i g0 sz : Nat} (hs2 : s < 8) (hi : i < 20) (hsg : r 15 s = nI g0) (hg2 : g0 < 6) (h2 : r 2 g0 = nI sz) (hsz : sz ≤ 12) (hpl : PlOk r g0 sz) : Cq l D B mX12_isLost [vr (some (b + 0)), vi (nI s), vi (nI i)] (RI b r n G) (RLg b rl S q GL) N (some (vi (bI (0 < (F_lost r rl s g0 i n q).1)))) (RI b r (F_lost r rl s g0 i n q).2.1 G) (RLg b rl (F_lost r rl s g0 i n q).2.2.2 (F_lost r rl s g0 i n q).2.2.1 GL) := by
  by_cases hz : F_lf r s g0 (nI i) = 0
  · obtain ⟨hkd, hi2, p, hp2, hp, li, hli2, hli⟩ := F_lf_z hz h2 hsz (by omega) hpl
    have e : F_lost r rl s g0 i n q = F_il r rl s i p li (li + 1) 0 0 n q := by
      unfold F_lost
      rw [if_pos hz, hp, nI_clamp (by omega), hli, nI_clamp (by omega)]
    rw [e]
    exact n_isLost_0 hF hs2 hsg hg2 h2 hsz hpl hkd hi2 hp hp2 hli hli2
  · have e : F_lost r rl s g0 i n q = (F_lf r s g0 (nI i), (n, (q, 0))) := by unfold F_lost; rw [if_neg hz]
    rw [e]
    exact n_isLost_f hF hs2 hsg hg2 h2 hsz hpl hz
theorem n_again (hF : FixR b N) {nt : Nat} (hnt : r 0 10 = nI nt) (hnt2 : nt ≤ 20) (hsh : ∀ t, t < nt → ShOk r t) : Cq l D B mX12_again [vr (some (b + 0))] (RI b r n G) (RLg b rl S q GL) N none (RI b r (F_agT r rl nt 0 n q S).1 G) (RLg b rl (F_agT r rl nt 0 n q S).2.2 (F_agT r rl nt 0 n q S).2.1 GL) := by
  obtain ⟨W, hW⟩ : ∃ W, F_agT r rl nt 0 n q S = W := ⟨_, rfl⟩
  rw [hW]
  refine Ct.of (M := mX12_again) (by decide) (Nat.le_of_ble_eq_true rfl) (fun g (hR : Cr l D B RX12 cX12_again 3 "again" { frames := 4, cells := 0, slots := 0, locals := 92 } none 0 0 _ g) => ?_)
  have hC := hR.cx
  have inner : ∀ (t : Nat), t < nt → ∀ k, (∀ z, z < k + 1 → ∀ (t : Nat) (n1 : Nat → Int32) (q1 : Nat → Int64) (S1 : Int64) (x2 : Option MV), nt - t = z → t ≤ nt → F_agT r rl z t n1 q1 S1 = W → g 2 [some (vr (some (b + 0))), some (vi (nI t)), x2] [] (RI b r n1 G) (RLg b rl S1 q1 GL) N 0 0) → ∀ (s fr to g0 sz : Nat), r 6 t = nI 4 → s < 8 → to ≤ 20 → g0 < 6 → sz ≤ 12 → r 12 t = nI s → r 14 t = nI to → r 15 s = nI g0 → r 2 g0 = nI sz → PlOk r g0 sz → ∀ (m i : Nat) (n2 : Nat → Int32) (q2 : Nat → Int64) (S2 : Int64), to - i = m → i ≤ to → n2 (12 * t + 0) = nI 3 → nt - (t + 1) = k ∧ F_agT r rl k (t + 1) (F_agI r rl t s g0 m i n2 q2 S2).1 (F_agI r rl t s g0 m i n2 q2 S2).2.1 (F_agI r rl t s g0 m i n2 q2 S2).2.2 = W → g 17 [some (vr (some (b + 0))), some (vi (nI t)), some (vi (nI i))] [] (RI b r n2 G) (RLg b rl S2 q2 GL) N 0 0 := by
    intro t ht k ih s fr to g0 sz h6 hs2 hto2 hg2 hsz h12 h14 hsg h2 hpl m
    induction m using Nat.strongRecOn with
    | _ m ihm =>
      intro i n2 q2 S2 hm1 hi h3 ⟨hkt, hE⟩
      refine G_aload_n 17 hC rfl dX12_again_17 ?_
      refine M_getR 18 hC hF fl_X12_26_11 rfl rfl dX12_again_18 ?_
      refine G_iload_n 21 hC rfl dX12_again_21 ?_
      refine N_ialdO 22 hC hF rfl (by decide) (by decide) rfl (by omega) dX12_again_22 ?_
      refine G_iconst 23 hC (nI 4) (by decide) dX12_again_23 ?_
      refine G_icmp_ne 24 74 hC dX12_again_24 (by decide) (fun h24 => ?_) (fun h24 => ?_)
      · exact absurd h6 h24
      · refine G_aload_n 27 hC rfl dX12_again_27 ?_
        refine G_iload_n 28 hC rfl dX12_again_28 ?_
        refine G_iconst 29 hC (nI 0) (by decide) dX12_again_29 ?_
        refine G_callV1 30 hC (n_at hF (by omega) (by omega)) okX12_at lk_X12_173 ((hF.sh (o := 0) rfl (by decide)).1) rfl rfl rfl rfl (Nat.le_of_ble_eq_true rfl) (by decide) (by decide) dX12_again_30 ?_
        refine G_iconst 33 hC (nI 3) (by decide) dX12_again_33 ?_
        refine G_icmp_ne 34 74 hC dX12_again_34 (by decide) (fun h34 => ?_) (fun h34 => ?_)
        · exact absurd h3 h34
        · refine G_iload_n 37 hC rfl dX12_again_37 ?_
          refine G_aload_n 38 hC rfl dX12_again_38 ?_
          refine M_getR 39 hC hF fl_X12_50_11 rfl rfl dX12_again_39 ?_
          refine G_iload_n 42 hC rfl dX12_again_42 ?_
          refine N_ialdO 43 hC hF rfl (by decide) (by decide) rfl (by omega) dX12_again_43 ?_
          rw [h14]
          refine G_icmp_ge 44 74 hC dX12_again_44 (by decide) (fun h44 => ?_) (fun h44 => ?_)
          · first | refine G_iincN 74 hC (by decide) rfl (ls' := [_, _, _]) rfl dX12_again_74 ?_ | refine G_iinc 74 hC _ rfl (by decide) rfl (ls' := [_, _, _]) rfl dX12_again_74 ?_
            refine G_goto 77 2 hC dX12_again_77 (by decide) ?_
            have z := (nI_leI (by omega) (by omega)).mp h44
            have hm0 : m = 0 := by omega
            subst hm0
            exact ih k (Nat.lt_succ_self k) (t + 1) n2 q2 S2 _ hkt (by omega) hE
          · have a44 : i < to := by
              rcases Nat.lt_or_ge i to with z | z
              · exact z
              · exact absurd ((nI_leI (by omega) (by omega)).mpr z) h44
            obtain ⟨m, rfl⟩ : ∃ m1, m = m1 + 1 := ⟨m - 1, by omega⟩
            refine G_aload_n 47 hC rfl dX12_again_47 ?_
            refine G_aload_n 48 hC rfl dX12_again_48 ?_
            refine M_getR 49 hC hF fl_X12_44_11 rfl rfl dX12_again_49 ?_
            refine G_iload_n 52 hC rfl dX12_again_52 ?_
            refine N_ialdO 53 hC hF rfl (by decide) (by decide) rfl (by omega) dX12_again_53 ?_
            rw [h12]
            refine G_iload_n 54 hC rfl dX12_again_54 ?_
            refine G_callV1 55 hC (n_isLost hF hs2 (i := i) (by omega) hsg hg2 h2 hsz hpl) okX12_isLost lk_X12_217 ((hF.sh (o := 0) rfl (by decide)).1) rfl rfl rfl rfl (Nat.le_of_ble_eq_true rfl) (by decide) (by decide) dX12_again_55 ?_
            first | refine G_if_eq_b 58 68 hC dX12_again_58 (by decide) (fun h58 => ?_) (fun h58 => ?_) | refine G_if_eq 58 68 hC dX12_again_58 (by decide) (fun h58 => ?_) (fun h58 => ?_)
            · first | refine G_iincN 68 hC (by decide) rfl (ls' := [_, _, _]) rfl dX12_again_68 ?_ | refine G_iinc 68 hC _ rfl (by decide) rfl (ls' := [_, _, _]) rfl dX12_again_68 ?_
              refine G_goto 71 17 hC dX12_again_71 (by decide) ?_
              refine ihm m (Nat.lt_succ_self m) (i + 1) _ _ _ (by omega) (by omega) ?_ ⟨hkt, ?_⟩
              · first | (rw [F_lost_n (by omega)]; exact h3) | (rw [up_ne (by omega), F_lost_n (by omega)]; exact h3)
              · rw [← hE, F_agI_s]
                first | (rw [if_pos h58]; done) | (rw [if_neg h58]; done)
            · refine G_aload_n 61 hC rfl dX12_again_61 ?_
              refine G_iload_n 62 hC rfl dX12_again_62 ?_
              refine G_bipush 63 hC (nI 6) (by decide) dX12_again_63 ?_
              refine G_callV0 65 hC (n_more hF (by omega) (by omega)) okX12_more lk_X12_160 ((hF.sh (o := 0) rfl (by decide)).1) rfl rfl rfl rfl (Nat.le_of_ble_eq_true rfl) (by decide) (by decide) dX12_again_65 ?_
              first | refine G_iincN 68 hC (by decide) rfl (ls' := [_, _, _]) rfl dX12_again_68 ?_ | refine G_iinc 68 hC _ rfl (by decide) rfl (ls' := [_, _, _]) rfl dX12_again_68 ?_
              refine G_goto 71 17 hC dX12_again_71 (by decide) ?_
              refine ihm m (Nat.lt_succ_self m) (i + 1) _ _ _ (by omega) (by omega) ?_ ⟨hkt, ?_⟩
              · first | (rw [F_lost_n (by omega)]; exact h3) | (rw [up_ne (by omega), F_lost_n (by omega)]; exact h3)
              · rw [← hE, F_agI_s]
                first | (rw [if_pos h58]; done) | (rw [if_neg h58]; done)
  have loop : ∀ (k t : Nat) (n1 : Nat → Int32) (q1 : Nat → Int64) (S1 : Int64) (x2 : Option MV), nt - t = k → t ≤ nt → F_agT r rl k t n1 q1 S1 = W → g 2 [some (vr (some (b + 0))), some (vi (nI t)), x2] [] (RI b r n1 G) (RLg b rl S1 q1 GL) N 0 0 := by
    intro k
    induction k using Nat.strongRecOn with
    | _ k ih =>
      intro t n1 q1 S1 x2 hk1 ht1 hE
      refine G_iload_n 2 hC rfl dX12_again_2 ?_
      refine G_aload_n 3 hC rfl dX12_again_3 ?_
      refine N_getI 4 hC hF fl_X12_101_11 rfl dX12_again_4 ?_
      rw [hnt]
      refine G_icmp_ge 7 80 hC dX12_again_7 (by decide) (fun h7 => ?_) (fun h7 => ?_)
      · refine R_v 80 hR dX12_again_80 (Nat.le_refl _) (Nat.le_refl _) ?_
        have z := (nI_leI (by omega) (by omega)).mp h7
        have hk0 : k = 0 := by omega
        subst hk0
        rw [← hE]
        exact ⟨rfl, rfl, rfl, rfl⟩
      · have a7 : t < nt := by
          rcases Nat.lt_or_ge t nt with z | z
          · exact z
          · exact absurd ((nI_leI (by omega) (by omega)).mpr z) h7
        obtain ⟨k, rfl⟩ : ∃ k1, k = k1 + 1 := ⟨k - 1, by omega⟩
        refine G_aload_n 10 hC rfl dX12_again_10 ?_
        refine M_getR 11 hC hF fl_X12_47_11 rfl rfl dX12_again_11 ?_
        refine G_iload_n 14 hC rfl dX12_again_14 ?_
        refine N_ialdO 15 hC hF rfl (by decide) (by decide) rfl (by omega) dX12_again_15 ?_
        refine G_istore_n 16 hC 2 rfl (by decide) (ls' := [_, _, _]) rfl dX12_again_16 ?_
        by_cases hc : r 6 t = nI 4 ∧ n1 (12 * t + 0) = nI 3
        · obtain ⟨s, fr, to, g0, sz, hs2, hft, hto2, hg2, hsz, h12, h13, h14, hsg, h2, hpl⟩ := hsh t a7 hc.1
          rw [h13]
          exact inner t (by omega) k (fun z => ih z) s fr to g0 sz hc.1 hs2 hto2 hg2 hsz h12 h14 hsg h2 hpl _ fr n1 q1 S1 rfl hft hc.2 ⟨by omega, by rw [← hE, F_agT_y hc, h12, nI_clamp (by omega), hsg, nI_clamp (by omega), h13, h14, nI_clamp (by omega), nI_clamp (by omega)]⟩
        · refine G_aload_n 17 hC rfl dX12_again_17 ?_
          refine M_getR 18 hC hF fl_X12_26_11 rfl rfl dX12_again_18 ?_
          refine G_iload_n 21 hC rfl dX12_again_21 ?_
          refine N_ialdO 22 hC hF rfl (by decide) (by decide) rfl (by omega) dX12_again_22 ?_
          refine G_iconst 23 hC (nI 4) (by decide) dX12_again_23 ?_
          refine G_icmp_ne 24 74 hC dX12_again_24 (by decide) (fun h24 => ?_) (fun h24 => ?_)
          · first | refine G_iincN 74 hC (by decide) rfl (ls' := [_, _, _]) rfl dX12_again_74 ?_ | refine G_iinc 74 hC _ rfl (by decide) rfl (ls' := [_, _, _]) rfl dX12_again_74 ?_
            refine G_goto 77 2 hC dX12_again_77 (by decide) ?_
            exact ih k (Nat.lt_succ_self k) (t + 1) n1 q1 S1 _ (by omega) (by omega) (by rw [← hE, F_agT_n hc])
          · refine G_aload_n 27 hC rfl dX12_again_27 ?_
            refine G_iload_n 28 hC rfl dX12_again_28 ?_
            refine G_iconst 29 hC (nI 0) (by decide) dX12_again_29 ?_
            refine G_callV1 30 hC (n_at hF (by omega) (by omega)) okX12_at lk_X12_173 ((hF.sh (o := 0) rfl (by decide)).1) rfl rfl rfl rfl (Nat.le_of_ble_eq_true rfl) (by decide) (by decide) dX12_again_30 ?_
            refine G_iconst 33 hC (nI 3) (by decide) dX12_again_33 ?_
            refine G_icmp_ne 34 74 hC dX12_again_34 (by decide) (fun h34 => ?_) (fun h34 => ?_)
            · first | refine G_iincN 74 hC (by decide) rfl (ls' := [_, _, _]) rfl dX12_again_74 ?_ | refine G_iinc 74 hC _ rfl (by decide) rfl (ls' := [_, _, _]) rfl dX12_again_74 ?_
              refine G_goto 77 2 hC dX12_again_77 (by decide) ?_
              exact ih k (Nat.lt_succ_self k) (t + 1) n1 q1 S1 _ (by omega) (by omega) (by rw [← hE, F_agT_n hc])
            · exact absurd ⟨h24, h34⟩ hc
  show g 0 [some (vr (some (b + 0))), none, none] [] _ _ N 0 0
  refine G_iconst 0 hC (nI 0) (by decide) dX12_again_0 ?_
  refine G_istore_n 1 hC 1 rfl (by decide) (ls' := [_, _, _]) rfl dX12_again_1 ?_
  exact loop _ 0 n q S none rfl (Nat.zero_le _) hW
end M11

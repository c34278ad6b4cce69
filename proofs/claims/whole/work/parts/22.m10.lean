/-! ===== isLost ===== -/
noncomputable def F_il (r : MI) (rl : ML) (s i p li : Nat) : Nat → Nat → Int64 → (Nat → Int32) → (Nat → Int64) → Int32 × ((Nat → Int32) × ((Nat → Int64) × Int64))
  | 0, _, S, n, q => (0, (n, (q, S)))
  | k + 1, rd, S, n, q =>
    if (F_goes r n q (if rd < li then S + F_worth (rl 5 (12 * p + rd)) else S) s i (nI (if rd < li then rd + 1 else rd)) p).1 = 0 then
      F_il r rl s i p li k (if rd < li then rd + 1 else rd) (if rd < li then S + F_worth (rl 5 (12 * p + rd)) else S) (F_goes r n q (if rd < li then S + F_worth (rl 5 (12 * p + rd)) else S) s i (nI (if rd < li then rd + 1 else rd)) p).2.1 (F_goes r n q (if rd < li then S + F_worth (rl 5 (12 * p + rd)) else S) s i (nI (if rd < li then rd + 1 else rd)) p).2.2
    else ((F_goes r n q (if rd < li then S + F_worth (rl 5 (12 * p + rd)) else S) s i (nI (if rd < li then rd + 1 else rd)) p).1, ((F_goes r n q (if rd < li then S + F_worth (rl 5 (12 * p + rd)) else S) s i (nI (if rd < li then rd + 1 else rd)) p).2.1, ((F_goes r n q (if rd < li then S + F_worth (rl 5 (12 * p + rd)) else S) s i (nI (if rd < li then rd + 1 else rd)) p).2.2, (if rd < li then S + F_worth (rl 5 (12 * p + rd)) else S))))
/-- behind a read (rd1 items, sum S1): go on, or be over -/
noncomputable def F_ilg (r : MI) (rl : ML) (s i p li k rd1 : Nat) (S1 : Int64) (n : Nat → Int32) (q : Nat → Int64) : Int32 × ((Nat → Int32) × ((Nat → Int64) × Int64)) :=
  if (F_goes r n q S1 s i (nI rd1) p).1 = 0 then F_il r rl s i p li k rd1 S1 (F_goes r n q S1 s i (nI rd1) p).2.1 (F_goes r n q S1 s i (nI rd1) p).2.2
  else ((F_goes r n q S1 s i (nI rd1) p).1, ((F_goes r n q S1 s i (nI rd1) p).2.1, ((F_goes r n q S1 s i (nI rd1) p).2.2, S1)))
theorem F_il_s {r : MI} {rl : ML} {s i p li k rd : Nat} {S : Int64} {n : Nat → Int32} {q : Nat → Int64} : F_il r rl s i p li (k + 1) rd S n q = F_ilg r rl s i p li k (if rd < li then rd + 1 else rd) (if rd < li then S + F_worth (rl 5 (12 * p + rd)) else S) n q := rfl
theorem F_goes_z {r : MI} {n : Nat → Int32} {q : Nat → Int64} {S : Int64} {s i p : Nat} {rd : Int32} (h : (F_goes r n q S s i rd p).1 = 0) : rd < r 4 p := by
  unfold F_goes at h
  split at h
  · exact absurd h (by simp only; decide)
  · split at h
    · exact absurd h (by simp only; decide)
    · split at h
      · assumption
      · exact absurd h (by simp only; decide)
section M10
variable {l : Launch} {D : va_G} {B b : Nat} {N : NT} {r G : MI} {rl GL : ML} {n n1 n2 n3 : Nat → Int32} {q q1 : Nat → Int64} {S S1 : Int64} {I : MI} {L L1 : ML}
theorem n_isLost_f (hF : FixR b N) {s i g0 sz : Nat} (hs2 : s < 8) (hsg : r 15 s = nI g0) (hg2 : g0 < 6) (h2 : r 2 g0 = nI sz) (hsz : sz ≤ 12) (hpl : PlOk r g0 sz) (hlf : ¬ F_lf r s g0 (nI i) = 0) : Cq l D B mX12_isLost [vr (some (b + 0)), vi (nI s), vi (nI i)] (RI b r n G) (RLg b rl S q GL) N (some (vi (bI (0 < F_lf r s g0 (nI i))))) (RI b r n G) (RLg b rl 0 q GL) := by
  refine Ct.of (M := mX12_isLost) (by decide) (Nat.le_of_ble_eq_true rfl) (fun g (hR : Cr l D B RX12 cX12_isLost 6 "isLost" { frames := 3, cells := 0, slots := 0, locals := 67 } (some .boolean) 0 0 _ g) => ?_)
  have hC := hR.cx
  show g 0 [some (vr (some (b + 0))), some (vi (nI s)), some (vi (nI i)), none, none, none] [] _ _ N 0 0
  refine G_aload_n 0 hC rfl dX12_isLost_0 ?_
  refine G_iload_n 1 hC rfl dX12_isLost_1 ?_
  refine G_iload_n 2 hC rfl dX12_isLost_2 ?_
  refine G_callV1 3 hC (n_lineFault hF hs2 hsg hg2 h2 hsz hpl) okX12_lineFault lk_X12_192 ((hF.sh (o := 0) rfl (by decide)).1) rfl rfl rfl rfl (Nat.le_of_ble_eq_true rfl) (by decide) (by decide) dX12_isLost_3 ?_
  refine G_istore_n 6 hC 3 rfl (by decide) (ls' := [_, _, _, _, _, _]) rfl dX12_isLost_6 ?_
  refine G_iconst 7 hC (nI 0) (by decide) dX12_isLost_7 ?_
  refine G_istore 8 hC (by decide) (ls' := [_, _, _, _, _, _]) rfl dX12_isLost_8 ?_
  refine G_aload_n 10 hC rfl dX12_isLost_10 ?_
  refine G_lconst 11 hC 0 (by decide) dX12_isLost_11 ?_
  refine Q_putL 12 hC hF (fp_X12_184_11 _) dX12_isLost_12 ?_
  refine G_iload_n 15 hC rfl dX12_isLost_15 ?_
  first | refine G_if_ne_b 16 89 hC dX12_isLost_16 (by decide) (fun h16 => ?_) (fun h16 => ?_) | refine G_if_ne 16 89 hC dX12_isLost_16 (by decide) (fun h16 => ?_) (fun h16 => ?_)
  · refine G_iload_n 89 hC rfl dX12_isLost_89 ?_
    refine G_if_le 90 97 hC dX12_isLost_90 (by decide) (fun h90 => ?_) (fun h90 => ?_)
    · refine G_iconst 97 hC (nI 0) (by decide) dX12_isLost_97 ?_
      refine R_i 98 hR (by first | rfl | exact narrow_bI _) dX12_isLost_98 (Nat.le_refl _) (Nat.le_refl _) ?_
      refine ⟨?_, rfl, rfl, rfl⟩
      first | exact congrArg (fun z => some (vi z)) (bI_f (Int32.not_lt.mpr h90)) | exact congrArg (fun z => some (vi z)) (bI_t (Int32.not_le.mp h90))
    · refine G_iconst 93 hC (nI 1) (by decide) dX12_isLost_93 ?_
      refine G_goto 94 98 hC dX12_isLost_94 (by decide) ?_
      refine R_i 98 hR (by first | rfl | exact narrow_bI _) dX12_isLost_98 (Nat.le_refl _) (Nat.le_refl _) ?_
      refine ⟨?_, rfl, rfl, rfl⟩
      first | exact congrArg (fun z => some (vi z)) (bI_f (Int32.not_lt.mpr h90)) | exact congrArg (fun z => some (vi z)) (bI_t (Int32.not_le.mp h90))
  · exact absurd h16 hlf
theorem n_isLost_0 (hF : FixR b N) {s i g0 sz p li : Nat} (hs2 : s < 8) (hsg : r 15 s = nI g0) (hg2 : g0 < 6) (h2 : r 2 g0 = nI sz) (hsz : sz ≤ 12) (hpl : PlOk r g0 sz) (hkd : r 1 g0 = r 16 s) (hi2 : i < sz) (hp : r 3 (20 * g0 + i) = nI p) (hp2 : p < 600) (hli : r 4 p = nI li) (hli2 : li ≤ 12) : Cq l D B mX12_isLost [vr (some (b + 0)), vi (nI s), vi (nI i)] (RI b r n G) (RLg b rl S q GL) N (some (vi (bI (0 < (F_il r rl s i p li (li + 1) 0 0 n q).1)))) (RI b r (F_il r rl s i p li (li + 1) 0 0 n q).2.1 G) (RLg b rl (F_il r rl s i p li (li + 1) 0 0 n q).2.2.2 (F_il r rl s i p li (li + 1) 0 0 n q).2.2.1 GL) := by
  obtain ⟨W, hW⟩ : ∃ W, F_il r rl s i p li (li + 1) 0 0 n q = W := ⟨_, rfl⟩
  rw [hW]
  refine Ct.of (M := mX12_isLost) (by decide) (Nat.le_of_ble_eq_true rfl) (fun g (hR : Cr l D B RX12 cX12_isLost 6 "isLost" { frames := 3, cells := 0, slots := 0, locals := 67 } (some .boolean) 0 0 _ g) => ?_)
  have hC := hR.cx
  have loop : ∀ (k rd : Nat) (S1 : Int64) (n1 : Nat → Int32) (q1 : Nat → Int64) (x5 : Option MV), li - rd < k → rd ≤ li → F_il r rl s i p li k rd S1 n1 q1 = W → g 15 [some (vr (some (b + 0))), some (vi (nI s)), some (vi (nI i)), some (vi (nI 0)), some (vi (nI rd)), x5] [] (RI b r n1 G) (RLg b rl S1 q1 GL) N 0 0 := by
    intro k
    induction k with
    | zero => intro rd S1 n1 q1 x5 h1; omega
    | succ k ih =>
      intro rd S1 n1 q1 x5 hk1 hrd hE
      have fin : ∀ (rd0 rd1 : Nat) (S2 : Int64) (n1 : Nat → Int32) (q1 : Nat → Int64) (x5 : Option MV), (rd0 < li ∧ rd1 = rd0 + 1 ∨ ¬ rd0 < li ∧ rd1 = rd0) → rd0 ≤ li → li - rd0 < k + 1 → F_ilg r rl s i p li k rd1 S2 n1 q1 = W → g 15 [some (vr (some (b + 0))), some (vi (nI s)), some (vi (nI i)), some (vi (F_goes r n1 q1 S2 s i (nI rd1) p).1), some (vi (nI rd1)), x5] [] (RI b r (F_goes r n1 q1 S2 s i (nI rd1) p).2.1 G) (RLg b rl S2 (F_goes r n1 q1 S2 s i (nI rd1) p).2.2 GL) N 0 0 := by
        intro rd0 rd1 S2 n1 q1 x5 hrd1 hrd0 hk2 hE2
        unfold F_ilg at hE2
        by_cases hz : (F_goes r n1 q1 S2 s i (nI rd1) p).1 = 0
        · rw [if_pos hz] at hE2
          have hlt := (nI_ltI (by omega) (by omega)).mp (hli ▸ F_goes_z hz)
          rw [hz]
          exact ih rd1 S2 _ _ x5 (by omega) (by omega) hE2
        · rw [if_neg hz] at hE2
          rw [← hE2] at hR
          refine G_iload_n 15 hC rfl dX12_isLost_15 ?_
          refine G_if_ne 16 89 hC dX12_isLost_16 (by decide) (fun h16 => ?_) (fun h16 => absurd h16 hz)
          refine G_iload_n 89 hC rfl dX12_isLost_89 ?_
          refine G_if_le 90 97 hC dX12_isLost_90 (by decide) (fun h90 => ?_) (fun h90 => ?_)
          · refine G_iconst 97 hC (nI 0) (by decide) dX12_isLost_97 ?_
            refine R_i 98 hR (by first | rfl | exact narrow_bI _) dX12_isLost_98 (Nat.le_refl _) (Nat.le_refl _) ?_
            exact ⟨congrArg (fun z => some (vi z)) (bI_f (Int32.not_lt.mpr h90)), rfl, rfl, rfl⟩
          · refine G_iconst 93 hC (nI 1) (by decide) dX12_isLost_93 ?_
            refine G_goto 94 98 hC dX12_isLost_94 (by decide) ?_
            refine R_i 98 hR (by first | rfl | exact narrow_bI _) dX12_isLost_98 (Nat.le_refl _) (Nat.le_refl _) ?_
            exact ⟨congrArg (fun z => some (vi z)) (bI_t (Int32.not_le.mp h90)), rfl, rfl, rfl⟩
      refine G_iload_n 15 hC rfl dX12_isLost_15 ?_
      first | refine G_if_ne_b 16 89 hC dX12_isLost_16 (by decide) (fun h16 => ?_) (fun h16 => ?_) | refine G_if_ne 16 89 hC dX12_isLost_16 (by decide) (fun h16 => ?_) (fun h16 => ?_)
      · exact absurd rfl h16
      · refine G_aload_n 19 hC rfl dX12_isLost_19 ?_
        refine M_getR 20 hC hF fl_X12_16_11 rfl rfl dX12_isLost_20 ?_
        refine G_bipush 23 hC (nI 20) (by decide) dX12_isLost_23 ?_
        refine G_aload_n 25 hC rfl dX12_isLost_25 ?_
        refine M_getR 26 hC hF fl_X12_53_11 rfl rfl dX12_isLost_26 ?_
        refine G_iload_n 29 hC rfl dX12_isLost_29 ?_
        refine N_ialdO 30 hC hF rfl (by decide) (by decide) rfl (by omega) dX12_isLost_30 ?_
        rw [hsg]
        refine G_imulN 31 hC dX12_isLost_31 ?_
        refine G_iload_n 32 hC rfl dX12_isLost_32 ?_
        refine G_iaddN 33 hC dX12_isLost_33 ?_
        refine N_ialdO 34 hC hF rfl (by decide) (by decide) rfl (by omega) dX12_isLost_34 ?_
        rw [hp]
        refine G_istore 35 hC (by decide) (ls' := [_, _, _, _, _, _]) rfl dX12_isLost_35 ?_
        rcases Nat.lt_or_ge rd li with a46 | a46
        · refine G_iload 37 hC rfl dX12_isLost_37 ?_
          refine G_aload_n 39 hC rfl dX12_isLost_39 ?_
          refine M_getR 40 hC hF fl_X12_19_11 rfl rfl dX12_isLost_40 ?_
          refine G_iload 43 hC rfl dX12_isLost_43 ?_
          refine N_ialdO 45 hC hF rfl (by decide) (by decide) rfl (by omega) dX12_isLost_45 ?_
          rw [hli]
          refine G_icmp_ge 46 77 hC dX12_isLost_46 (by decide) (fun h46 => ?_) (fun h46 => ?_)
          · exact absurd ((nI_leI (by omega) (by omega)).mp h46) (by omega)
          · refine G_aload_n 49 hC rfl dX12_isLost_49 ?_
            refine G_dup 50 hC rfl dX12_isLost_50 ?_
            refine Q_getL 51 hC hF fl_X12_184_11 dX12_isLost_51 ?_
            refine G_aload_n 54 hC rfl dX12_isLost_54 ?_
            refine M_getR 55 hC hF fl_X12_22_11 rfl rfl dX12_isLost_55 ?_
            refine G_bipush 58 hC (nI 12) (by decide) dX12_isLost_58 ?_
            refine G_iload 60 hC rfl dX12_isLost_60 ?_
            refine G_imulN 62 hC dX12_isLost_62 ?_
            refine G_iload 63 hC rfl dX12_isLost_63 ?_
            refine G_iaddN 65 hC dX12_isLost_65 ?_
            refine Q_laldO 66 hC hF rfl (by decide) (by decide) (by decide) rfl (by omega) dX12_isLost_66 ?_
            refine G_callS1 67 hC (ref_worth) okX12_worth lk_X12_180 rfl rfl rfl (Nat.le_of_ble_eq_true rfl) (by decide) (by decide) dX12_isLost_67 ?_
            refine G_ladd 70 hC dX12_isLost_70 ?_
            refine Q_putL 71 hC hF (fp_X12_184_11 _) dX12_isLost_71 ?_
            first | refine G_iincN 74 hC (by decide) rfl (ls' := [_, _, _, _, _, _]) rfl dX12_isLost_74 ?_ | refine G_iinc 74 hC _ rfl (by decide) rfl (ls' := [_, _, _, _, _, _]) rfl dX12_isLost_74 ?_
            refine G_aload_n 77 hC rfl dX12_isLost_77 ?_
            refine G_iload_n 78 hC rfl dX12_isLost_78 ?_
            refine G_iload_n 79 hC rfl dX12_isLost_79 ?_
            refine G_iload 80 hC rfl dX12_isLost_80 ?_
            refine G_callV1 82 hC (n_goes hF hs2 hsg hg2 (by omega) hp hp2) okX12_goes lk_X12_195 ((hF.sh (o := 0) rfl (by decide)).1) rfl rfl rfl rfl (Nat.le_of_ble_eq_true rfl) (by decide) (by decide) dX12_isLost_82 ?_
            refine G_istore_n 85 hC 3 rfl (by decide) (ls' := [_, _, _, _, _, _]) rfl dX12_isLost_85 ?_
            refine G_goto 86 15 hC dX12_isLost_86 (by decide) ?_
            refine fin rd (rd + 1) (S1 + F_worth (rl 5 (12 * p + rd))) n1 q1 _ (Or.inl ⟨a46, rfl⟩) hrd hk1 ?_
            rw [← hE, F_il_s, if_pos a46, if_pos a46]
        · refine G_iload 37 hC rfl dX12_isLost_37 ?_
          refine G_aload_n 39 hC rfl dX12_isLost_39 ?_
          refine M_getR 40 hC hF fl_X12_19_11 rfl rfl dX12_isLost_40 ?_
          refine G_iload 43 hC rfl dX12_isLost_43 ?_
          refine N_ialdO 45 hC hF rfl (by decide) (by decide) rfl (by omega) dX12_isLost_45 ?_
          rw [hli]
          refine G_icmp_ge 46 77 hC dX12_isLost_46 (by decide) (fun h46 => ?_) (fun h46 => ?_)
          · refine G_aload_n 77 hC rfl dX12_isLost_77 ?_
            refine G_iload_n 78 hC rfl dX12_isLost_78 ?_
            refine G_iload_n 79 hC rfl dX12_isLost_79 ?_
            refine G_iload 80 hC rfl dX12_isLost_80 ?_
            refine G_callV1 82 hC (n_goes hF hs2 hsg hg2 (by omega) hp hp2) okX12_goes lk_X12_195 ((hF.sh (o := 0) rfl (by decide)).1) rfl rfl rfl rfl (Nat.le_of_ble_eq_true rfl) (by decide) (by decide) dX12_isLost_82 ?_
            refine G_istore_n 85 hC 3 rfl (by decide) (ls' := [_, _, _, _, _, _]) rfl dX12_isLost_85 ?_
            refine G_goto 86 15 hC dX12_isLost_86 (by decide) ?_
            refine fin rd rd S1 n1 q1 _ (Or.inr ⟨Nat.not_lt.mpr a46, rfl⟩) hrd hk1 ?_
            rw [← hE, F_il_s, if_neg (Nat.not_lt.mpr a46), if_neg (Nat.not_lt.mpr a46)]
          · exact absurd ((nI_leI (by omega) (by omega)).mpr a46) h46
  show g 0 [some (vr (some (b + 0))), some (vi (nI s)), some (vi (nI i)), none, none, none] [] _ _ N 0 0
  refine G_aload_n 0 hC rfl dX12_isLost_0 ?_
  refine G_iload_n 1 hC rfl dX12_isLost_1 ?_
  refine G_iload_n 2 hC rfl dX12_isLost_2 ?_
  refine G_callV1 3 hC (n_lineFault hF hs2 hsg hg2 h2 hsz hpl) okX12_lineFault lk_X12_192 ((hF.sh (o := 0) rfl (by decide)).1) rfl rfl rfl rfl (Nat.le_of_ble_eq_true rfl) (by decide) (by decide) dX12_isLost_3 ?_
  refine G_istore_n 6 hC 3 rfl (by decide) (ls' := [_, _, _, _, _, _]) rfl dX12_isLost_6 ?_
  refine G_iconst 7 hC (nI 0) (by decide) dX12_isLost_7 ?_
  refine G_istore 8 hC (by decide) (ls' := [_, _, _, _, _, _]) rfl dX12_isLost_8 ?_
  refine G_aload_n 10 hC rfl dX12_isLost_10 ?_
  refine G_lconst 11 hC 0 (by decide) dX12_isLost_11 ?_
  refine Q_putL 12 hC hF (fp_X12_184_11 _) dX12_isLost_12 ?_
  rw [F_lf_0 hkd h2 hsz hi2 hp hp2]
  exact loop _ 0 0 n q none (by omega) (by omega) hW
end M10

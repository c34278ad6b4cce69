/-! ===== takes ===== -/
def F_takes (r : MI) (n : Nat → Int32) (t h k : Nat) : Nat → Int32 :=
  F_notes (up (up (up (up (up (up (up n (12 * t + 0) (nI 1)) (12 * t + 5) (nI h)) (12 * t + 3) (n (12 * t + 3) + nI 1)) (250 + h) (nI t)) 248 (n 248 - nI 1)) 242 (n 242 - r 10 t)) 243 (if n 243 < r 0 2 - (n 242 - r 10 t) then r 0 2 - (n 242 - r 10 t) else n 243)) k (nI (100 * t + 10 * h + 1))
section NUM2
variable {l : Launch} {D : va_G} {B : Nat} {own : String} {cc : ByteArray} {nL : Nat} {mn : String} {R : Room} {g : GT} {ls ls' : List (Option MV)} {st st0 : List MV} {I : MI} {L : ML} {N : NT} {kc ks : Nat}
theorem G_iincN (pc : Nat) (hC : Cx l D B own cc nL mn R g) {i x : Nat} (hn : i < nL) (hl0 : ls[i]? = some (some (vi (nI x)))) (hl' : lset1 ls i (vi (nI (x + 1))) = ls') (hd : decode cc pc = .ok (.iinc i 1, 3)) (kk : g (pc + 3) ls' st I L N kc ks) : g pc ls st I L N kc ks := G_iinc pc hC (nI (x + 1)) (by rw [show Int32.ofInt 1 = 1 from rfl, nI_1]) hn hl0 hl' hd kk
end NUM2
section M8
variable {l : Launch} {D : va_G} {B b : Nat} {N : NT} {r G : MI} {rl GL : ML} {n n1 : Nat → Int32} {q q1 : Nat → Int64} {S S1 : Int64} {I : MI} {L : ML}
theorem n_takes_pass (hF : FixR b N) {h nt w : Nat} (hh : h < 6) (hnt : r 0 10 = nI nt) (hnt2 : nt ≤ 20) (hw : n 248 = nI w) (hw2 : w ≤ 20) (hno : w = 0 ∨ ∀ u, u < nt → ¬ (n (12 * u + 0) = 0 ∧ r 10 u ≤ n 242)) : Cq l D B mX12_takes [vr (some (b + 0)), vi (nI h)] (RI b r n G) L N none (RI b r (up n 241 (n 241 + nI 1)) G) L := by
  refine Ct.of (M := mX12_takes) (by decide) (Nat.le_of_ble_eq_true rfl) (fun g (hR : Cr l D B RX12 cX12_takes 3 "takes" { frames := 1, cells := 0, slots := 0, locals := 23 } none 0 0 _ g) => ?_)
  have hC := hR.cx
  have loop : ∀ (k j : Nat), nt - j < k → j ≤ nt → g 2 [some (vr (some (b + 0))), some (vi (nI h)), some (vi (nI j))] [] (RI b r n G) L N 0 0 := by
    intro k
    induction k with
    | zero => intro j h1; omega
    | succ k ih =>
      intro j hk hj
      refine G_aload_n 2 hC rfl dX12_takes_2 ?_
      refine M_getR 3 hC hF fl_X12_68_11 rfl rfl dX12_takes_3 ?_
      refine G_sipush 6 hC (nI 248) (by decide) dX12_takes_6 ?_
      refine N_iald 9 hC hF rfl (by omega) dX12_takes_9 ?_
      refine G_if_le 10 53 hC dX12_takes_10 (by decide) (fun h10 => ?_) (fun h10 => ?_)
      · refine G_aload_n 53 hC rfl dX12_takes_53 ?_
        refine M_getR 54 hC hF fl_X12_68_11 rfl rfl dX12_takes_54 ?_
        refine G_sipush 57 hC (nI 248) (by decide) dX12_takes_57 ?_
        refine N_iald 60 hC hF rfl (by omega) dX12_takes_60 ?_
        first | refine G_if_eq_b 61 72 hC dX12_takes_61 (by decide) (fun h61 => ?_) (fun h61 => ?_) | refine G_if_eq 61 72 hC dX12_takes_61 (by decide) (fun h61 => ?_) (fun h61 => ?_)
        · refine G_aload_n 72 hC rfl dX12_takes_72 ?_
          refine M_getR 73 hC hF fl_X12_68_11 rfl rfl dX12_takes_73 ?_
          refine G_sipush 76 hC (nI 241) (by decide) dX12_takes_76 ?_
          first | refine G_dup2 79 hC rfl rfl dX12_takes_79 ?_ | refine G_dup2L 79 hC dX12_takes_79 ?_
          refine N_iald 80 hC hF rfl (by omega) dX12_takes_80 ?_
          refine G_iconst 81 hC (nI 1) (by decide) dX12_takes_81 ?_
          refine G_iadd 82 hC dX12_takes_82 ?_
          refine N_iast 83 hC hF rfl (by omega) dX12_takes_83 ?_
          refine R_v 84 hR dX12_takes_84 (Nat.le_refl _) (Nat.le_refl _) ?_
          exact ⟨rfl, rfl, rfl, rfl⟩
        · refine G_iload_n 64 hC rfl dX12_takes_64 ?_
          refine G_aload_n 65 hC rfl dX12_takes_65 ?_
          refine N_getI 66 hC hF fl_X12_101_11 rfl dX12_takes_66 ?_
          rw [hnt]
          refine G_icmp_ne 69 85 hC dX12_takes_69 (by decide) (fun h69 => ?_) (fun h69 => ?_)
          · exfalso
            first
              | (exact h61 (by rw [hw] at h10 ⊢; have z : w = 0 := Nat.eq_zero_of_not_pos (fun y => nI_nle y (by omega) h10); rw [z]; rfl))
              | (rcases hno with z | z
                 · exact h10 (by rw [hw, z]; decide)
                 · exact z j a18 ⟨h27, h44⟩)
              | (exact h69 (by have z := (nI_leI (by omega) (by omega)).mp h18; rw [show j = nt by omega]))
          · refine G_aload_n 72 hC rfl dX12_takes_72 ?_
            refine M_getR 73 hC hF fl_X12_68_11 rfl rfl dX12_takes_73 ?_
            refine G_sipush 76 hC (nI 241) (by decide) dX12_takes_76 ?_
            first | refine G_dup2 79 hC rfl rfl dX12_takes_79 ?_ | refine G_dup2L 79 hC dX12_takes_79 ?_
            refine N_iald 80 hC hF rfl (by omega) dX12_takes_80 ?_
            refine G_iconst 81 hC (nI 1) (by decide) dX12_takes_81 ?_
            refine G_iadd 82 hC dX12_takes_82 ?_
            refine N_iast 83 hC hF rfl (by omega) dX12_takes_83 ?_
            refine R_v 84 hR dX12_takes_84 (Nat.le_refl _) (Nat.le_refl _) ?_
            exact ⟨rfl, rfl, rfl, rfl⟩
      · refine G_iload_n 13 hC rfl dX12_takes_13 ?_
        refine G_aload_n 14 hC rfl dX12_takes_14 ?_
        refine N_getI 15 hC hF fl_X12_101_11 rfl dX12_takes_15 ?_
        rw [hnt]
        refine G_icmp_ge 18 53 hC dX12_takes_18 (by decide) (fun h18 => ?_) (fun h18 => ?_)
        · refine G_aload_n 53 hC rfl dX12_takes_53 ?_
          refine M_getR 54 hC hF fl_X12_68_11 rfl rfl dX12_takes_54 ?_
          refine G_sipush 57 hC (nI 248) (by decide) dX12_takes_57 ?_
          refine N_iald 60 hC hF rfl (by omega) dX12_takes_60 ?_
          first | refine G_if_eq_b 61 72 hC dX12_takes_61 (by decide) (fun h61 => ?_) (fun h61 => ?_) | refine G_if_eq 61 72 hC dX12_takes_61 (by decide) (fun h61 => ?_) (fun h61 => ?_)
          · refine G_aload_n 72 hC rfl dX12_takes_72 ?_
            refine M_getR 73 hC hF fl_X12_68_11 rfl rfl dX12_takes_73 ?_
            refine G_sipush 76 hC (nI 241) (by decide) dX12_takes_76 ?_
            first | refine G_dup2 79 hC rfl rfl dX12_takes_79 ?_ | refine G_dup2L 79 hC dX12_takes_79 ?_
            refine N_iald 80 hC hF rfl (by omega) dX12_takes_80 ?_
            refine G_iconst 81 hC (nI 1) (by decide) dX12_takes_81 ?_
            refine G_iadd 82 hC dX12_takes_82 ?_
            refine N_iast 83 hC hF rfl (by omega) dX12_takes_83 ?_
            refine R_v 84 hR dX12_takes_84 (Nat.le_refl _) (Nat.le_refl _) ?_
            exact ⟨rfl, rfl, rfl, rfl⟩
          · refine G_iload_n 64 hC rfl dX12_takes_64 ?_
            refine G_aload_n 65 hC rfl dX12_takes_65 ?_
            refine N_getI 66 hC hF fl_X12_101_11 rfl dX12_takes_66 ?_
            rw [hnt]
            refine G_icmp_ne 69 85 hC dX12_takes_69 (by decide) (fun h69 => ?_) (fun h69 => ?_)
            · exfalso
              first
                | (exact h61 (by rw [hw] at h10 ⊢; have z : w = 0 := Nat.eq_zero_of_not_pos (fun y => nI_nle y (by omega) h10); rw [z]; rfl))
                | (rcases hno with z | z
                   · exact h10 (by rw [hw, z]; decide)
                   · exact z j a18 ⟨h27, h44⟩)
                | (exact h69 (by have z := (nI_leI (by omega) (by omega)).mp h18; rw [show j = nt by omega]))
            · refine G_aload_n 72 hC rfl dX12_takes_72 ?_
              refine M_getR 73 hC hF fl_X12_68_11 rfl rfl dX12_takes_73 ?_
              refine G_sipush 76 hC (nI 241) (by decide) dX12_takes_76 ?_
              first | refine G_dup2 79 hC rfl rfl dX12_takes_79 ?_ | refine G_dup2L 79 hC dX12_takes_79 ?_
              refine N_iald 80 hC hF rfl (by omega) dX12_takes_80 ?_
              refine G_iconst 81 hC (nI 1) (by decide) dX12_takes_81 ?_
              refine G_iadd 82 hC dX12_takes_82 ?_
              refine N_iast 83 hC hF rfl (by omega) dX12_takes_83 ?_
              refine R_v 84 hR dX12_takes_84 (Nat.le_refl _) (Nat.le_refl _) ?_
              exact ⟨rfl, rfl, rfl, rfl⟩
        · have a18 : j < nt := by
            rcases Nat.lt_or_ge j nt with z | z
            · exact z
            · exact absurd ((nI_leI (by omega) (by omega)).mpr z) h18
          refine G_aload_n 21 hC rfl dX12_takes_21 ?_
          refine G_iload_n 22 hC rfl dX12_takes_22 ?_
          refine G_iconst 23 hC (nI 0) (by decide) dX12_takes_23 ?_
          refine G_callV1 24 hC (n_at hF (by omega) (by omega)) okX12_at lk_X12_173 ((hF.sh (o := 0) rfl (by decide)).1) rfl rfl rfl rfl (Nat.le_of_ble_eq_true rfl) (by decide) (by decide) dX12_takes_24 ?_
          first | refine G_if_ne_b 27 47 hC dX12_takes_27 (by decide) (fun h27 => ?_) (fun h27 => ?_) | refine G_if_ne 27 47 hC dX12_takes_27 (by decide) (fun h27 => ?_) (fun h27 => ?_)
          · first | refine G_iincN 47 hC (by decide) rfl (ls' := [_, _, _]) rfl dX12_takes_47 ?_ | refine G_iinc 47 hC _ rfl (by decide) rfl (ls' := [_, _, _]) rfl dX12_takes_47 ?_
            refine G_goto 50 2 hC dX12_takes_50 (by decide) ?_
            exact ih (j + 1) (by omega) (by omega)
          · refine G_aload_n 30 hC rfl dX12_takes_30 ?_
            refine M_getR 31 hC hF fl_X12_38_11 rfl rfl dX12_takes_31 ?_
            refine G_iload_n 34 hC rfl dX12_takes_34 ?_
            refine N_ialdO 35 hC hF rfl (by decide) (by decide) rfl (by omega) dX12_takes_35 ?_
            refine G_aload_n 36 hC rfl dX12_takes_36 ?_
            refine M_getR 37 hC hF fl_X12_68_11 rfl rfl dX12_takes_37 ?_
            refine G_sipush 40 hC (nI 242) (by decide) dX12_takes_40 ?_
            refine N_iald 43 hC hF rfl (by omega) dX12_takes_43 ?_
            refine G_icmp_le 44 53 hC dX12_takes_44 (by decide) (fun h44 => ?_) (fun h44 => ?_)
            · refine G_aload_n 53 hC rfl dX12_takes_53 ?_
              refine M_getR 54 hC hF fl_X12_68_11 rfl rfl dX12_takes_54 ?_
              refine G_sipush 57 hC (nI 248) (by decide) dX12_takes_57 ?_
              refine N_iald 60 hC hF rfl (by omega) dX12_takes_60 ?_
              first | refine G_if_eq_b 61 72 hC dX12_takes_61 (by decide) (fun h61 => ?_) (fun h61 => ?_) | refine G_if_eq 61 72 hC dX12_takes_61 (by decide) (fun h61 => ?_) (fun h61 => ?_)
              · refine G_aload_n 72 hC rfl dX12_takes_72 ?_
                refine M_getR 73 hC hF fl_X12_68_11 rfl rfl dX12_takes_73 ?_
                refine G_sipush 76 hC (nI 241) (by decide) dX12_takes_76 ?_
                first | refine G_dup2 79 hC rfl rfl dX12_takes_79 ?_ | refine G_dup2L 79 hC dX12_takes_79 ?_
                refine N_iald 80 hC hF rfl (by omega) dX12_takes_80 ?_
                refine G_iconst 81 hC (nI 1) (by decide) dX12_takes_81 ?_
                refine G_iadd 82 hC dX12_takes_82 ?_
                refine N_iast 83 hC hF rfl (by omega) dX12_takes_83 ?_
                refine R_v 84 hR dX12_takes_84 (Nat.le_refl _) (Nat.le_refl _) ?_
                exact ⟨rfl, rfl, rfl, rfl⟩
              · refine G_iload_n 64 hC rfl dX12_takes_64 ?_
                refine G_aload_n 65 hC rfl dX12_takes_65 ?_
                refine N_getI 66 hC hF fl_X12_101_11 rfl dX12_takes_66 ?_
                rw [hnt]
                refine G_icmp_ne 69 85 hC dX12_takes_69 (by decide) (fun h69 => ?_) (fun h69 => ?_)
                · exfalso
                  first
                    | (exact h61 (by rw [hw] at h10 ⊢; have z : w = 0 := Nat.eq_zero_of_not_pos (fun y => nI_nle y (by omega) h10); rw [z]; rfl))
                    | (rcases hno with z | z
                       · exact h10 (by rw [hw, z]; decide)
                       · exact z j a18 ⟨h27, h44⟩)
                    | (exact h69 (by have z := (nI_leI (by omega) (by omega)).mp h18; rw [show j = nt by omega]))
                · refine G_aload_n 72 hC rfl dX12_takes_72 ?_
                  refine M_getR 73 hC hF fl_X12_68_11 rfl rfl dX12_takes_73 ?_
                  refine G_sipush 76 hC (nI 241) (by decide) dX12_takes_76 ?_
                  first | refine G_dup2 79 hC rfl rfl dX12_takes_79 ?_ | refine G_dup2L 79 hC dX12_takes_79 ?_
                  refine N_iald 80 hC hF rfl (by omega) dX12_takes_80 ?_
                  refine G_iconst 81 hC (nI 1) (by decide) dX12_takes_81 ?_
                  refine G_iadd 82 hC dX12_takes_82 ?_
                  refine N_iast 83 hC hF rfl (by omega) dX12_takes_83 ?_
                  refine R_v 84 hR dX12_takes_84 (Nat.le_refl _) (Nat.le_refl _) ?_
                  exact ⟨rfl, rfl, rfl, rfl⟩
            · first | refine G_iincN 47 hC (by decide) rfl (ls' := [_, _, _]) rfl dX12_takes_47 ?_ | refine G_iinc 47 hC _ rfl (by decide) rfl (ls' := [_, _, _]) rfl dX12_takes_47 ?_
              refine G_goto 50 2 hC dX12_takes_50 (by decide) ?_
              exact ih (j + 1) (by omega) (by omega)
  show g 0 [some (vr (some (b + 0))), some (vi (nI h)), none] [] _ _ N 0 0
  refine G_iconst 0 hC (nI 0) (by decide) dX12_takes_0 ?_
  refine G_istore_n 1 hC 2 rfl (by decide) (ls' := [_, _, _]) rfl dX12_takes_1 ?_
  exact loop _ 0 (Nat.lt_succ_self _) (Nat.zero_le _)
theorem n_takes_take (hF : FixR b N) {h nt w t k0 : Nat} (hh : h < 6) (hnt : r 0 10 = nI nt) (hnt2 : nt ≤ 20) (hw : n 248 = nI w) (hw2 : w ≤ 20) (hw0 : 0 < w) (ht : t < nt) (hfit : n (12 * t + 0) = 0 ∧ r 10 t ≤ n 242) (hno : ∀ u, u < t → ¬ (n (12 * u + 0) = 0 ∧ r 10 u ≤ n 242)) (hk : n 244 = nI k0) (hk2 : k0 < 40) : Cq l D B mX12_takes [vr (some (b + 0)), vi (nI h)] (RI b r n G) L N none (RI b r (F_takes r n t h k0) G) L := by
  refine Ct.of (M := mX12_takes) (by decide) (Nat.le_of_ble_eq_true rfl) (fun g (hR : Cr l D B RX12 cX12_takes 3 "takes" { frames := 1, cells := 0, slots := 0, locals := 23 } none 0 0 _ g) => ?_)
  have hC := hR.cx
  have loop : ∀ (k j : Nat), t - j < k → j ≤ t → g 2 [some (vr (some (b + 0))), some (vi (nI h)), some (vi (nI j))] [] (RI b r n G) L N 0 0 := by
    intro k
    induction k with
    | zero => intro j h1; omega
    | succ k ih =>
      intro j hk1 hj
      refine G_aload_n 2 hC rfl dX12_takes_2 ?_
      refine M_getR 3 hC hF fl_X12_68_11 rfl rfl dX12_takes_3 ?_
      refine G_sipush 6 hC (nI 248) (by decide) dX12_takes_6 ?_
      refine N_iald 9 hC hF rfl (by omega) dX12_takes_9 ?_
      refine G_if_le 10 53 hC dX12_takes_10 (by decide) (fun h10 => ?_) (fun h10 => ?_)
      · have ajt : j = t := by
          first
            | (exact absurd (by rw [hw] at h10; exact h10) (nI_nle hw0 (by omega)))
            | (exact absurd ((nI_leI (by omega) (by omega)).mp h18) (by omega))
            | (rcases Nat.lt_or_ge j t with z | z
               · exact absurd ⟨h27, h44⟩ (hno j z)
               · omega)
        subst ajt
        refine G_aload_n 53 hC rfl dX12_takes_53 ?_
        refine M_getR 54 hC hF fl_X12_68_11 rfl rfl dX12_takes_54 ?_
        refine G_sipush 57 hC (nI 248) (by decide) dX12_takes_57 ?_
        refine N_iald 60 hC hF rfl (by omega) dX12_takes_60 ?_
        first | refine G_if_eq_b 61 72 hC dX12_takes_61 (by decide) (fun h61 => ?_) (fun h61 => ?_) | refine G_if_eq 61 72 hC dX12_takes_61 (by decide) (fun h61 => ?_) (fun h61 => ?_)
        · exact absurd (by rw [hw] at h61; exact h61) (nI_ne0 hw0 (by omega))
        · refine G_iload_n 64 hC rfl dX12_takes_64 ?_
          refine G_aload_n 65 hC rfl dX12_takes_65 ?_
          refine N_getI 66 hC hF fl_X12_101_11 rfl dX12_takes_66 ?_
          rw [hnt]
          refine G_icmp_ne 69 85 hC dX12_takes_69 (by decide) (fun h69 => ?_) (fun h69 => ?_)
          · refine G_aload_n 85 hC rfl dX12_takes_85 ?_
            refine G_iload_n 86 hC rfl dX12_takes_86 ?_
            refine G_iconst 87 hC (nI 0) (by decide) dX12_takes_87 ?_
            refine G_iconst 88 hC (nI 1) (by decide) dX12_takes_88 ?_
            refine G_callV0 89 hC (n_set hF (by omega) (by omega)) okX12_set lk_X12_154 ((hF.sh (o := 0) rfl (by decide)).1) rfl rfl rfl rfl (Nat.le_of_ble_eq_true rfl) (by decide) (by decide) dX12_takes_89 ?_
            refine G_aload_n 92 hC rfl dX12_takes_92 ?_
            refine G_iload_n 93 hC rfl dX12_takes_93 ?_
            refine G_iconst 94 hC (nI 5) (by decide) dX12_takes_94 ?_
            refine G_iload_n 95 hC rfl dX12_takes_95 ?_
            refine G_callV0 96 hC (n_set hF (by omega) (by omega)) okX12_set lk_X12_154 ((hF.sh (o := 0) rfl (by decide)).1) rfl rfl rfl rfl (Nat.le_of_ble_eq_true rfl) (by decide) (by decide) dX12_takes_96 ?_
            refine G_aload_n 99 hC rfl dX12_takes_99 ?_
            refine G_iload_n 100 hC rfl dX12_takes_100 ?_
            refine G_iconst 101 hC (nI 3) (by decide) dX12_takes_101 ?_
            refine G_callV0 102 hC (n_more hF (by omega) (by omega)) okX12_more lk_X12_160 ((hF.sh (o := 0) rfl (by decide)).1) rfl rfl rfl rfl (Nat.le_of_ble_eq_true rfl) (by decide) (by decide) dX12_takes_102 ?_
            refine G_aload_n 105 hC rfl dX12_takes_105 ?_
            refine M_getR 106 hC hF fl_X12_68_11 rfl rfl dX12_takes_106 ?_
            refine G_sipush 109 hC (nI 250) (by decide) dX12_takes_109 ?_
            refine G_iload_n 112 hC rfl dX12_takes_112 ?_
            refine G_iaddN 113 hC dX12_takes_113 ?_
            refine G_iload_n 114 hC rfl dX12_takes_114 ?_
            refine N_iast 115 hC hF rfl (by omega) dX12_takes_115 ?_
            refine G_aload_n 116 hC rfl dX12_takes_116 ?_
            refine M_getR 117 hC hF fl_X12_68_11 rfl rfl dX12_takes_117 ?_
            refine G_sipush 120 hC (nI 248) (by decide) dX12_takes_120 ?_
            first | refine G_dup2 123 hC rfl rfl dX12_takes_123 ?_ | refine G_dup2L 123 hC dX12_takes_123 ?_
            refine N_iald 124 hC hF rfl (by omega) dX12_takes_124 ?_
            refine G_iconst 125 hC (nI 1) (by decide) dX12_takes_125 ?_
            refine G_isub 126 hC dX12_takes_126 ?_
            refine N_iast 127 hC hF rfl (by omega) dX12_takes_127 ?_
            refine G_aload_n 128 hC rfl dX12_takes_128 ?_
            refine M_getR 129 hC hF fl_X12_68_11 rfl rfl dX12_takes_129 ?_
            refine G_sipush 132 hC (nI 242) (by decide) dX12_takes_132 ?_
            first | refine G_dup2 135 hC rfl rfl dX12_takes_135 ?_ | refine G_dup2L 135 hC dX12_takes_135 ?_
            refine N_iald 136 hC hF rfl (by omega) dX12_takes_136 ?_
            refine G_aload_n 137 hC rfl dX12_takes_137 ?_
            refine M_getR 138 hC hF fl_X12_38_11 rfl rfl dX12_takes_138 ?_
            refine G_iload_n 141 hC rfl dX12_takes_141 ?_
            refine N_ialdO 142 hC hF rfl (by decide) (by decide) rfl (by omega) dX12_takes_142 ?_
            refine G_isub 143 hC dX12_takes_143 ?_
            refine N_iast 144 hC hF rfl (by omega) dX12_takes_144 ?_
            refine G_aload_n 145 hC rfl dX12_takes_145 ?_
            refine M_getR 146 hC hF fl_X12_68_11 rfl rfl dX12_takes_146 ?_
            refine G_sipush 149 hC (nI 243) (by decide) dX12_takes_149 ?_
            refine G_aload_n 152 hC rfl dX12_takes_152 ?_
            refine N_getI 153 hC hF fl_X12_90_11 rfl dX12_takes_153 ?_
            refine G_aload_n 156 hC rfl dX12_takes_156 ?_
            refine M_getR 157 hC hF fl_X12_68_11 rfl rfl dX12_takes_157 ?_
            refine G_sipush 160 hC (nI 242) (by decide) dX12_takes_160 ?_
            refine N_iald 163 hC hF rfl (by omega) dX12_takes_163 ?_
            refine G_isub 164 hC dX12_takes_164 ?_
            refine G_aload_n 165 hC rfl dX12_takes_165 ?_
            refine M_getR 166 hC hF fl_X12_68_11 rfl rfl dX12_takes_166 ?_
            refine G_sipush 169 hC (nI 243) (by decide) dX12_takes_169 ?_
            refine N_iald 172 hC hF rfl (by omega) dX12_takes_172 ?_
            refine G_icmp_le 173 192 hC dX12_takes_173 (by decide) (fun h173 => ?_) (fun h173 => ?_)
            · refine G_aload_n 192 hC rfl dX12_takes_192 ?_
              refine M_getR 193 hC hF fl_X12_68_11 rfl rfl dX12_takes_193 ?_
              refine G_sipush 196 hC (nI 243) (by decide) dX12_takes_196 ?_
              refine N_iald 199 hC hF rfl (by omega) dX12_takes_199 ?_
              refine N_iast 200 hC hF rfl (by omega) dX12_takes_200 ?_
              refine G_aload_n 201 hC rfl dX12_takes_201 ?_
              refine G_bipush 202 hC (nI 100) (by decide) dX12_takes_202 ?_
              refine G_iload_n 204 hC rfl dX12_takes_204 ?_
              refine G_imulN 205 hC dX12_takes_205 ?_
              refine G_bipush 206 hC (nI 10) (by decide) dX12_takes_206 ?_
              refine G_iload_n 208 hC rfl dX12_takes_208 ?_
              refine G_imulN 209 hC dX12_takes_209 ?_
              refine G_iaddN 210 hC dX12_takes_210 ?_
              refine G_iconst 211 hC (nI 1) (by decide) dX12_takes_211 ?_
              refine G_iaddN 212 hC dX12_takes_212 ?_
              refine G_callV0 213 hC (n_notes hF (k := k0) (by simp (disch := omega) only [up_ne, up_s]; exact hk) hk2) okX12_notes lk_X12_198 ((hF.sh (o := 0) rfl (by decide)).1) rfl rfl rfl rfl (Nat.le_of_ble_eq_true rfl) (by decide) (by decide) dX12_takes_213 ?_
              refine R_v 216 hR dX12_takes_216 (Nat.le_refl _) (Nat.le_refl _) ?_
              refine ⟨rfl, ?_, rfl, rfl⟩
              unfold F_takes
              simp (disch := omega) only [up_ne, up_s] at *
              first | (rw [if_neg (Int32.not_lt.mpr h173)]; done) | (rw [if_pos (Int32.not_le.mp h173)]; done)
            · refine G_aload_n 176 hC rfl dX12_takes_176 ?_
              refine N_getI 177 hC hF fl_X12_90_11 rfl dX12_takes_177 ?_
              refine G_aload_n 180 hC rfl dX12_takes_180 ?_
              refine M_getR 181 hC hF fl_X12_68_11 rfl rfl dX12_takes_181 ?_
              refine G_sipush 184 hC (nI 242) (by decide) dX12_takes_184 ?_
              refine N_iald 187 hC hF rfl (by omega) dX12_takes_187 ?_
              refine G_isub 188 hC dX12_takes_188 ?_
              refine G_goto 189 200 hC dX12_takes_189 (by decide) ?_
              refine N_iast 200 hC hF rfl (by omega) dX12_takes_200 ?_
              refine G_aload_n 201 hC rfl dX12_takes_201 ?_
              refine G_bipush 202 hC (nI 100) (by decide) dX12_takes_202 ?_
              refine G_iload_n 204 hC rfl dX12_takes_204 ?_
              refine G_imulN 205 hC dX12_takes_205 ?_
              refine G_bipush 206 hC (nI 10) (by decide) dX12_takes_206 ?_
              refine G_iload_n 208 hC rfl dX12_takes_208 ?_
              refine G_imulN 209 hC dX12_takes_209 ?_
              refine G_iaddN 210 hC dX12_takes_210 ?_
              refine G_iconst 211 hC (nI 1) (by decide) dX12_takes_211 ?_
              refine G_iaddN 212 hC dX12_takes_212 ?_
              refine G_callV0 213 hC (n_notes hF (k := k0) (by simp (disch := omega) only [up_ne, up_s]; exact hk) hk2) okX12_notes lk_X12_198 ((hF.sh (o := 0) rfl (by decide)).1) rfl rfl rfl rfl (Nat.le_of_ble_eq_true rfl) (by decide) (by decide) dX12_takes_213 ?_
              refine R_v 216 hR dX12_takes_216 (Nat.le_refl _) (Nat.le_refl _) ?_
              refine ⟨rfl, ?_, rfl, rfl⟩
              unfold F_takes
              simp (disch := omega) only [up_ne, up_s] at *
              first | (rw [if_neg (Int32.not_lt.mpr h173)]; done) | (rw [if_pos (Int32.not_le.mp h173)]; done)
          · exact absurd (nI_eq_of h69 (by omega) (by omega)) (by omega)
      · refine G_iload_n 13 hC rfl dX12_takes_13 ?_
        refine G_aload_n 14 hC rfl dX12_takes_14 ?_
        refine N_getI 15 hC hF fl_X12_101_11 rfl dX12_takes_15 ?_
        rw [hnt]
        refine G_icmp_ge 18 53 hC dX12_takes_18 (by decide) (fun h18 => ?_) (fun h18 => ?_)
        · have ajt : j = t := by
            first
              | (exact absurd (by rw [hw] at h10; exact h10) (nI_nle hw0 (by omega)))
              | (exact absurd ((nI_leI (by omega) (by omega)).mp h18) (by omega))
              | (rcases Nat.lt_or_ge j t with z | z
                 · exact absurd ⟨h27, h44⟩ (hno j z)
                 · omega)
          subst ajt
          refine G_aload_n 53 hC rfl dX12_takes_53 ?_
          refine M_getR 54 hC hF fl_X12_68_11 rfl rfl dX12_takes_54 ?_
          refine G_sipush 57 hC (nI 248) (by decide) dX12_takes_57 ?_
          refine N_iald 60 hC hF rfl (by omega) dX12_takes_60 ?_
          first | refine G_if_eq_b 61 72 hC dX12_takes_61 (by decide) (fun h61 => ?_) (fun h61 => ?_) | refine G_if_eq 61 72 hC dX12_takes_61 (by decide) (fun h61 => ?_) (fun h61 => ?_)
          · exact absurd (by rw [hw] at h61; exact h61) (nI_ne0 hw0 (by omega))
          · refine G_iload_n 64 hC rfl dX12_takes_64 ?_
            refine G_aload_n 65 hC rfl dX12_takes_65 ?_
            refine N_getI 66 hC hF fl_X12_101_11 rfl dX12_takes_66 ?_
            rw [hnt]
            refine G_icmp_ne 69 85 hC dX12_takes_69 (by decide) (fun h69 => ?_) (fun h69 => ?_)
            · refine G_aload_n 85 hC rfl dX12_takes_85 ?_
              refine G_iload_n 86 hC rfl dX12_takes_86 ?_
              refine G_iconst 87 hC (nI 0) (by decide) dX12_takes_87 ?_
              refine G_iconst 88 hC (nI 1) (by decide) dX12_takes_88 ?_
              refine G_callV0 89 hC (n_set hF (by omega) (by omega)) okX12_set lk_X12_154 ((hF.sh (o := 0) rfl (by decide)).1) rfl rfl rfl rfl (Nat.le_of_ble_eq_true rfl) (by decide) (by decide) dX12_takes_89 ?_
              refine G_aload_n 92 hC rfl dX12_takes_92 ?_
              refine G_iload_n 93 hC rfl dX12_takes_93 ?_
              refine G_iconst 94 hC (nI 5) (by decide) dX12_takes_94 ?_
              refine G_iload_n 95 hC rfl dX12_takes_95 ?_
              refine G_callV0 96 hC (n_set hF (by omega) (by omega)) okX12_set lk_X12_154 ((hF.sh (o := 0) rfl (by decide)).1) rfl rfl rfl rfl (Nat.le_of_ble_eq_true rfl) (by decide) (by decide) dX12_takes_96 ?_
              refine G_aload_n 99 hC rfl dX12_takes_99 ?_
              refine G_iload_n 100 hC rfl dX12_takes_100 ?_
              refine G_iconst 101 hC (nI 3) (by decide) dX12_takes_101 ?_
              refine G_callV0 102 hC (n_more hF (by omega) (by omega)) okX12_more lk_X12_160 ((hF.sh (o := 0) rfl (by decide)).1) rfl rfl rfl rfl (Nat.le_of_ble_eq_true rfl) (by decide) (by decide) dX12_takes_102 ?_
              refine G_aload_n 105 hC rfl dX12_takes_105 ?_
              refine M_getR 106 hC hF fl_X12_68_11 rfl rfl dX12_takes_106 ?_
              refine G_sipush 109 hC (nI 250) (by decide) dX12_takes_109 ?_
              refine G_iload_n 112 hC rfl dX12_takes_112 ?_
              refine G_iaddN 113 hC dX12_takes_113 ?_
              refine G_iload_n 114 hC rfl dX12_takes_114 ?_
              refine N_iast 115 hC hF rfl (by omega) dX12_takes_115 ?_
              refine G_aload_n 116 hC rfl dX12_takes_116 ?_
              refine M_getR 117 hC hF fl_X12_68_11 rfl rfl dX12_takes_117 ?_
              refine G_sipush 120 hC (nI 248) (by decide) dX12_takes_120 ?_
              first | refine G_dup2 123 hC rfl rfl dX12_takes_123 ?_ | refine G_dup2L 123 hC dX12_takes_123 ?_
              refine N_iald 124 hC hF rfl (by omega) dX12_takes_124 ?_
              refine G_iconst 125 hC (nI 1) (by decide) dX12_takes_125 ?_
              refine G_isub 126 hC dX12_takes_126 ?_
              refine N_iast 127 hC hF rfl (by omega) dX12_takes_127 ?_
              refine G_aload_n 128 hC rfl dX12_takes_128 ?_
              refine M_getR 129 hC hF fl_X12_68_11 rfl rfl dX12_takes_129 ?_
              refine G_sipush 132 hC (nI 242) (by decide) dX12_takes_132 ?_
              first | refine G_dup2 135 hC rfl rfl dX12_takes_135 ?_ | refine G_dup2L 135 hC dX12_takes_135 ?_
              refine N_iald 136 hC hF rfl (by omega) dX12_takes_136 ?_
              refine G_aload_n 137 hC rfl dX12_takes_137 ?_
              refine M_getR 138 hC hF fl_X12_38_11 rfl rfl dX12_takes_138 ?_
              refine G_iload_n 141 hC rfl dX12_takes_141 ?_
              refine N_ialdO 142 hC hF rfl (by decide) (by decide) rfl (by omega) dX12_takes_142 ?_
              refine G_isub 143 hC dX12_takes_143 ?_
              refine N_iast 144 hC hF rfl (by omega) dX12_takes_144 ?_
              refine G_aload_n 145 hC rfl dX12_takes_145 ?_
              refine M_getR 146 hC hF fl_X12_68_11 rfl rfl dX12_takes_146 ?_
              refine G_sipush 149 hC (nI 243) (by decide) dX12_takes_149 ?_
              refine G_aload_n 152 hC rfl dX12_takes_152 ?_
              refine N_getI 153 hC hF fl_X12_90_11 rfl dX12_takes_153 ?_
              refine G_aload_n 156 hC rfl dX12_takes_156 ?_
              refine M_getR 157 hC hF fl_X12_68_11 rfl rfl dX12_takes_157 ?_
              refine G_sipush 160 hC (nI 242) (by decide) dX12_takes_160 ?_
              refine N_iald 163 hC hF rfl (by omega) dX12_takes_163 ?_
              refine G_isub 164 hC dX12_takes_164 ?_
              refine G_aload_n 165 hC rfl dX12_takes_165 ?_
              refine M_getR 166 hC hF fl_X12_68_11 rfl rfl dX12_takes_166 ?_
              refine G_sipush 169 hC (nI 243) (by decide) dX12_takes_169 ?_
              refine N_iald 172 hC hF rfl (by omega) dX12_takes_172 ?_
              refine G_icmp_le 173 192 hC dX12_takes_173 (by decide) (fun h173 => ?_) (fun h173 => ?_)
              · refine G_aload_n 192 hC rfl dX12_takes_192 ?_
                refine M_getR 193 hC hF fl_X12_68_11 rfl rfl dX12_takes_193 ?_
                refine G_sipush 196 hC (nI 243) (by decide) dX12_takes_196 ?_
                refine N_iald 199 hC hF rfl (by omega) dX12_takes_199 ?_
                refine N_iast 200 hC hF rfl (by omega) dX12_takes_200 ?_
                refine G_aload_n 201 hC rfl dX12_takes_201 ?_
                refine G_bipush 202 hC (nI 100) (by decide) dX12_takes_202 ?_
                refine G_iload_n 204 hC rfl dX12_takes_204 ?_
                refine G_imulN 205 hC dX12_takes_205 ?_
                refine G_bipush 206 hC (nI 10) (by decide) dX12_takes_206 ?_
                refine G_iload_n 208 hC rfl dX12_takes_208 ?_
                refine G_imulN 209 hC dX12_takes_209 ?_
                refine G_iaddN 210 hC dX12_takes_210 ?_
                refine G_iconst 211 hC (nI 1) (by decide) dX12_takes_211 ?_
                refine G_iaddN 212 hC dX12_takes_212 ?_
                refine G_callV0 213 hC (n_notes hF (k := k0) (by simp (disch := omega) only [up_ne, up_s]; exact hk) hk2) okX12_notes lk_X12_198 ((hF.sh (o := 0) rfl (by decide)).1) rfl rfl rfl rfl (Nat.le_of_ble_eq_true rfl) (by decide) (by decide) dX12_takes_213 ?_
                refine R_v 216 hR dX12_takes_216 (Nat.le_refl _) (Nat.le_refl _) ?_
                refine ⟨rfl, ?_, rfl, rfl⟩
                unfold F_takes
                simp (disch := omega) only [up_ne, up_s] at *
                first | (rw [if_neg (Int32.not_lt.mpr h173)]; done) | (rw [if_pos (Int32.not_le.mp h173)]; done)
              · refine G_aload_n 176 hC rfl dX12_takes_176 ?_
                refine N_getI 177 hC hF fl_X12_90_11 rfl dX12_takes_177 ?_
                refine G_aload_n 180 hC rfl dX12_takes_180 ?_
                refine M_getR 181 hC hF fl_X12_68_11 rfl rfl dX12_takes_181 ?_
                refine G_sipush 184 hC (nI 242) (by decide) dX12_takes_184 ?_
                refine N_iald 187 hC hF rfl (by omega) dX12_takes_187 ?_
                refine G_isub 188 hC dX12_takes_188 ?_
                refine G_goto 189 200 hC dX12_takes_189 (by decide) ?_
                refine N_iast 200 hC hF rfl (by omega) dX12_takes_200 ?_
                refine G_aload_n 201 hC rfl dX12_takes_201 ?_
                refine G_bipush 202 hC (nI 100) (by decide) dX12_takes_202 ?_
                refine G_iload_n 204 hC rfl dX12_takes_204 ?_
                refine G_imulN 205 hC dX12_takes_205 ?_
                refine G_bipush 206 hC (nI 10) (by decide) dX12_takes_206 ?_
                refine G_iload_n 208 hC rfl dX12_takes_208 ?_
                refine G_imulN 209 hC dX12_takes_209 ?_
                refine G_iaddN 210 hC dX12_takes_210 ?_
                refine G_iconst 211 hC (nI 1) (by decide) dX12_takes_211 ?_
                refine G_iaddN 212 hC dX12_takes_212 ?_
                refine G_callV0 213 hC (n_notes hF (k := k0) (by simp (disch := omega) only [up_ne, up_s]; exact hk) hk2) okX12_notes lk_X12_198 ((hF.sh (o := 0) rfl (by decide)).1) rfl rfl rfl rfl (Nat.le_of_ble_eq_true rfl) (by decide) (by decide) dX12_takes_213 ?_
                refine R_v 216 hR dX12_takes_216 (Nat.le_refl _) (Nat.le_refl _) ?_
                refine ⟨rfl, ?_, rfl, rfl⟩
                unfold F_takes
                simp (disch := omega) only [up_ne, up_s] at *
                first | (rw [if_neg (Int32.not_lt.mpr h173)]; done) | (rw [if_pos (Int32.not_le.mp h173)]; done)
            · exact absurd (nI_eq_of h69 (by omega) (by omega)) (by omega)
        · refine G_aload_n 21 hC rfl dX12_takes_21 ?_
          refine G_iload_n 22 hC rfl dX12_takes_22 ?_
          refine G_iconst 23 hC (nI 0) (by decide) dX12_takes_23 ?_
          refine G_callV1 24 hC (n_at hF (by omega) (by omega)) okX12_at lk_X12_173 ((hF.sh (o := 0) rfl (by decide)).1) rfl rfl rfl rfl (Nat.le_of_ble_eq_true rfl) (by decide) (by decide) dX12_takes_24 ?_
          first | refine G_if_ne_b 27 47 hC dX12_takes_27 (by decide) (fun h27 => ?_) (fun h27 => ?_) | refine G_if_ne 27 47 hC dX12_takes_27 (by decide) (fun h27 => ?_) (fun h27 => ?_)
          · have ajt : j < t := by
              rcases Nat.lt_or_ge j t with z | z
              · exact z
              · have e : j = t := by omega
                subst e
                first | exact absurd hfit.1 h27 | exact absurd hfit.2 h44
            first | refine G_iincN 47 hC (by decide) rfl (ls' := [_, _, _]) rfl dX12_takes_47 ?_ | refine G_iinc 47 hC _ rfl (by decide) rfl (ls' := [_, _, _]) rfl dX12_takes_47 ?_
            refine G_goto 50 2 hC dX12_takes_50 (by decide) ?_
            exact ih (j + 1) (by omega) (by omega)
          · refine G_aload_n 30 hC rfl dX12_takes_30 ?_
            refine M_getR 31 hC hF fl_X12_38_11 rfl rfl dX12_takes_31 ?_
            refine G_iload_n 34 hC rfl dX12_takes_34 ?_
            refine N_ialdO 35 hC hF rfl (by decide) (by decide) rfl (by omega) dX12_takes_35 ?_
            refine G_aload_n 36 hC rfl dX12_takes_36 ?_
            refine M_getR 37 hC hF fl_X12_68_11 rfl rfl dX12_takes_37 ?_
            refine G_sipush 40 hC (nI 242) (by decide) dX12_takes_40 ?_
            refine N_iald 43 hC hF rfl (by omega) dX12_takes_43 ?_
            refine G_icmp_le 44 53 hC dX12_takes_44 (by decide) (fun h44 => ?_) (fun h44 => ?_)
            · have ajt : j = t := by
                first
                  | (exact absurd (by rw [hw] at h10; exact h10) (nI_nle hw0 (by omega)))
                  | (exact absurd ((nI_leI (by omega) (by omega)).mp h18) (by omega))
                  | (rcases Nat.lt_or_ge j t with z | z
                     · exact absurd ⟨h27, h44⟩ (hno j z)
                     · omega)
              subst ajt
              refine G_aload_n 53 hC rfl dX12_takes_53 ?_
              refine M_getR 54 hC hF fl_X12_68_11 rfl rfl dX12_takes_54 ?_
              refine G_sipush 57 hC (nI 248) (by decide) dX12_takes_57 ?_
              refine N_iald 60 hC hF rfl (by omega) dX12_takes_60 ?_
              first | refine G_if_eq_b 61 72 hC dX12_takes_61 (by decide) (fun h61 => ?_) (fun h61 => ?_) | refine G_if_eq 61 72 hC dX12_takes_61 (by decide) (fun h61 => ?_) (fun h61 => ?_)
              · exact absurd (by rw [hw] at h61; exact h61) (nI_ne0 hw0 (by omega))
              · refine G_iload_n 64 hC rfl dX12_takes_64 ?_
                refine G_aload_n 65 hC rfl dX12_takes_65 ?_
                refine N_getI 66 hC hF fl_X12_101_11 rfl dX12_takes_66 ?_
                rw [hnt]
                refine G_icmp_ne 69 85 hC dX12_takes_69 (by decide) (fun h69 => ?_) (fun h69 => ?_)
                · refine G_aload_n 85 hC rfl dX12_takes_85 ?_
                  refine G_iload_n 86 hC rfl dX12_takes_86 ?_
                  refine G_iconst 87 hC (nI 0) (by decide) dX12_takes_87 ?_
                  refine G_iconst 88 hC (nI 1) (by decide) dX12_takes_88 ?_
                  refine G_callV0 89 hC (n_set hF (by omega) (by omega)) okX12_set lk_X12_154 ((hF.sh (o := 0) rfl (by decide)).1) rfl rfl rfl rfl (Nat.le_of_ble_eq_true rfl) (by decide) (by decide) dX12_takes_89 ?_
                  refine G_aload_n 92 hC rfl dX12_takes_92 ?_
                  refine G_iload_n 93 hC rfl dX12_takes_93 ?_
                  refine G_iconst 94 hC (nI 5) (by decide) dX12_takes_94 ?_
                  refine G_iload_n 95 hC rfl dX12_takes_95 ?_
                  refine G_callV0 96 hC (n_set hF (by omega) (by omega)) okX12_set lk_X12_154 ((hF.sh (o := 0) rfl (by decide)).1) rfl rfl rfl rfl (Nat.le_of_ble_eq_true rfl) (by decide) (by decide) dX12_takes_96 ?_
                  refine G_aload_n 99 hC rfl dX12_takes_99 ?_
                  refine G_iload_n 100 hC rfl dX12_takes_100 ?_
                  refine G_iconst 101 hC (nI 3) (by decide) dX12_takes_101 ?_
                  refine G_callV0 102 hC (n_more hF (by omega) (by omega)) okX12_more lk_X12_160 ((hF.sh (o := 0) rfl (by decide)).1) rfl rfl rfl rfl (Nat.le_of_ble_eq_true rfl) (by decide) (by decide) dX12_takes_102 ?_
                  refine G_aload_n 105 hC rfl dX12_takes_105 ?_
                  refine M_getR 106 hC hF fl_X12_68_11 rfl rfl dX12_takes_106 ?_
                  refine G_sipush 109 hC (nI 250) (by decide) dX12_takes_109 ?_
                  refine G_iload_n 112 hC rfl dX12_takes_112 ?_
                  refine G_iaddN 113 hC dX12_takes_113 ?_
                  refine G_iload_n 114 hC rfl dX12_takes_114 ?_
                  refine N_iast 115 hC hF rfl (by omega) dX12_takes_115 ?_
                  refine G_aload_n 116 hC rfl dX12_takes_116 ?_
                  refine M_getR 117 hC hF fl_X12_68_11 rfl rfl dX12_takes_117 ?_
                  refine G_sipush 120 hC (nI 248) (by decide) dX12_takes_120 ?_
                  first | refine G_dup2 123 hC rfl rfl dX12_takes_123 ?_ | refine G_dup2L 123 hC dX12_takes_123 ?_
                  refine N_iald 124 hC hF rfl (by omega) dX12_takes_124 ?_
                  refine G_iconst 125 hC (nI 1) (by decide) dX12_takes_125 ?_
                  refine G_isub 126 hC dX12_takes_126 ?_
                  refine N_iast 127 hC hF rfl (by omega) dX12_takes_127 ?_
                  refine G_aload_n 128 hC rfl dX12_takes_128 ?_
                  refine M_getR 129 hC hF fl_X12_68_11 rfl rfl dX12_takes_129 ?_
                  refine G_sipush 132 hC (nI 242) (by decide) dX12_takes_132 ?_
                  first | refine G_dup2 135 hC rfl rfl dX12_takes_135 ?_ | refine G_dup2L 135 hC dX12_takes_135 ?_
                  refine N_iald 136 hC hF rfl (by omega) dX12_takes_136 ?_
                  refine G_aload_n 137 hC rfl dX12_takes_137 ?_
                  refine M_getR 138 hC hF fl_X12_38_11 rfl rfl dX12_takes_138 ?_
                  refine G_iload_n 141 hC rfl dX12_takes_141 ?_
                  refine N_ialdO 142 hC hF rfl (by decide) (by decide) rfl (by omega) dX12_takes_142 ?_
                  refine G_isub 143 hC dX12_takes_143 ?_
                  refine N_iast 144 hC hF rfl (by omega) dX12_takes_144 ?_
                  refine G_aload_n 145 hC rfl dX12_takes_145 ?_
                  refine M_getR 146 hC hF fl_X12_68_11 rfl rfl dX12_takes_146 ?_
                  refine G_sipush 149 hC (nI 243) (by decide) dX12_takes_149 ?_
                  refine G_aload_n 152 hC rfl dX12_takes_152 ?_
                  refine N_getI 153 hC hF fl_X12_90_11 rfl dX12_takes_153 ?_
                  refine G_aload_n 156 hC rfl dX12_takes_156 ?_
                  refine M_getR 157 hC hF fl_X12_68_11 rfl rfl dX12_takes_157 ?_
                  refine G_sipush 160 hC (nI 242) (by decide) dX12_takes_160 ?_
                  refine N_iald 163 hC hF rfl (by omega) dX12_takes_163 ?_
                  refine G_isub 164 hC dX12_takes_164 ?_
                  refine G_aload_n 165 hC rfl dX12_takes_165 ?_
                  refine M_getR 166 hC hF fl_X12_68_11 rfl rfl dX12_takes_166 ?_
                  refine G_sipush 169 hC (nI 243) (by decide) dX12_takes_169 ?_
                  refine N_iald 172 hC hF rfl (by omega) dX12_takes_172 ?_
                  refine G_icmp_le 173 192 hC dX12_takes_173 (by decide) (fun h173 => ?_) (fun h173 => ?_)
                  · refine G_aload_n 192 hC rfl dX12_takes_192 ?_
                    refine M_getR 193 hC hF fl_X12_68_11 rfl rfl dX12_takes_193 ?_
                    refine G_sipush 196 hC (nI 243) (by decide) dX12_takes_196 ?_
                    refine N_iald 199 hC hF rfl (by omega) dX12_takes_199 ?_
                    refine N_iast 200 hC hF rfl (by omega) dX12_takes_200 ?_
                    refine G_aload_n 201 hC rfl dX12_takes_201 ?_
                    refine G_bipush 202 hC (nI 100) (by decide) dX12_takes_202 ?_
                    refine G_iload_n 204 hC rfl dX12_takes_204 ?_
                    refine G_imulN 205 hC dX12_takes_205 ?_
                    refine G_bipush 206 hC (nI 10) (by decide) dX12_takes_206 ?_
                    refine G_iload_n 208 hC rfl dX12_takes_208 ?_
                    refine G_imulN 209 hC dX12_takes_209 ?_
                    refine G_iaddN 210 hC dX12_takes_210 ?_
                    refine G_iconst 211 hC (nI 1) (by decide) dX12_takes_211 ?_
                    refine G_iaddN 212 hC dX12_takes_212 ?_
                    refine G_callV0 213 hC (n_notes hF (k := k0) (by simp (disch := omega) only [up_ne, up_s]; exact hk) hk2) okX12_notes lk_X12_198 ((hF.sh (o := 0) rfl (by decide)).1) rfl rfl rfl rfl (Nat.le_of_ble_eq_true rfl) (by decide) (by decide) dX12_takes_213 ?_
                    refine R_v 216 hR dX12_takes_216 (Nat.le_refl _) (Nat.le_refl _) ?_
                    refine ⟨rfl, ?_, rfl, rfl⟩
                    unfold F_takes
                    simp (disch := omega) only [up_ne, up_s] at *
                    first | (rw [if_neg (Int32.not_lt.mpr h173)]; done) | (rw [if_pos (Int32.not_le.mp h173)]; done)
                  · refine G_aload_n 176 hC rfl dX12_takes_176 ?_
                    refine N_getI 177 hC hF fl_X12_90_11 rfl dX12_takes_177 ?_
                    refine G_aload_n 180 hC rfl dX12_takes_180 ?_
                    refine M_getR 181 hC hF fl_X12_68_11 rfl rfl dX12_takes_181 ?_
                    refine G_sipush 184 hC (nI 242) (by decide) dX12_takes_184 ?_
                    refine N_iald 187 hC hF rfl (by omega) dX12_takes_187 ?_
                    refine G_isub 188 hC dX12_takes_188 ?_
                    refine G_goto 189 200 hC dX12_takes_189 (by decide) ?_
                    refine N_iast 200 hC hF rfl (by omega) dX12_takes_200 ?_
                    refine G_aload_n 201 hC rfl dX12_takes_201 ?_
                    refine G_bipush 202 hC (nI 100) (by decide) dX12_takes_202 ?_
                    refine G_iload_n 204 hC rfl dX12_takes_204 ?_
                    refine G_imulN 205 hC dX12_takes_205 ?_
                    refine G_bipush 206 hC (nI 10) (by decide) dX12_takes_206 ?_
                    refine G_iload_n 208 hC rfl dX12_takes_208 ?_
                    refine G_imulN 209 hC dX12_takes_209 ?_
                    refine G_iaddN 210 hC dX12_takes_210 ?_
                    refine G_iconst 211 hC (nI 1) (by decide) dX12_takes_211 ?_
                    refine G_iaddN 212 hC dX12_takes_212 ?_
                    refine G_callV0 213 hC (n_notes hF (k := k0) (by simp (disch := omega) only [up_ne, up_s]; exact hk) hk2) okX12_notes lk_X12_198 ((hF.sh (o := 0) rfl (by decide)).1) rfl rfl rfl rfl (Nat.le_of_ble_eq_true rfl) (by decide) (by decide) dX12_takes_213 ?_
                    refine R_v 216 hR dX12_takes_216 (Nat.le_refl _) (Nat.le_refl _) ?_
                    refine ⟨rfl, ?_, rfl, rfl⟩
                    unfold F_takes
                    simp (disch := omega) only [up_ne, up_s] at *
                    first | (rw [if_neg (Int32.not_lt.mpr h173)]; done) | (rw [if_pos (Int32.not_le.mp h173)]; done)
                · exact absurd (nI_eq_of h69 (by omega) (by omega)) (by omega)
            · have ajt : j < t := by
                rcases Nat.lt_or_ge j t with z | z
                · exact z
                · have e : j = t := by omega
                  subst e
                  first | exact absurd hfit.1 h27 | exact absurd hfit.2 h44
              first | refine G_iincN 47 hC (by decide) rfl (ls' := [_, _, _]) rfl dX12_takes_47 ?_ | refine G_iinc 47 hC _ rfl (by decide) rfl (ls' := [_, _, _]) rfl dX12_takes_47 ?_
              refine G_goto 50 2 hC dX12_takes_50 (by decide) ?_
              exact ih (j + 1) (by omega) (by omega)
  show g 0 [some (vr (some (b + 0))), some (vi (nI h)), none] [] _ _ N 0 0
  refine G_iconst 0 hC (nI 0) (by decide) dX12_takes_0 ?_
  refine G_istore_n 1 hC 2 rfl (by decide) (ls' := [_, _, _]) rfl dX12_takes_1 ?_
  exact loop _ 0 (Nat.lt_succ_self _) (Nat.zero_le _)
end M8

/-! ===== the class: a thread goes on with its task ===== -/
section C10
variable {l : Launch} {D : va_G} {B c P : Nat} {N : NT} {k G : MI} {kl GL : ML} {I : MI} {L : ML}
theorem c_goW_stop (hX : FixC c P N) (hP : FixP c P N) {t th nc a : Nat} (ht : t < 20) (hth : th < 6) (hTr : N.1 (P + 2) t = some a) (hTs : TkS N a) (hTo : OutC c a) (hnc : k 0 9 = nI nc) (hnc2 : nc < 40) (hst : ¬ k (7 + t) 11 = 0) : Cq l D B mX0_goOnWith [vr (some (c + 0)), vi (nI t), vi (nI th)] (pt c 35 k G) L N none (pt c 35 (W_leave (upd2 (upd2 k (7 + t) 3 (k (7 + t) 3 + nI 1)) (7 + t) 0 (nI 5)) (G a 1) t th nc) G) L := by
  have hB := hX.b
  refine Ct.of (M := mX0_goOnWith) (by decide) (Nat.le_of_ble_eq_true rfl) (fun g (hR : Cr l D B RX0 cX0_goOnWith 5 "goOnWith" { frames := 4, cells := 0, slots := 0, locals := 92 } none 0 0 _ g) => ?_)
  have hC := hR.cx
  show g 0 [some (vr (some (c + 0))), some (vi (nI t)), some (vi (nI th)), none, none] [] _ _ N 0 0
  refine G_aload_n 0 hC rfl dX0_goOnWith_0 ?_
  refine G_getR 1 hC fl_X0_42_0 (hB _ _ (rfl) (by decide)) (hX.plan) rfl dX0_goOnWith_1 ?_
  refine G_getR 4 hC fl_X0_142_4 (hP.sh) (hP.rtk) rfl dX0_goOnWith_4 ?_
  refine G_iload_n 7 hC rfl dX0_goOnWith_7 ?_
  refine G_aald 8 hC (hP.tk) (by decide) (by decide) (rfl) (by omega) (by omega) (hTr) dX0_goOnWith_8 ?_
  refine G_astore_n 9 hC 3 rfl (by decide) (ls' := [_, _, _, _, _]) rfl dX0_goOnWith_9 ?_
  refine G_aload_n 10 hC rfl dX0_goOnWith_10 ?_
  refine G_getR 11 hC fl_X0_11_0 (hB _ _ (rfl) (by decide)) (hX.works) rfl dX0_goOnWith_11 ?_
  refine G_iload_n 14 hC rfl dX0_goOnWith_14 ?_
  refine G_aald 15 hC (hB _ _ (rfl) (by decide)) (by decide) (by decide) (rfl) (by omega) (by omega) (hX.wk (by omega)) dX0_goOnWith_15 ?_
  refine G_astore 16 hC (by decide) (ls' := [_, _, _, _, _]) rfl dX0_goOnWith_16 ?_
  refine G_aload 18 hC rfl dX0_goOnWith_18 ?_
  refine G_dup 20 hC rfl dX0_goOnWith_20 ?_
  refine B_getI 21 hC hB (shC_w (by omega)) fl_X0_141_9 rfl dX0_goOnWith_21 ?_
  refine G_iconst 24 hC (nI 1) (by decide) dX0_goOnWith_24 ?_
  refine G_iadd 25 hC dX0_goOnWith_25 ?_
  refine B_putI 26 hC hB (shC_w (by omega)) (fp_X0_141_9 _) rfl rfl rfl dX0_goOnWith_26 ?_
  refine G_aload 29 hC rfl dX0_goOnWith_29 ?_
  skip
  refine B_getI 31 hC hB (shC_w (by omega)) fl_X0_161_9 rfl dX0_goOnWith_31 ?_
  first | refine G_if_eq_b 34 46 hC dX0_goOnWith_34 (by decide) (fun h34 => ?_) (fun h34 => ?_) | refine G_if_eq 34 46 hC dX0_goOnWith_34 (by decide) (fun h34 => ?_) (fun h34 => ?_)
  · exfalso
    revert h34
    simp (disch := omega) only [upd2_ne, upd2_row, up_ne, up_s]
    exact hst
  · refine G_aload 37 hC rfl dX0_goOnWith_37 ?_
    refine G_iconst 39 hC (nI 5) (by decide) dX0_goOnWith_39 ?_
    refine B_putI 40 hC hB (shC_w (by omega)) (fp_X0_135_9 _) rfl rfl rfl dX0_goOnWith_40 ?_
    refine G_goto 43 113 hC dX0_goOnWith_43 (by decide) ?_
    refine G_aload 113 hC rfl dX0_goOnWith_113 ?_
    refine B_getI 115 hC hB (shC_w (by omega)) fl_X0_135_9 rfl dX0_goOnWith_115 ?_
    refine G_iconst 118 hC (nI 1) (by decide) dX0_goOnWith_118 ?_
    refine G_icmp_eq 119 128 hC dX0_goOnWith_119 (by decide) (fun h119 => ?_) (fun h119 => ?_)
    · exfalso
      revert h119
      simp (disch := omega) only [upd2_ne, upd2_row, up_ne, up_s]
      decide
    · refine G_aload_n 122 hC rfl dX0_goOnWith_122 ?_
      refine G_iload_n 123 hC rfl dX0_goOnWith_123 ?_
      refine G_iload_n 124 hC rfl dX0_goOnWith_124 ?_
      have hnc4 : (upd2 (upd2 k (7 + t) 3 (k (7 + t) 3 + nI 1)) (7 + t) 0 (nI 5)) 0 9 = nI nc := by
        simp (disch := omega) only [upd2_ne, upd2_row, up_ne, up_s]; exact hnc
      refine G_callV0 125 hC (c_leave hX hP ht hth hTr hTs hTo hnc4 hnc2) okX0_leave lk_X0_181 (hB _ _ (rfl) (by decide)) rfl rfl rfl rfl (Nat.le_of_ble_eq_true rfl) (by decide) (by decide) dX0_goOnWith_125 ?_
      refine R_v 128 hR dX0_goOnWith_128 (Nat.le_refl _) (Nat.le_refl _) ?_
      exact ⟨rfl, rfl, rfl, rfl⟩
theorem c_goW_intr (hX : FixC c P N) (hP : FixP c P N) {t th nc a : Nat} (ht : t < 20) (hth : th < 6) (hTr : N.1 (P + 2) t = some a) (hTs : TkS N a) (hTo : OutC c a) (hnc : k 0 9 = nI nc) (hnc2 : nc < 40) (hst : k (7 + t) 11 = 0) (hit : ¬ k (7 + t) 12 = 0) : Cq l D B mX0_goOnWith [vr (some (c + 0)), vi (nI t), vi (nI th)] (pt c 35 k G) L N none (pt c 35 (W_leave (upd2 (upd2 k (7 + t) 3 (k (7 + t) 3 + nI 1)) (7 + t) 0 (nI 6)) (G a 1) t th nc) G) L := by
  have hB := hX.b
  refine Ct.of (M := mX0_goOnWith) (by decide) (Nat.le_of_ble_eq_true rfl) (fun g (hR : Cr l D B RX0 cX0_goOnWith 5 "goOnWith" { frames := 4, cells := 0, slots := 0, locals := 92 } none 0 0 _ g) => ?_)
  have hC := hR.cx
  show g 0 [some (vr (some (c + 0))), some (vi (nI t)), some (vi (nI th)), none, none] [] _ _ N 0 0
  refine G_aload_n 0 hC rfl dX0_goOnWith_0 ?_
  refine G_getR 1 hC fl_X0_42_0 (hB _ _ (rfl) (by decide)) (hX.plan) rfl dX0_goOnWith_1 ?_
  refine G_getR 4 hC fl_X0_142_4 (hP.sh) (hP.rtk) rfl dX0_goOnWith_4 ?_
  refine G_iload_n 7 hC rfl dX0_goOnWith_7 ?_
  refine G_aald 8 hC (hP.tk) (by decide) (by decide) (rfl) (by omega) (by omega) (hTr) dX0_goOnWith_8 ?_
  refine G_astore_n 9 hC 3 rfl (by decide) (ls' := [_, _, _, _, _]) rfl dX0_goOnWith_9 ?_
  refine G_aload_n 10 hC rfl dX0_goOnWith_10 ?_
  refine G_getR 11 hC fl_X0_11_0 (hB _ _ (rfl) (by decide)) (hX.works) rfl dX0_goOnWith_11 ?_
  refine G_iload_n 14 hC rfl dX0_goOnWith_14 ?_
  refine G_aald 15 hC (hB _ _ (rfl) (by decide)) (by decide) (by decide) (rfl) (by omega) (by omega) (hX.wk (by omega)) dX0_goOnWith_15 ?_
  refine G_astore 16 hC (by decide) (ls' := [_, _, _, _, _]) rfl dX0_goOnWith_16 ?_
  refine G_aload 18 hC rfl dX0_goOnWith_18 ?_
  refine G_dup 20 hC rfl dX0_goOnWith_20 ?_
  refine B_getI 21 hC hB (shC_w (by omega)) fl_X0_141_9 rfl dX0_goOnWith_21 ?_
  refine G_iconst 24 hC (nI 1) (by decide) dX0_goOnWith_24 ?_
  refine G_iadd 25 hC dX0_goOnWith_25 ?_
  refine B_putI 26 hC hB (shC_w (by omega)) (fp_X0_141_9 _) rfl rfl rfl dX0_goOnWith_26 ?_
  refine G_aload 29 hC rfl dX0_goOnWith_29 ?_
  refine B_getI 31 hC hB (shC_w (by omega)) fl_X0_161_9 rfl dX0_goOnWith_31 ?_
  first | refine G_if_eq_b 34 46 hC dX0_goOnWith_34 (by decide) (fun h34 => ?_) (fun h34 => ?_) | refine G_if_eq 34 46 hC dX0_goOnWith_34 (by decide) (fun h34 => ?_) (fun h34 => ?_)
  · refine G_aload 46 hC rfl dX0_goOnWith_46 ?_
    refine B_getI 48 hC hB (shC_w (by omega)) fl_X0_164_9 rfl dX0_goOnWith_48 ?_
    first | refine G_if_eq_b 51 64 hC dX0_goOnWith_51 (by decide) (fun h51 => ?_) (fun h51 => ?_) | refine G_if_eq 51 64 hC dX0_goOnWith_51 (by decide) (fun h51 => ?_) (fun h51 => ?_)
    · exfalso
      revert h51
      simp (disch := omega) only [upd2_ne, upd2_row, up_ne, up_s]
      exact hit
    · refine G_aload 54 hC rfl dX0_goOnWith_54 ?_
      refine G_bipush 56 hC (nI 6) (by decide) dX0_goOnWith_56 ?_
      refine B_putI 58 hC hB (shC_w (by omega)) (fp_X0_135_9 _) rfl rfl rfl dX0_goOnWith_58 ?_
      refine G_goto 61 113 hC dX0_goOnWith_61 (by decide) ?_
      refine G_aload 113 hC rfl dX0_goOnWith_113 ?_
      refine B_getI 115 hC hB (shC_w (by omega)) fl_X0_135_9 rfl dX0_goOnWith_115 ?_
      refine G_iconst 118 hC (nI 1) (by decide) dX0_goOnWith_118 ?_
      refine G_icmp_eq 119 128 hC dX0_goOnWith_119 (by decide) (fun h119 => ?_) (fun h119 => ?_)
      · exfalso
        revert h119
        simp (disch := omega) only [upd2_ne, upd2_row, up_ne, up_s]
        decide
      · refine G_aload_n 122 hC rfl dX0_goOnWith_122 ?_
        refine G_iload_n 123 hC rfl dX0_goOnWith_123 ?_
        refine G_iload_n 124 hC rfl dX0_goOnWith_124 ?_
        have hnc4 : (upd2 (upd2 k (7 + t) 3 (k (7 + t) 3 + nI 1)) (7 + t) 0 (nI 6)) 0 9 = nI nc := by
          simp (disch := omega) only [upd2_ne, upd2_row, up_ne, up_s]; exact hnc
        refine G_callV0 125 hC (c_leave hX hP ht hth hTr hTs hTo hnc4 hnc2) okX0_leave lk_X0_181 (hB _ _ (rfl) (by decide)) rfl rfl rfl rfl (Nat.le_of_ble_eq_true rfl) (by decide) (by decide) dX0_goOnWith_125 ?_
        refine R_v 128 hR dX0_goOnWith_128 (Nat.le_refl _) (Nat.le_refl _) ?_
        exact ⟨rfl, rfl, rfl, rfl⟩
  · exfalso
    revert h34
    simp (disch := omega) only [upd2_ne, upd2_row, up_ne, up_s]
    exact fun q => q hst
end C10

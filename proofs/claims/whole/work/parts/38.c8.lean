/-! ===== the class: a thread takes a task ===== -/
theorem nI_ne9 {n : Nat} (h : n < 2 ^ 31) : ¬ nI n = -9 := by
  intro q
  have := congrArg Int32.toInt q
  rw [nI_toInt h] at this
  have e : (-9 : Int32).toInt = -9 := by decide
  omega
def W_take (k : MI) (need : Int32) (t th nc : Nat) : MI := W_write (upd2 (upd2 (upd2 (upd2 (upd2 (upd2 k (7 + t) 0 (nI 1)) (7 + t) 5 (nI th)) (7 + t) 3 (k (7 + t) 3 + nI 1)) 4 th (nI t)) 0 11 (k 0 11 - need)) 0 12 (if k 0 12 < k 0 1 - (k 0 11 - need) then k 0 1 - (k 0 11 - need) else k 0 12)) nc (nI 100 * nI t + nI 10 * nI th + nI 1)
section C8
variable {l : Launch} {D : va_G} {B c P : Nat} {N : NT} {k G : MI} {kl GL : ML} {I : MI} {L : ML}
theorem c_take_no (hX : FixC c P N) (hP : FixP c P N) {nt th : Nat} (hnt : G P 5 = nI nt) (hnt2 : nt ≤ 20) (hT : TkOk c P N nt) (hno : ¬ k 0 18 = 0 ∨ ∀ j, j < nt → ¬ FitK k G N P j) : Cq l D B mX0_takeNext [vr (some (c + 0)), vi (nI th)] (pt c 35 k G) L N none (pt c 35 (upd2 (upd2 k 0 18 (nI 1)) 0 14 (k 0 14 + nI 1)) G) L := by
  have hB := hX.b
  refine Ct.of (M := mX0_takeNext) (by decide) (Nat.le_of_ble_eq_true rfl) (fun g (hR : Cr l D B RX0 cX0_takeNext 4 "takeNext" { frames := 1, cells := 0, slots := 0, locals := 23 } none 0 0 _ g) => ?_)
  have hC := hR.cx
  show g 0 [some (vr (some (c + 0))), some (vi (nI th)), none, none] [] _ _ N 0 0
  refine G_aload_n 0 hC rfl dX0_takeNext_0 ?_
  refine G_callV1 1 hC (c_ltf_no hX hP hnt hnt2 hT hno) okX0_leastThatFits lk_X0_132 (hB _ _ (rfl) (by decide)) rfl rfl rfl rfl (Nat.le_of_ble_eq_true rfl) (by decide) (by decide) dX0_takeNext_1 ?_
  refine G_istore_n 4 hC 2 rfl (by decide) (ls' := [_, _, _, _]) rfl dX0_takeNext_4 ?_
  refine G_iload_n 5 hC rfl dX0_takeNext_5 ?_
  refine G_bipush 6 hC (-9) (by decide) dX0_takeNext_6 ?_
  refine G_icmp_ne 8 22 hC dX0_takeNext_8 (by decide) (fun h8 => ?_) (fun h8 => ?_)
  · exact absurd rfl h8
  · refine G_aload_n 11 hC rfl dX0_takeNext_11 ?_
    refine G_dup 12 hC rfl dX0_takeNext_12 ?_
    refine B_getI 13 hC hB (rfl) fl_X0_87_0 rfl dX0_takeNext_13 ?_
    refine G_iconst 16 hC (nI 1) (by decide) dX0_takeNext_16 ?_
    refine G_iadd 17 hC dX0_takeNext_17 ?_
    refine B_putI 18 hC hB (rfl) (fp_X0_87_0 _) rfl rfl rfl dX0_takeNext_18 ?_
    refine R_v 21 hR dX0_takeNext_21 (Nat.le_refl _) (Nat.le_refl _) ?_
    exact ⟨rfl, rfl, rfl, rfl⟩
theorem c_take_yes (hX : FixC c P N) (hP : FixP c P N) {nt w th nc : Nat} (hnt : G P 5 = nI nt) (hnt2 : nt ≤ 20) (hT : TkOk c P N nt) (hnf : k 0 18 = 0) (hw : w < nt) (hfit : FitK k G N P w) (hno : ∀ j, j < w → ¬ FitK k G N P j) (hth : th < 6) (hnc : k 0 9 = nI nc) (hnc2 : nc < 40) : Cq l D B mX0_takeNext [vr (some (c + 0)), vi (nI th)] (pt c 35 k G) L N none (pt c 35 (W_take k (G (tkA N P w) 1) w th nc) G) L := by
  have hB := hX.b
  obtain ⟨a, hTr, hTs, hTo⟩ := hT w hw
  rw [tkA_of hTr]
  refine Ct.of (M := mX0_takeNext) (by decide) (Nat.le_of_ble_eq_true rfl) (fun g (hR : Cr l D B RX0 cX0_takeNext 4 "takeNext" { frames := 1, cells := 0, slots := 0, locals := 23 } none 0 0 _ g) => ?_)
  have hC := hR.cx
  show g 0 [some (vr (some (c + 0))), some (vi (nI th)), none, none] [] _ _ N 0 0
  refine G_aload_n 0 hC rfl dX0_takeNext_0 ?_
  refine G_callV1 1 hC (c_ltf_yes hX hP hnt hnt2 hT hnf hw hfit hno) okX0_leastThatFits lk_X0_132 (hB _ _ (rfl) (by decide)) rfl rfl rfl rfl (Nat.le_of_ble_eq_true rfl) (by decide) (by decide) dX0_takeNext_1 ?_
  refine G_istore_n 4 hC 2 rfl (by decide) (ls' := [_, _, _, _]) rfl dX0_takeNext_4 ?_
  refine G_iload_n 5 hC rfl dX0_takeNext_5 ?_
  refine G_bipush 6 hC (-9) (by decide) dX0_takeNext_6 ?_
  refine G_icmp_ne 8 22 hC dX0_takeNext_8 (by decide) (fun h8 => ?_) (fun h8 => ?_)
  · refine G_aload_n 22 hC rfl dX0_takeNext_22 ?_
    refine G_getR 23 hC fl_X0_11_0 (hB _ _ (rfl) (by decide)) (hX.works) rfl dX0_takeNext_23 ?_
    refine G_iload_n 26 hC rfl dX0_takeNext_26 ?_
    refine G_aald 27 hC (hB _ _ (rfl) (by decide)) (by decide) (by decide) (rfl) (by omega) (by omega) (hX.wk (by omega)) dX0_takeNext_27 ?_
    refine G_astore_n 28 hC 3 rfl (by decide) (ls' := [_, _, _, _]) rfl dX0_takeNext_28 ?_
    refine G_aload_n 29 hC rfl dX0_takeNext_29 ?_
    refine G_iconst 30 hC (nI 1) (by decide) dX0_takeNext_30 ?_
    refine B_putI 31 hC hB (shC_w (by omega)) (fp_X0_135_9 _) rfl rfl rfl dX0_takeNext_31 ?_
    refine G_aload_n 34 hC rfl dX0_takeNext_34 ?_
    refine G_iload_n 35 hC rfl dX0_takeNext_35 ?_
    refine B_putI 36 hC hB (shC_w (by omega)) (fp_X0_138_9 _) rfl rfl rfl dX0_takeNext_36 ?_
    refine G_aload_n 39 hC rfl dX0_takeNext_39 ?_
    refine G_dup 40 hC rfl dX0_takeNext_40 ?_
    refine B_getI 41 hC hB (shC_w (by omega)) fl_X0_141_9 rfl dX0_takeNext_41 ?_
    simp (disch := omega) only [upd2_ne, upd2_row, up_ne, up_s]
    refine G_iconst 44 hC (nI 1) (by decide) dX0_takeNext_44 ?_
    refine G_iadd 45 hC dX0_takeNext_45 ?_
    refine B_putI 46 hC hB (shC_w (by omega)) (fp_X0_141_9 _) rfl rfl rfl dX0_takeNext_46 ?_
    refine G_aload_n 49 hC rfl dX0_takeNext_49 ?_
    refine G_getR 50 hC fl_X0_28_0 (hB _ _ (rfl) (by decide)) (hX.held) rfl dX0_takeNext_50 ?_
    refine G_iload_n 53 hC rfl dX0_takeNext_53 ?_
    refine G_iload_n 54 hC rfl dX0_takeNext_54 ?_
    refine B_iast 55 hC hB (rfl) (by decide) (rfl) (by omega) dX0_takeNext_55 ?_
    refine G_aload_n 56 hC rfl dX0_takeNext_56 ?_
    refine G_dup 57 hC rfl dX0_takeNext_57 ?_
    refine B_getI 58 hC hB (rfl) fl_X0_78_0 rfl dX0_takeNext_58 ?_
    simp (disch := omega) only [upd2_ne, upd2_row, up_ne, up_s]
    refine G_aload_n 61 hC rfl dX0_takeNext_61 ?_
    refine G_getR 62 hC fl_X0_42_0 (hB _ _ (rfl) (by decide)) (hX.plan) rfl dX0_takeNext_62 ?_
    refine G_getR 65 hC fl_X0_142_4 (hP.sh) (hP.rtk) rfl dX0_takeNext_65 ?_
    refine G_iload_n 68 hC rfl dX0_takeNext_68 ?_
    refine G_aald 69 hC (hP.tk) (by decide) (by decide) (rfl) (by omega) (by omega) (hTr) dX0_takeNext_69 ?_
    refine T_need 70 hC (hTs) (hTo) dX0_takeNext_70 ?_
    refine G_isub 73 hC dX0_takeNext_73 ?_
    refine B_putI 74 hC hB (rfl) (fp_X0_78_0 _) rfl rfl rfl dX0_takeNext_74 ?_
    refine G_aload_n 77 hC rfl dX0_takeNext_77 ?_
    refine G_aload_n 78 hC rfl dX0_takeNext_78 ?_
    refine B_getI 79 hC hB (rfl) fl_X0_81_0 rfl dX0_takeNext_79 ?_
    simp (disch := omega) only [upd2_ne, upd2_row, up_ne, up_s]
    refine G_aload_n 82 hC rfl dX0_takeNext_82 ?_
    refine B_getI 83 hC hB (rfl) fl_X0_46_0 rfl dX0_takeNext_83 ?_
    refine G_aload_n 86 hC rfl dX0_takeNext_86 ?_
    refine B_getI 87 hC hB (rfl) fl_X0_78_0 rfl dX0_takeNext_87 ?_
    simp (disch := omega) only [upd2_ne, upd2_row, up_ne, up_s]
    refine G_isub 90 hC dX0_takeNext_90 ?_
    refine G_mmax 91 hC lk_X0_151 st_max in_Math cd_max (by decide) (Nat.le_of_ble_eq_true rfl) (by decide) (by decide) dX0_takeNext_91 ?_
    refine B_putI 94 hC hB (rfl) (fp_X0_81_0 _) rfl rfl rfl dX0_takeNext_94 ?_
    refine G_aload_n 97 hC rfl dX0_takeNext_97 ?_
    refine G_iload_n 98 hC rfl dX0_takeNext_98 ?_
    refine G_iload_n 99 hC rfl dX0_takeNext_99 ?_
    refine G_iconst 100 hC (nI 1) (by decide) dX0_takeNext_100 ?_
    refine G_callV0 101 hC (c_write hX (by simp (disch := omega) only [upd2_ne, upd2_row, up_ne, up_s]; exact hnc) hnc2) okX0_write lk_X0_157 (hB _ _ (rfl) (by decide)) rfl rfl rfl rfl (Nat.le_of_ble_eq_true rfl) (by decide) (by decide) dX0_takeNext_101 ?_
    refine R_v 104 hR dX0_takeNext_104 (Nat.le_refl _) (Nat.le_refl _) ?_
    exact ⟨rfl, rfl, rfl, rfl⟩
  · exact absurd h8 (nI_ne9 (by omega))
end C8

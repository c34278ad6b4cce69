/-! ===== the class: whose turn, which task ===== -/
def tkA (N : NT) (P i : Nat) : Nat := (N.1 (P + 2) i).getD 0
theorem tkA_of {N : NT} {P i a : Nat} (h : N.1 (P + 2) i = some a) : tkA N P i = a := by unfold tkA; rw [h]; rfl
def FitK (k G : MI) (N : NT) (P i : Nat) : Prop := k (7 + i) 0 = 0 ∧ G (tkA N P i) 1 ≤ k 0 11
section C7
variable {l : Launch} {D : va_G} {B c P : Nat} {N : NT} {k G : MI} {kl GL : ML} {I : MI} {L : ML}
theorem c_next_sch (hX : FixC c P N) (hP : FixP c P N) {tn sn : Nat} (hby : ¬ k 0 2 = 0) (hsn : G P 7 = nI sn) (hsn2 : sn ≤ 400) (htn : k 0 13 = nI tn) (hlt : tn < sn) : Cq l D B mX0_nextThread [vr (some (c + 0))] (pt c 35 k G) L N (some (vi (G (P + 4) tn))) (pt c 35 k G) L := by
  have hB := hX.b
  refine Ct.of (M := mX0_nextThread) (by decide) (Nat.le_of_ble_eq_true rfl) (fun g (hR : Cr l D B RX0 cX0_nextThread 2 "nextThread" { frames := 0, cells := 0, slots := 0, locals := 0 } (some .int) 0 0 _ g) => ?_)
  have hC := hR.cx
  show g 0 [some (vr (some (c + 0))), none] [] _ _ N 0 0
  refine G_aload_n 0 hC rfl dX0_nextThread_0 ?_
  refine B_getI 1 hC hB (rfl) fl_X0_49_0 rfl dX0_nextThread_1 ?_
  first | refine G_if_eq_b 4 17 hC dX0_nextThread_4 (by decide) (fun h4 => ?_) (fun h4 => ?_) | refine G_if_eq 4 17 hC dX0_nextThread_4 (by decide) (fun h4 => ?_) (fun h4 => ?_)
  · exact absurd h4 hby
  · refine G_aload_n 7 hC rfl dX0_nextThread_7 ?_
    refine G_getR 8 hC fl_X0_42_0 (hB _ _ (rfl) (by decide)) (hX.plan) rfl dX0_nextThread_8 ?_
    refine O_getI 11 hC (hP.sh) (hP.out) fl_X0_116_4 rfl dX0_nextThread_11 ?_
    rw [hsn]
    refine G_goto 14 18 hC dX0_nextThread_14 (by decide) ?_
    refine G_istore_n 18 hC 1 rfl (by decide) (ls' := [_, _]) rfl dX0_nextThread_18 ?_
    refine G_aload_n 19 hC rfl dX0_nextThread_19 ?_
    refine B_getI 20 hC hB (rfl) fl_X0_84_0 rfl dX0_nextThread_20 ?_
    rw [htn]
    refine G_iload_n 23 hC rfl dX0_nextThread_23 ?_
    refine G_icmp_ge 24 42 hC dX0_nextThread_24 (by decide) (fun h24 => ?_) (fun h24 => ?_)
    · exact absurd ((nI_leI (by omega) (by omega)).mp h24) (by omega)
    · refine G_aload_n 27 hC rfl dX0_nextThread_27 ?_
      refine G_getR 28 hC fl_X0_42_0 (hB _ _ (rfl) (by decide)) (hX.plan) rfl dX0_nextThread_28 ?_
      refine G_getR 31 hC fl_X0_119_4 (hP.sh) (hP.rsc) rfl dX0_nextThread_31 ?_
      refine G_aload_n 34 hC rfl dX0_nextThread_34 ?_
      refine B_getI 35 hC hB (rfl) fl_X0_84_0 rfl dX0_nextThread_35 ?_
      rw [htn]
      refine O_iald 38 hC (hP.sc) (hP.sco) (rfl) (by omega) (by omega) dX0_nextThread_38 ?_
      refine G_goto 39 53 hC dX0_nextThread_39 (by decide) ?_
      refine R_i 53 hR (by first | rfl | exact narrow_bI _) dX0_nextThread_53 (Nat.le_refl _) (Nat.le_refl _) ?_
      exact ⟨rfl, rfl, rfl, rfl⟩
theorem c_next_beh (hX : FixC c P N) (hP : FixP c P N) {tn sn th : Nat} (hby : ¬ k 0 2 = 0) (hsn : G P 7 = nI sn) (htn : k 0 13 = nI tn) (htn2 : tn < 2 ^ 31) (hle : sn ≤ tn) (hth : k 0 10 = nI th) (hth0 : 0 < th) (hth2 : th ≤ 6) : Cq l D B mX0_nextThread [vr (some (c + 0))] (pt c 35 k G) L N (some (vi (nI ((tn - sn) % th)))) (pt c 35 k G) L := by
  have hB := hX.b
  refine Ct.of (M := mX0_nextThread) (by decide) (Nat.le_of_ble_eq_true rfl) (fun g (hR : Cr l D B RX0 cX0_nextThread 2 "nextThread" { frames := 0, cells := 0, slots := 0, locals := 0 } (some .int) 0 0 _ g) => ?_)
  have hC := hR.cx
  show g 0 [some (vr (some (c + 0))), none] [] _ _ N 0 0
  refine G_aload_n 0 hC rfl dX0_nextThread_0 ?_
  refine B_getI 1 hC hB (rfl) fl_X0_49_0 rfl dX0_nextThread_1 ?_
  first | refine G_if_eq_b 4 17 hC dX0_nextThread_4 (by decide) (fun h4 => ?_) (fun h4 => ?_) | refine G_if_eq 4 17 hC dX0_nextThread_4 (by decide) (fun h4 => ?_) (fun h4 => ?_)
  · exact absurd h4 hby
  · refine G_aload_n 7 hC rfl dX0_nextThread_7 ?_
    refine G_getR 8 hC fl_X0_42_0 (hB _ _ (rfl) (by decide)) (hX.plan) rfl dX0_nextThread_8 ?_
    refine O_getI 11 hC (hP.sh) (hP.out) fl_X0_116_4 rfl dX0_nextThread_11 ?_
    rw [hsn]
    refine G_goto 14 18 hC dX0_nextThread_14 (by decide) ?_
    refine G_istore_n 18 hC 1 rfl (by decide) (ls' := [_, _]) rfl dX0_nextThread_18 ?_
    refine G_aload_n 19 hC rfl dX0_nextThread_19 ?_
    refine B_getI 20 hC hB (rfl) fl_X0_84_0 rfl dX0_nextThread_20 ?_
    rw [htn]
    refine G_iload_n 23 hC rfl dX0_nextThread_23 ?_
    refine G_icmp_ge 24 42 hC dX0_nextThread_24 (by decide) (fun h24 => ?_) (fun h24 => ?_)
    · refine G_aload_n 42 hC rfl dX0_nextThread_42 ?_
      refine B_getI 43 hC hB (rfl) fl_X0_84_0 rfl dX0_nextThread_43 ?_
      rw [htn]
      refine G_iload_n 46 hC rfl dX0_nextThread_46 ?_
      refine G_isubN 47 hC (by omega) dX0_nextThread_47 ?_
      refine G_aload_n 48 hC rfl dX0_nextThread_48 ?_
      refine B_getI 49 hC hB (rfl) fl_X0_38_0 rfl dX0_nextThread_49 ?_
      rw [hth]
      refine G_irem 52 hC (nI_ne0 hth0 (by omega)) dX0_nextThread_52 ?_
      refine R_i 53 hR (by first | rfl | exact narrow_bI _) dX0_nextThread_53 (Nat.le_refl _) (Nat.le_refl _) ?_
      refine ⟨?_, rfl, rfl, rfl⟩
      rw [pk_rem (by omega) (by omega) (by omega)]
    · exact absurd ((nI_leI (by omega) (by omega)).mpr hle) h24
theorem c_next_alone (hX : FixC c P N) (hP : FixP c P N) {tn th : Nat} (hby : k 0 2 = 0) (htn : k 0 13 = nI tn) (htn2 : tn < 2 ^ 31) (hth : k 0 10 = nI th) (hth0 : 0 < th) (hth2 : th ≤ 6) : Cq l D B mX0_nextThread [vr (some (c + 0))] (pt c 35 k G) L N (some (vi (nI (tn % th)))) (pt c 35 k G) L := by
  have hB := hX.b
  refine Ct.of (M := mX0_nextThread) (by decide) (Nat.le_of_ble_eq_true rfl) (fun g (hR : Cr l D B RX0 cX0_nextThread 2 "nextThread" { frames := 0, cells := 0, slots := 0, locals := 0 } (some .int) 0 0 _ g) => ?_)
  have hC := hR.cx
  show g 0 [some (vr (some (c + 0))), none] [] _ _ N 0 0
  refine G_aload_n 0 hC rfl dX0_nextThread_0 ?_
  refine B_getI 1 hC hB (rfl) fl_X0_49_0 rfl dX0_nextThread_1 ?_
  first | refine G_if_eq_b 4 17 hC dX0_nextThread_4 (by decide) (fun h4 => ?_) (fun h4 => ?_) | refine G_if_eq 4 17 hC dX0_nextThread_4 (by decide) (fun h4 => ?_) (fun h4 => ?_)
  · refine G_iconst 17 hC (nI 0) (by decide) dX0_nextThread_17 ?_
    refine G_istore_n 18 hC 1 rfl (by decide) (ls' := [_, _]) rfl dX0_nextThread_18 ?_
    refine G_aload_n 19 hC rfl dX0_nextThread_19 ?_
    refine B_getI 20 hC hB (rfl) fl_X0_84_0 rfl dX0_nextThread_20 ?_
    rw [htn]
    refine G_iload_n 23 hC rfl dX0_nextThread_23 ?_
    refine G_icmp_ge 24 42 hC dX0_nextThread_24 (by decide) (fun h24 => ?_) (fun h24 => ?_)
    · refine G_aload_n 42 hC rfl dX0_nextThread_42 ?_
      refine B_getI 43 hC hB (rfl) fl_X0_84_0 rfl dX0_nextThread_43 ?_
      rw [htn]
      refine G_iload_n 46 hC rfl dX0_nextThread_46 ?_
      refine G_isubN 47 hC (by omega) dX0_nextThread_47 ?_
      refine G_aload_n 48 hC rfl dX0_nextThread_48 ?_
      refine B_getI 49 hC hB (rfl) fl_X0_38_0 rfl dX0_nextThread_49 ?_
      rw [hth]
      refine G_irem 52 hC (nI_ne0 hth0 (by omega)) dX0_nextThread_52 ?_
      refine R_i 53 hR (by first | rfl | exact narrow_bI _) dX0_nextThread_53 (Nat.le_refl _) (Nat.le_refl _) ?_
      refine ⟨?_, rfl, rfl, rfl⟩
      rw [pk_rem (by omega) (by omega) (by omega)]
      rfl
    · exact absurd ((nI_leI (by omega) (by omega)).mpr (Nat.zero_le _)) h24
  · exact absurd hby h4
theorem c_ltf_yes (hX : FixC c P N) (hP : FixP c P N) {nt w : Nat} (hnt : G P 5 = nI nt) (hnt2 : nt ≤ 20) (hT : TkOk c P N nt) (hnf : k 0 18 = 0) (hw : w < nt) (hfit : FitK k G N P w) (hno : ∀ j, j < w → ¬ FitK k G N P j) : Cq l D B mX0_leastThatFits [vr (some (c + 0))] (pt c 35 k G) L N (some (vi (nI w))) (pt c 35 k G) L := by
  have hB := hX.b
  refine Ct.of (M := mX0_leastThatFits) (by decide) (Nat.le_of_ble_eq_true rfl) (fun g (hR : Cr l D B RX0 cX0_leastThatFits 2 "leastThatFits" { frames := 0, cells := 0, slots := 0, locals := 0 } (some .int) 0 0 _ g) => ?_)
  have hC := hR.cx
  have loop : ∀ (f i : Nat), w - i = f → i ≤ w → g 2 [some (vr (some (c + 0))), some (vi (nI i))] [] (pt c 35 k G) L N 0 0 := by
    intro f
    induction f using Nat.strongRecOn with
    | _ f ih =>
      intro i hf hiw
      refine G_iload_n 2 hC rfl dX0_leastThatFits_2 ?_
      refine G_aload_n 3 hC rfl dX0_leastThatFits_3 ?_
      refine G_getR 4 hC fl_X0_42_0 (hB _ _ (rfl) (by decide)) (hX.plan) rfl dX0_leastThatFits_4 ?_
      refine O_getI 7 hC (hP.sh) (hP.out) fl_X0_102_4 rfl dX0_leastThatFits_7 ?_
      rw [hnt]
      refine G_icmp_ge 10 59 hC dX0_leastThatFits_10 (by decide) (fun h10 => ?_) (fun h10 => ?_)
      · exact absurd ((nI_leI (by omega) (by omega)).mp h10) (by omega)
      · refine G_aload_n 13 hC rfl dX0_leastThatFits_13 ?_
        refine B_getI 14 hC hB (rfl) fl_X0_99_0 rfl dX0_leastThatFits_14 ?_
        first | refine G_if_ne_b 17 59 hC dX0_leastThatFits_17 (by decide) (fun h17 => ?_) (fun h17 => ?_) | refine G_if_ne 17 59 hC dX0_leastThatFits_17 (by decide) (fun h17 => ?_) (fun h17 => ?_)
        · exact absurd hnf h17
        · have a10 : i < nt := by
            rcases Nat.lt_or_ge i nt with q | q
            · exact q
            · exact absurd ((nI_leI (by omega) (by omega)).mpr q) h10
          obtain ⟨a, hTr, hTs, hTo⟩ := hT i a10
          refine G_aload_n 20 hC rfl dX0_leastThatFits_20 ?_
          refine G_getR 21 hC fl_X0_11_0 (hB _ _ (rfl) (by decide)) (hX.works) rfl dX0_leastThatFits_21 ?_
          refine G_iload_n 24 hC rfl dX0_leastThatFits_24 ?_
          refine G_aald 25 hC (hB _ _ (rfl) (by decide)) (by decide) (by decide) (rfl) (by omega) (by omega) (hX.wk (by omega)) dX0_leastThatFits_25 ?_
          refine B_getI 26 hC hB (shC_w (by omega)) fl_X0_135_9 rfl dX0_leastThatFits_26 ?_
          first | refine G_if_ne_b 29 53 hC dX0_leastThatFits_29 (by decide) (fun h29 => ?_) (fun h29 => ?_) | refine G_if_ne 29 53 hC dX0_leastThatFits_29 (by decide) (fun h29 => ?_) (fun h29 => ?_)
          · first | refine G_iincN 53 hC (by decide) rfl (ls' := [_, _]) rfl dX0_leastThatFits_53 ?_ | refine G_iinc 53 hC _ rfl (by decide) rfl (ls' := [_, _]) rfl dX0_leastThatFits_53 ?_
            refine G_goto 56 2 hC dX0_leastThatFits_56 (by decide) ?_
            have q : ¬ i = w := by
              rintro rfl
              first | exact h29 hfit.1 | exact absurd (tkA_of hTr ▸ hfit.2) (Int32.not_le.mpr h48)
            exact ih (w - (i + 1)) (by omega) (i + 1) rfl (by omega)
          · refine G_aload_n 32 hC rfl dX0_leastThatFits_32 ?_
            refine G_getR 33 hC fl_X0_42_0 (hB _ _ (rfl) (by decide)) (hX.plan) rfl dX0_leastThatFits_33 ?_
            refine G_getR 36 hC fl_X0_142_4 (hP.sh) (hP.rtk) rfl dX0_leastThatFits_36 ?_
            refine G_iload_n 39 hC rfl dX0_leastThatFits_39 ?_
            refine G_aald 40 hC (hP.tk) (by decide) (by decide) (rfl) (by omega) (by omega) (hTr) dX0_leastThatFits_40 ?_
            refine T_need 41 hC (hTs) (hTo) dX0_leastThatFits_41 ?_
            refine G_aload_n 44 hC rfl dX0_leastThatFits_44 ?_
            refine B_getI 45 hC hB (rfl) fl_X0_78_0 rfl dX0_leastThatFits_45 ?_
            refine G_icmp_gt 48 53 hC dX0_leastThatFits_48 (by decide) (fun h48 => ?_) (fun h48 => ?_)
            · first | refine G_iincN 53 hC (by decide) rfl (ls' := [_, _]) rfl dX0_leastThatFits_53 ?_ | refine G_iinc 53 hC _ rfl (by decide) rfl (ls' := [_, _]) rfl dX0_leastThatFits_53 ?_
              refine G_goto 56 2 hC dX0_leastThatFits_56 (by decide) ?_
              have q : ¬ i = w := by
                rintro rfl
                first | exact h29 hfit.1 | exact absurd (tkA_of hTr ▸ hfit.2) (Int32.not_le.mpr h48)
              exact ih (w - (i + 1)) (by omega) (i + 1) rfl (by omega)
            · refine G_iload_n 51 hC rfl dX0_leastThatFits_51 ?_
              refine R_i 52 hR (by first | rfl | exact narrow_bI _) dX0_leastThatFits_52 (Nat.le_refl _) (Nat.le_refl _) ?_
              have q : i = w := by
                rcases Nat.lt_or_eq_of_le hiw with q | q
                · exact absurd ⟨h29, (tkA_of hTr).symm ▸ Int32.not_lt.mp h48⟩ (hno i q)
                · exact q
              subst q
              exact ⟨rfl, rfl, rfl, rfl⟩
  show g 0 [some (vr (some (c + 0))), none] [] _ _ N 0 0
  refine G_iconst 0 hC (nI 0) (by decide) dX0_leastThatFits_0 ?_
  refine G_istore_n 1 hC 1 rfl (by decide) (ls' := [_, _]) rfl dX0_leastThatFits_1 ?_
  exact loop _ 0 rfl (Nat.zero_le _)
theorem c_ltf_no (hX : FixC c P N) (hP : FixP c P N) {nt : Nat} (hnt : G P 5 = nI nt) (hnt2 : nt ≤ 20) (hT : TkOk c P N nt) (hno : ¬ k 0 18 = 0 ∨ ∀ j, j < nt → ¬ FitK k G N P j) : Cq l D B mX0_leastThatFits [vr (some (c + 0))] (pt c 35 k G) L N (some (vi (-9))) (pt c 35 (upd2 k 0 18 (nI 1)) G) L := by
  have hB := hX.b
  refine Ct.of (M := mX0_leastThatFits) (by decide) (Nat.le_of_ble_eq_true rfl) (fun g (hR : Cr l D B RX0 cX0_leastThatFits 2 "leastThatFits" { frames := 0, cells := 0, slots := 0, locals := 0 } (some .int) 0 0 _ g) => ?_)
  have hC := hR.cx
  have loop : ∀ (f i : Nat), nt - i = f → i ≤ nt → g 2 [some (vr (some (c + 0))), some (vi (nI i))] [] (pt c 35 k G) L N 0 0 := by
    intro f
    induction f using Nat.strongRecOn with
    | _ f ih =>
      intro i hf hiw
      refine G_iload_n 2 hC rfl dX0_leastThatFits_2 ?_
      refine G_aload_n 3 hC rfl dX0_leastThatFits_3 ?_
      refine G_getR 4 hC fl_X0_42_0 (hB _ _ (rfl) (by decide)) (hX.plan) rfl dX0_leastThatFits_4 ?_
      refine O_getI 7 hC (hP.sh) (hP.out) fl_X0_102_4 rfl dX0_leastThatFits_7 ?_
      rw [hnt]
      refine G_icmp_ge 10 59 hC dX0_leastThatFits_10 (by decide) (fun h10 => ?_) (fun h10 => ?_)
      · refine G_aload_n 59 hC rfl dX0_leastThatFits_59 ?_
        refine G_iconst 60 hC (nI 1) (by decide) dX0_leastThatFits_60 ?_
        refine B_putI 61 hC hB (rfl) (fp_X0_99_0 _) rfl (by first | rfl | decide) (by first | rfl | decide) dX0_leastThatFits_61 ?_
        refine G_bipush 64 hC (-9) (by decide) dX0_leastThatFits_64 ?_
        refine R_i 66 hR (by first | rfl | exact narrow_bI _) dX0_leastThatFits_66 (Nat.le_refl _) (Nat.le_refl _) ?_
        exact ⟨rfl, rfl, rfl, rfl⟩
      · refine G_aload_n 13 hC rfl dX0_leastThatFits_13 ?_
        refine B_getI 14 hC hB (rfl) fl_X0_99_0 rfl dX0_leastThatFits_14 ?_
        first | refine G_if_ne_b 17 59 hC dX0_leastThatFits_17 (by decide) (fun h17 => ?_) (fun h17 => ?_) | refine G_if_ne 17 59 hC dX0_leastThatFits_17 (by decide) (fun h17 => ?_) (fun h17 => ?_)
        · refine G_aload_n 59 hC rfl dX0_leastThatFits_59 ?_
          refine G_iconst 60 hC (nI 1) (by decide) dX0_leastThatFits_60 ?_
          refine B_putI 61 hC hB (rfl) (fp_X0_99_0 _) rfl (by first | rfl | decide) (by first | rfl | decide) dX0_leastThatFits_61 ?_
          refine G_bipush 64 hC (-9) (by decide) dX0_leastThatFits_64 ?_
          refine R_i 66 hR (by first | rfl | exact narrow_bI _) dX0_leastThatFits_66 (Nat.le_refl _) (Nat.le_refl _) ?_
          exact ⟨rfl, rfl, rfl, rfl⟩
        · have a10 : i < nt := by
            rcases Nat.lt_or_ge i nt with q | q
            · exact q
            · exact absurd ((nI_leI (by omega) (by omega)).mpr q) h10
          obtain ⟨a, hTr, hTs, hTo⟩ := hT i a10
          refine G_aload_n 20 hC rfl dX0_leastThatFits_20 ?_
          refine G_getR 21 hC fl_X0_11_0 (hB _ _ (rfl) (by decide)) (hX.works) rfl dX0_leastThatFits_21 ?_
          refine G_iload_n 24 hC rfl dX0_leastThatFits_24 ?_
          refine G_aald 25 hC (hB _ _ (rfl) (by decide)) (by decide) (by decide) (rfl) (by omega) (by omega) (hX.wk (by omega)) dX0_leastThatFits_25 ?_
          refine B_getI 26 hC hB (shC_w (by omega)) fl_X0_135_9 rfl dX0_leastThatFits_26 ?_
          first | refine G_if_ne_b 29 53 hC dX0_leastThatFits_29 (by decide) (fun h29 => ?_) (fun h29 => ?_) | refine G_if_ne 29 53 hC dX0_leastThatFits_29 (by decide) (fun h29 => ?_) (fun h29 => ?_)
          · first | refine G_iincN 53 hC (by decide) rfl (ls' := [_, _]) rfl dX0_leastThatFits_53 ?_ | refine G_iinc 53 hC _ rfl (by decide) rfl (ls' := [_, _]) rfl dX0_leastThatFits_53 ?_
            refine G_goto 56 2 hC dX0_leastThatFits_56 (by decide) ?_
            exact ih (nt - (i + 1)) (by omega) (i + 1) rfl (by omega)
          · refine G_aload_n 32 hC rfl dX0_leastThatFits_32 ?_
            refine G_getR 33 hC fl_X0_42_0 (hB _ _ (rfl) (by decide)) (hX.plan) rfl dX0_leastThatFits_33 ?_
            refine G_getR 36 hC fl_X0_142_4 (hP.sh) (hP.rtk) rfl dX0_leastThatFits_36 ?_
            refine G_iload_n 39 hC rfl dX0_leastThatFits_39 ?_
            refine G_aald 40 hC (hP.tk) (by decide) (by decide) (rfl) (by omega) (by omega) (hTr) dX0_leastThatFits_40 ?_
            refine T_need 41 hC (hTs) (hTo) dX0_leastThatFits_41 ?_
            refine G_aload_n 44 hC rfl dX0_leastThatFits_44 ?_
            refine B_getI 45 hC hB (rfl) fl_X0_78_0 rfl dX0_leastThatFits_45 ?_
            refine G_icmp_gt 48 53 hC dX0_leastThatFits_48 (by decide) (fun h48 => ?_) (fun h48 => ?_)
            · first | refine G_iincN 53 hC (by decide) rfl (ls' := [_, _]) rfl dX0_leastThatFits_53 ?_ | refine G_iinc 53 hC _ rfl (by decide) rfl (ls' := [_, _]) rfl dX0_leastThatFits_53 ?_
              refine G_goto 56 2 hC dX0_leastThatFits_56 (by decide) ?_
              exact ih (nt - (i + 1)) (by omega) (i + 1) rfl (by omega)
            · refine G_iload_n 51 hC rfl dX0_leastThatFits_51 ?_
              refine R_i 52 hR (by first | rfl | exact narrow_bI _) dX0_leastThatFits_52 (Nat.le_refl _) (Nat.le_refl _) ?_
              exfalso
              rcases hno with q | q
              · exact q h17
              · exact q i a10 ⟨h29, (tkA_of hTr).symm ▸ Int32.not_lt.mp h48⟩
  show g 0 [some (vr (some (c + 0))), none] [] _ _ N 0 0
  refine G_iconst 0 hC (nI 0) (by decide) dX0_leastThatFits_0 ?_
  refine G_istore_n 1 hC 1 rfl (by decide) (ls' := [_, _]) rfl dX0_leastThatFits_1 ?_
  exact loop _ 0 rfl (Nat.zero_le _)
end C7

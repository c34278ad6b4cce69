/-! ===== the class itself: turns, runs ===== -/
section G5
variable {l : Launch} {D : va_G} {B X P c d e : Nat} {N : NT} {I I1 I2 I3 I4 : MI} {L L1 L2 L3 L4 : ML}
theorem g_turn_bad (hX : FixX X P c d e N) {nth : Nat} {x : Int32} (hth : I X 0 = nI nth) (hth2 : nth ≤ 6) (hx : ¬ inR x nth) : Cq l D B mX11_turn [vr (some X), vi x] I L N (some (vi (-1))) I L := by
  refine Ct.of (M := mX11_turn) (by decide) (Nat.le_of_ble_eq_true rfl) (fun g (hR : Cr l D B RX11 cX11_turn 2 "turn" { frames := 1, cells := 0, slots := 0, locals := 21 } (some .int) 0 0 _ g) => ?_)
  have hC := hR.cx
  show g 0 [some (vr (some X)), some (vi x)] [] _ _ N 0 0
  refine G_aload_n 0 hC rfl dX11_turn_0 ?_
  refine G_iload_n 1 hC rfl dX11_turn_1 ?_
  refine G_callV1 2 hC (g_isThread hX hth hth2) okX11_isThread lk_X11_160 (hX.sh) rfl rfl rfl rfl (Nat.le_of_ble_eq_true rfl) (by decide) (by decide) dX11_turn_2 ?_
  first | refine G_if_ne_b 5 10 hC dX11_turn_5 (by decide) (fun h5 => ?_) (fun h5 => ?_) | refine G_if_ne 5 10 hC dX11_turn_5 (by decide) (fun h5 => ?_) (fun h5 => ?_)
  · exact absurd h5 hx
  · refine G_iconst 8 hC (-1) (by decide) dX11_turn_8 ?_
    refine R_i 9 hR (by first | rfl | exact narrow_bI _) dX11_turn_9 (Nat.le_refl _) (Nat.le_refl _) ?_
    exact ⟨rfl, rfl, rfl, rfl⟩
theorem g_turn_state (hX : FixX X P c d e N) (hK : FixC c P N) {nth : Nat} {x : Int32} (hth : I X 0 = nI nth) (hth2 : nth ≤ 6) (hx : inR x nth) (hst : I (c + 0) 16 = nI 1) : Cq l D B mX11_turn [vr (some X), vi x] I L N (some (vi (-2))) I L := by
  have hB := hK.b
  refine Ct.of (M := mX11_turn) (by decide) (Nat.le_of_ble_eq_true rfl) (fun g (hR : Cr l D B RX11 cX11_turn 2 "turn" { frames := 1, cells := 0, slots := 0, locals := 21 } (some .int) 0 0 _ g) => ?_)
  have hC := hR.cx
  show g 0 [some (vr (some X)), some (vi x)] [] _ _ N 0 0
  refine G_aload_n 0 hC rfl dX11_turn_0 ?_
  refine G_iload_n 1 hC rfl dX11_turn_1 ?_
  refine G_callV1 2 hC (g_isThread hX hth hth2) okX11_isThread lk_X11_160 (hX.sh) rfl rfl rfl rfl (Nat.le_of_ble_eq_true rfl) (by decide) (by decide) dX11_turn_2 ?_
  first | refine G_if_ne_b 5 10 hC dX11_turn_5 (by decide) (fun h5 => ?_) (fun h5 => ?_) | refine G_if_ne 5 10 hC dX11_turn_5 (by decide) (fun h5 => ?_) (fun h5 => ?_)
  · refine G_aload_n 10 hC rfl dX11_turn_10 ?_
    refine G_getR 11 hC fl_X11_39_10 (hX.sh) (hX.course) rfl dX11_turn_11 ?_
    refine G_getI 14 hC fl_X11_57_0 (hB 0 _ rfl (by decide)) rfl dX11_turn_14 ?_
    refine G_iconst 17 hC (nI 1) (by decide) dX11_turn_17 ?_
    refine G_icmp_ne 18 24 hC dX11_turn_18 (by decide) (fun h18 => ?_) (fun h18 => ?_)
    · exact absurd hst h18
    · refine G_bipush 21 hC (-2) (by decide) dX11_turn_21 ?_
      refine R_i 23 hR (by first | rfl | exact narrow_bI _) dX11_turn_23 (Nat.le_refl _) (Nat.le_refl _) ?_
      exact ⟨rfl, rfl, rfl, rfl⟩
  · exact absurd hx h5
theorem g_turn_full (hX : FixX X P c d e N) (hK : FixC c P N) (hP : FixP c P N) {nth : Nat} {x : Int32} (hth : I X 0 = nI nth) (hth2 : nth ≤ 6) (hx : inR x nth) (hst : ¬ I (c + 0) 16 = nI 1) (hsc : I P 7 = nI 400) : Cq l D B mX11_turn [vr (some X), vi x] I L N (some (vi (-3))) I L := by
  have hB := hK.b
  refine Ct.of (M := mX11_turn) (by decide) (Nat.le_of_ble_eq_true rfl) (fun g (hR : Cr l D B RX11 cX11_turn 2 "turn" { frames := 1, cells := 0, slots := 0, locals := 21 } (some .int) 0 0 _ g) => ?_)
  have hC := hR.cx
  show g 0 [some (vr (some X)), some (vi x)] [] _ _ N 0 0
  refine G_aload_n 0 hC rfl dX11_turn_0 ?_
  refine G_iload_n 1 hC rfl dX11_turn_1 ?_
  refine G_callV1 2 hC (g_isThread hX hth hth2) okX11_isThread lk_X11_160 (hX.sh) rfl rfl rfl rfl (Nat.le_of_ble_eq_true rfl) (by decide) (by decide) dX11_turn_2 ?_
  first | refine G_if_ne_b 5 10 hC dX11_turn_5 (by decide) (fun h5 => ?_) (fun h5 => ?_) | refine G_if_ne 5 10 hC dX11_turn_5 (by decide) (fun h5 => ?_) (fun h5 => ?_)
  · refine G_aload_n 10 hC rfl dX11_turn_10 ?_
    refine G_getR 11 hC fl_X11_39_10 (hX.sh) (hX.course) rfl dX11_turn_11 ?_
    refine G_getI 14 hC fl_X11_57_0 (hB 0 _ rfl (by decide)) rfl dX11_turn_14 ?_
    refine G_iconst 17 hC (nI 1) (by decide) dX11_turn_17 ?_
    refine G_icmp_ne 18 24 hC dX11_turn_18 (by decide) (fun h18 => ?_) (fun h18 => ?_)
    · refine G_aload_n 24 hC rfl dX11_turn_24 ?_
      refine G_getR 25 hC fl_X11_30_10 (hX.sh) (hX.plan) rfl dX11_turn_25 ?_
      refine G_getI 28 hC fl_X11_163_4 (hP.sh) rfl dX11_turn_28 ?_
      rw [hsc]
      refine G_sipush 31 hC (nI 400) (by decide) dX11_turn_31 ?_
      refine G_icmp_lt 34 40 hC dX11_turn_34 (by decide) (fun h34 => ?_) (fun h34 => ?_)
      · exact absurd h34 (by decide)
      · refine G_bipush 37 hC (-3) (by decide) dX11_turn_37 ?_
        refine R_i 39 hR (by first | rfl | exact narrow_bI _) dX11_turn_39 (Nat.le_refl _) (Nat.le_refl _) ?_
        exact ⟨rfl, rfl, rfl, rfl⟩
    · exact absurd h18 hst
  · exact absurd hx h5
theorem g_turn_ok (hX : FixX X P c d e N) (hK : FixC c P N) (hP : FixP c P N) {nth sc : Nat} {x : Int32} (hth : I X 0 = nI nth) (hth2 : nth ≤ 6) (hx : inR x nth) (hst : ¬ I (c + 0) 16 = nI 1) (hsc : I P 7 = nI sc) (hsc2 : sc < 400) : Cq l D B mX11_turn [vr (some X), vi x] I L N (some (vi (nI (sc + 1)))) (upd2 (upd2 I (P + 4) sc x) P 7 (nI (sc + 1))) L := by
  have hB := hK.b
  refine Ct.of (M := mX11_turn) (by decide) (Nat.le_of_ble_eq_true rfl) (fun g (hR : Cr l D B RX11 cX11_turn 2 "turn" { frames := 1, cells := 0, slots := 0, locals := 21 } (some .int) 0 0 _ g) => ?_)
  have hC := hR.cx
  show g 0 [some (vr (some X)), some (vi x)] [] _ _ N 0 0
  refine G_aload_n 0 hC rfl dX11_turn_0 ?_
  refine G_iload_n 1 hC rfl dX11_turn_1 ?_
  refine G_callV1 2 hC (g_isThread hX hth hth2) okX11_isThread lk_X11_160 (hX.sh) rfl rfl rfl rfl (Nat.le_of_ble_eq_true rfl) (by decide) (by decide) dX11_turn_2 ?_
  first | refine G_if_ne_b 5 10 hC dX11_turn_5 (by decide) (fun h5 => ?_) (fun h5 => ?_) | refine G_if_ne 5 10 hC dX11_turn_5 (by decide) (fun h5 => ?_) (fun h5 => ?_)
  · refine G_aload_n 10 hC rfl dX11_turn_10 ?_
    refine G_getR 11 hC fl_X11_39_10 (hX.sh) (hX.course) rfl dX11_turn_11 ?_
    refine G_getI 14 hC fl_X11_57_0 (hB 0 _ rfl (by decide)) rfl dX11_turn_14 ?_
    refine G_iconst 17 hC (nI 1) (by decide) dX11_turn_17 ?_
    refine G_icmp_ne 18 24 hC dX11_turn_18 (by decide) (fun h18 => ?_) (fun h18 => ?_)
    · refine G_aload_n 24 hC rfl dX11_turn_24 ?_
      refine G_getR 25 hC fl_X11_30_10 (hX.sh) (hX.plan) rfl dX11_turn_25 ?_
      refine G_getI 28 hC fl_X11_163_4 (hP.sh) rfl dX11_turn_28 ?_
      rw [hsc]
      refine G_sipush 31 hC (nI 400) (by decide) dX11_turn_31 ?_
      refine G_icmp_lt 34 40 hC dX11_turn_34 (by decide) (fun h34 => ?_) (fun h34 => ?_)
      · refine G_aload_n 40 hC rfl dX11_turn_40 ?_
        refine G_getR 41 hC fl_X11_30_10 (hX.sh) (hX.plan) rfl dX11_turn_41 ?_
        refine G_getR 44 hC fl_X11_166_4 (hP.sh) (hP.rsc) rfl dX11_turn_44 ?_
        refine G_aload_n 47 hC rfl dX11_turn_47 ?_
        refine G_getR 48 hC fl_X11_30_10 (hX.sh) (hX.plan) rfl dX11_turn_48 ?_
        refine G_getI 51 hC fl_X11_163_4 (hP.sh) rfl dX11_turn_51 ?_
        rw [hsc]
        refine G_iload_n 54 hC rfl dX11_turn_54 ?_
        refine G_iast 55 hC (hP.sc) (rfl) (by omega) (by omega) dX11_turn_55 ?_
        refine G_aload_n 56 hC rfl dX11_turn_56 ?_
        refine G_getR 57 hC fl_X11_30_10 (hX.sh) (hX.plan) rfl dX11_turn_57 ?_
        refine G_dup 60 hC rfl dX11_turn_60 ?_
        refine G_getI 61 hC fl_X11_163_4 (hP.sh) rfl dX11_turn_61 ?_
        rw [show upd2 I (P + 4) sc x P 7 = nI sc by rw [upd2_ne (by omega)]; exact hsc]
        refine G_iconst 64 hC (nI 1) (by decide) dX11_turn_64 ?_
        refine G_iaddN 65 hC dX11_turn_65 ?_
        refine G_putI 66 hC (fp_X11_163_4 _) (hP.sh) rfl rfl rfl dX11_turn_66 ?_
        refine G_aload_n 69 hC rfl dX11_turn_69 ?_
        refine G_getR 70 hC fl_X11_30_10 (hX.sh) (hX.plan) rfl dX11_turn_70 ?_
        refine G_getI 73 hC fl_X11_163_4 (hP.sh) rfl dX11_turn_73 ?_
        refine R_i 76 hR (by first | rfl | exact narrow_bI _) dX11_turn_76 (Nat.le_refl _) (Nat.le_refl _) ?_
        refine ⟨congrArg (fun z => some (vi z)) ?_, rfl, rfl, rfl⟩
        rw [upd2_row, up_s]
      · exact absurd ((nI_ltI (by omega) (by omega)).mpr hsc2) h34
    · exact absurd h18 hst
  · exact absurd hx h5
theorem g_run_bad {x : Int32} (hx : ¬ (nI 1 ≤ x ∧ x ≤ nI 1000)) : Cq l D B mX11_run [vr (some X), vi x] I L N (some (vi (-1))) I L := by
  refine Ct.of (M := mX11_run) (by decide) (Nat.le_of_ble_eq_true rfl) (fun g (hR : Cr l D B RX11 cX11_run 2 "run" { frames := 7, cells := 0, slots := 0, locals := 160 } (some .int) 0 0 _ g) => ?_)
  have hC := hR.cx
  show g 0 [some (vr (some X)), some (vi x)] [] _ _ N 0 0
  refine G_iload_n 0 hC rfl dX11_run_0 ?_
  refine G_iconst 1 hC (nI 1) (by decide) dX11_run_1 ?_
  refine G_icmp_lt 2 12 hC dX11_run_2 (by decide) (fun h2 => ?_) (fun h2 => ?_)
  · refine G_iconst 12 hC (-1) (by decide) dX11_run_12 ?_
    refine R_i 13 hR (by first | rfl | exact narrow_bI _) dX11_run_13 (Nat.le_refl _) (Nat.le_refl _) ?_
    exact ⟨rfl, rfl, rfl, rfl⟩
  · refine G_iload_n 5 hC rfl dX11_run_5 ?_
    refine G_sipush 6 hC (nI 1000) (by decide) dX11_run_6 ?_
    refine G_icmp_le 9 14 hC dX11_run_9 (by decide) (fun h9 => ?_) (fun h9 => ?_)
    · exact absurd ⟨Int32.not_lt.mp h2, h9⟩ hx
    · refine G_iconst 12 hC (-1) (by decide) dX11_run_12 ?_
      refine R_i 13 hR (by first | rfl | exact narrow_bI _) dX11_run_13 (Nat.le_refl _) (Nat.le_refl _) ?_
      exact ⟨rfl, rfl, rfl, rfl⟩
theorem g_run_state (hX : FixX X P c d e N) (hK : FixC c P N) {x : Int32} (hx : nI 1 ≤ x ∧ x ≤ nI 1000) (hst : I (c + 0) 16 = nI 2 ∨ I (c + 0) 16 = nI 3) : Cq l D B mX11_run [vr (some X), vi x] I L N (some (vi (-2))) I L := by
  have hB := hK.b
  refine Ct.of (M := mX11_run) (by decide) (Nat.le_of_ble_eq_true rfl) (fun g (hR : Cr l D B RX11 cX11_run 2 "run" { frames := 7, cells := 0, slots := 0, locals := 160 } (some .int) 0 0 _ g) => ?_)
  have hC := hR.cx
  show g 0 [some (vr (some X)), some (vi x)] [] _ _ N 0 0
  refine G_iload_n 0 hC rfl dX11_run_0 ?_
  refine G_iconst 1 hC (nI 1) (by decide) dX11_run_1 ?_
  refine G_icmp_lt 2 12 hC dX11_run_2 (by decide) (fun h2 => ?_) (fun h2 => ?_)
  · exact absurd h2 (Int32.not_lt.mpr hx.1)
  · refine G_iload_n 5 hC rfl dX11_run_5 ?_
    refine G_sipush 6 hC (nI 1000) (by decide) dX11_run_6 ?_
    refine G_icmp_le 9 14 hC dX11_run_9 (by decide) (fun h9 => ?_) (fun h9 => ?_)
    · refine G_aload_n 14 hC rfl dX11_run_14 ?_
      refine G_getR 15 hC fl_X11_39_10 (hX.sh) (hX.course) rfl dX11_run_15 ?_
      refine G_getI 18 hC fl_X11_57_0 (hB 0 _ rfl (by decide)) rfl dX11_run_18 ?_
      refine G_iconst 21 hC (nI 2) (by decide) dX11_run_21 ?_
      refine G_icmp_eq 22 36 hC dX11_run_22 (by decide) (fun h22 => ?_) (fun h22 => ?_)
      · refine G_bipush 36 hC (-2) (by decide) dX11_run_36 ?_
        refine R_i 38 hR (by first | rfl | exact narrow_bI _) dX11_run_38 (Nat.le_refl _) (Nat.le_refl _) ?_
        exact ⟨rfl, rfl, rfl, rfl⟩
      · refine G_aload_n 25 hC rfl dX11_run_25 ?_
        refine G_getR 26 hC fl_X11_39_10 (hX.sh) (hX.course) rfl dX11_run_26 ?_
        refine G_getI 29 hC fl_X11_57_0 (hB 0 _ rfl (by decide)) rfl dX11_run_29 ?_
        refine G_iconst 32 hC (nI 3) (by decide) dX11_run_32 ?_
        refine G_icmp_ne 33 39 hC dX11_run_33 (by decide) (fun h33 => ?_) (fun h33 => ?_)
        · exact absurd hst (fun y => y.elim h22 h33)
        · refine G_bipush 36 hC (-2) (by decide) dX11_run_36 ?_
          refine R_i 38 hR (by first | rfl | exact narrow_bI _) dX11_run_38 (Nat.le_refl _) (Nat.le_refl _) ?_
          exact ⟨rfl, rfl, rfl, rfl⟩
    · exact absurd hx.2 h9
theorem g_run_go (hX : FixX X P c d e N) (hK : FixC c P N) {x v : Int32} (hx : nI 1 ≤ x ∧ x ≤ nI 1000) (hst : ¬ I (c + 0) 16 = nI 2 ∧ ¬ I (c + 0) 16 = nI 3) (hM : Cq l D B mX0_goOn [vr (some (c + 0)), vi x] I L N (some (vi v)) I1 L1) : Cq l D B mX11_run [vr (some X), vi x] I L N (some (vi v)) I1 L1 := by
  have hB := hK.b
  refine Ct.of (M := mX11_run) (by decide) (Nat.le_of_ble_eq_true rfl) (fun g (hR : Cr l D B RX11 cX11_run 2 "run" { frames := 7, cells := 0, slots := 0, locals := 160 } (some .int) 0 0 _ g) => ?_)
  have hC := hR.cx
  show g 0 [some (vr (some X)), some (vi x)] [] _ _ N 0 0
  refine G_iload_n 0 hC rfl dX11_run_0 ?_
  refine G_iconst 1 hC (nI 1) (by decide) dX11_run_1 ?_
  refine G_icmp_lt 2 12 hC dX11_run_2 (by decide) (fun h2 => ?_) (fun h2 => ?_)
  · exact absurd h2 (Int32.not_lt.mpr hx.1)
  · refine G_iload_n 5 hC rfl dX11_run_5 ?_
    refine G_sipush 6 hC (nI 1000) (by decide) dX11_run_6 ?_
    refine G_icmp_le 9 14 hC dX11_run_9 (by decide) (fun h9 => ?_) (fun h9 => ?_)
    · refine G_aload_n 14 hC rfl dX11_run_14 ?_
      refine G_getR 15 hC fl_X11_39_10 (hX.sh) (hX.course) rfl dX11_run_15 ?_
      refine G_getI 18 hC fl_X11_57_0 (hB 0 _ rfl (by decide)) rfl dX11_run_18 ?_
      refine G_iconst 21 hC (nI 2) (by decide) dX11_run_21 ?_
      refine G_icmp_eq 22 36 hC dX11_run_22 (by decide) (fun h22 => ?_) (fun h22 => ?_)
      · exact absurd h22 hst.1
      · refine G_aload_n 25 hC rfl dX11_run_25 ?_
        refine G_getR 26 hC fl_X11_39_10 (hX.sh) (hX.course) rfl dX11_run_26 ?_
        refine G_getI 29 hC fl_X11_57_0 (hB 0 _ rfl (by decide)) rfl dX11_run_29 ?_
        refine G_iconst 32 hC (nI 3) (by decide) dX11_run_32 ?_
        refine G_icmp_ne 33 39 hC dX11_run_33 (by decide) (fun h33 => ?_) (fun h33 => ?_)
        · refine G_aload_n 39 hC rfl dX11_run_39 ?_
          refine G_getR 40 hC fl_X11_39_10 (hX.sh) (hX.course) rfl dX11_run_40 ?_
          refine G_iload_n 43 hC rfl dX11_run_43 ?_
          refine G_callV1 44 hC (hM) okX0_goOn lk_X11_170 (hB 0 _ rfl (by decide)) rfl rfl rfl rfl (Nat.le_of_ble_eq_true rfl) (by decide) (by decide) dX11_run_44 ?_
          refine R_i 47 hR (by first | rfl | exact narrow_bI _) dX11_run_47 (Nat.le_refl _) (Nat.le_refl _) ?_
          exact ⟨rfl, rfl, rfl, rfl⟩
        · exact absurd h33 hst.2
    · exact absurd hx.2 h9
theorem g_int_bad (hX : FixX X P c d e N) (hP : FixP c P N) {nt : Nat} {x : Int32} (hnt : I P 5 = nI nt) (hnt2 : nt ≤ 20) (hx : ¬ inR x nt) : Cq l D B mX11_interrupt [vr (some X), vi x] I L N (some (vi (-1))) I L := by
  refine Ct.of (M := mX11_interrupt) (by decide) (Nat.le_of_ble_eq_true rfl) (fun g (hR : Cr l D B RX11 cX11_interrupt 2 "interrupt" { frames := 4, cells := 0, slots := 0, locals := 87 } (some .int) 0 0 _ g) => ?_)
  have hC := hR.cx
  show g 0 [some (vr (some X)), some (vi x)] [] _ _ N 0 0
  refine G_aload_n 0 hC rfl dX11_interrupt_0 ?_
  refine G_iload_n 1 hC rfl dX11_interrupt_1 ?_
  refine G_callV1 2 hC (g_isTask hX hP hnt hnt2) okX11_isTask lk_X11_173 (hX.sh) rfl rfl rfl rfl (Nat.le_of_ble_eq_true rfl) (by decide) (by decide) dX11_interrupt_2 ?_
  first | refine G_if_ne_b 5 10 hC dX11_interrupt_5 (by decide) (fun h5 => ?_) (fun h5 => ?_) | refine G_if_ne 5 10 hC dX11_interrupt_5 (by decide) (fun h5 => ?_) (fun h5 => ?_)
  · exact absurd h5 hx
  · refine G_iconst 8 hC (-1) (by decide) dX11_interrupt_8 ?_
    refine R_i 9 hR (by first | rfl | exact narrow_bI _) dX11_interrupt_9 (Nat.le_refl _) (Nat.le_refl _) ?_
    exact ⟨rfl, rfl, rfl, rfl⟩
theorem g_int_state (hX : FixX X P c d e N) (hK : FixC c P N) (hP : FixP c P N) {nt : Nat} {x : Int32} (hnt : I P 5 = nI nt) (hnt2 : nt ≤ 20) (hx : inR x nt) (hst : ¬ I (c + 0) 16 = nI 1) : Cq l D B mX11_interrupt [vr (some X), vi x] I L N (some (vi (-2))) I L := by
  have hB := hK.b
  refine Ct.of (M := mX11_interrupt) (by decide) (Nat.le_of_ble_eq_true rfl) (fun g (hR : Cr l D B RX11 cX11_interrupt 2 "interrupt" { frames := 4, cells := 0, slots := 0, locals := 87 } (some .int) 0 0 _ g) => ?_)
  have hC := hR.cx
  show g 0 [some (vr (some X)), some (vi x)] [] _ _ N 0 0
  refine G_aload_n 0 hC rfl dX11_interrupt_0 ?_
  refine G_iload_n 1 hC rfl dX11_interrupt_1 ?_
  refine G_callV1 2 hC (g_isTask hX hP hnt hnt2) okX11_isTask lk_X11_173 (hX.sh) rfl rfl rfl rfl (Nat.le_of_ble_eq_true rfl) (by decide) (by decide) dX11_interrupt_2 ?_
  first | refine G_if_ne_b 5 10 hC dX11_interrupt_5 (by decide) (fun h5 => ?_) (fun h5 => ?_) | refine G_if_ne 5 10 hC dX11_interrupt_5 (by decide) (fun h5 => ?_) (fun h5 => ?_)
  · refine G_aload_n 10 hC rfl dX11_interrupt_10 ?_
    refine G_getR 11 hC fl_X11_39_10 (hX.sh) (hX.course) rfl dX11_interrupt_11 ?_
    refine G_getI 14 hC fl_X11_57_0 (hB 0 _ rfl (by decide)) rfl dX11_interrupt_14 ?_
    refine G_iconst 17 hC (nI 1) (by decide) dX11_interrupt_17 ?_
    refine G_icmp_eq 18 24 hC dX11_interrupt_18 (by decide) (fun h18 => ?_) (fun h18 => ?_)
    · exact absurd h18 hst
    · refine G_bipush 21 hC (-2) (by decide) dX11_interrupt_21 ?_
      refine R_i 23 hR (by first | rfl | exact narrow_bI _) dX11_interrupt_23 (Nat.le_refl _) (Nat.le_refl _) ?_
      exact ⟨rfl, rfl, rfl, rfl⟩
  · exact absurd hx h5
theorem g_int_go (hX : FixX X P c d e N) (hK : FixC c P N) (hP : FixP c P N) {nt : Nat} {x v : Int32} (hnt : I P 5 = nI nt) (hnt2 : nt ≤ 20) (hx : inR x nt) (hst : I (c + 0) 16 = nI 1) (hM : Cq l D B mX0_breakOff [vr (some (c + 0)), vi x] I L N (some (vi v)) I1 L1) : Cq l D B mX11_interrupt [vr (some X), vi x] I L N (some (vi v)) I1 L1 := by
  have hB := hK.b
  refine Ct.of (M := mX11_interrupt) (by decide) (Nat.le_of_ble_eq_true rfl) (fun g (hR : Cr l D B RX11 cX11_interrupt 2 "interrupt" { frames := 4, cells := 0, slots := 0, locals := 87 } (some .int) 0 0 _ g) => ?_)
  have hC := hR.cx
  show g 0 [some (vr (some X)), some (vi x)] [] _ _ N 0 0
  refine G_aload_n 0 hC rfl dX11_interrupt_0 ?_
  refine G_iload_n 1 hC rfl dX11_interrupt_1 ?_
  refine G_callV1 2 hC (g_isTask hX hP hnt hnt2) okX11_isTask lk_X11_173 (hX.sh) rfl rfl rfl rfl (Nat.le_of_ble_eq_true rfl) (by decide) (by decide) dX11_interrupt_2 ?_
  first | refine G_if_ne_b 5 10 hC dX11_interrupt_5 (by decide) (fun h5 => ?_) (fun h5 => ?_) | refine G_if_ne 5 10 hC dX11_interrupt_5 (by decide) (fun h5 => ?_) (fun h5 => ?_)
  · refine G_aload_n 10 hC rfl dX11_interrupt_10 ?_
    refine G_getR 11 hC fl_X11_39_10 (hX.sh) (hX.course) rfl dX11_interrupt_11 ?_
    refine G_getI 14 hC fl_X11_57_0 (hB 0 _ rfl (by decide)) rfl dX11_interrupt_14 ?_
    refine G_iconst 17 hC (nI 1) (by decide) dX11_interrupt_17 ?_
    refine G_icmp_eq 18 24 hC dX11_interrupt_18 (by decide) (fun h18 => ?_) (fun h18 => ?_)
    · refine G_aload_n 24 hC rfl dX11_interrupt_24 ?_
      refine G_getR 25 hC fl_X11_39_10 (hX.sh) (hX.course) rfl dX11_interrupt_25 ?_
      refine G_iload_n 28 hC rfl dX11_interrupt_28 ?_
      refine G_callV1 29 hC (hM) okX0_breakOff lk_X11_176 (hB 0 _ rfl (by decide)) rfl rfl rfl rfl (Nat.le_of_ble_eq_true rfl) (by decide) (by decide) dX11_interrupt_29 ?_
      refine R_i 32 hR (by first | rfl | exact narrow_bI _) dX11_interrupt_32 (Nat.le_refl _) (Nat.le_refl _) ?_
      exact ⟨rfl, rfl, rfl, rfl⟩
    · exact absurd hst h18
  · exact absurd hx h5
theorem g_close_state (hX : FixX X P c d e N) (hK : FixC c P N) (hst : ¬ I (c + 0) 16 = nI 1) : Cq l D B mX11_close [vr (some X)] I L N (some (vi (-2))) I L := by
  have hB := hK.b
  refine Ct.of (M := mX11_close) (by decide) (Nat.le_of_ble_eq_true rfl) (fun g (hR : Cr l D B RX11 cX11_close 1 "close" { frames := 3, cells := 0, slots := 0, locals := 68 } (some .int) 0 0 _ g) => ?_)
  have hC := hR.cx
  show g 0 [some (vr (some X))] [] _ _ N 0 0
  refine G_aload_n 0 hC rfl dX11_close_0 ?_
  refine G_getR 1 hC fl_X11_39_10 (hX.sh) (hX.course) rfl dX11_close_1 ?_
  refine G_getI 4 hC fl_X11_57_0 (hB 0 _ rfl (by decide)) rfl dX11_close_4 ?_
  refine G_iconst 7 hC (nI 1) (by decide) dX11_close_7 ?_
  refine G_icmp_ne 8 21 hC dX11_close_8 (by decide) (fun h8 => ?_) (fun h8 => ?_)
  · refine G_bipush 21 hC (-2) (by decide) dX11_close_21 ?_
    refine R_i 23 hR (by first | rfl | exact narrow_bI _) dX11_close_23 (Nat.le_refl _) (Nat.le_refl _) ?_
    exact ⟨rfl, rfl, rfl, rfl⟩
  · exact absurd h8 hst
theorem g_close_go (hX : FixX X P c d e N) (hK : FixC c P N) {v : Int32} (hst : I (c + 0) 16 = nI 1) (hM : Cq l D B mX0_stopAll [vr (some (c + 0))] I L N (some (vi v)) I1 L1) : Cq l D B mX11_close [vr (some X)] I L N (some (vi v)) I1 L1 := by
  have hB := hK.b
  refine Ct.of (M := mX11_close) (by decide) (Nat.le_of_ble_eq_true rfl) (fun g (hR : Cr l D B RX11 cX11_close 1 "close" { frames := 3, cells := 0, slots := 0, locals := 68 } (some .int) 0 0 _ g) => ?_)
  have hC := hR.cx
  show g 0 [some (vr (some X))] [] _ _ N 0 0
  refine G_aload_n 0 hC rfl dX11_close_0 ?_
  refine G_getR 1 hC fl_X11_39_10 (hX.sh) (hX.course) rfl dX11_close_1 ?_
  refine G_getI 4 hC fl_X11_57_0 (hB 0 _ rfl (by decide)) rfl dX11_close_4 ?_
  refine G_iconst 7 hC (nI 1) (by decide) dX11_close_7 ?_
  refine G_icmp_ne 8 21 hC dX11_close_8 (by decide) (fun h8 => ?_) (fun h8 => ?_)
  · exact absurd hst h8
  · refine G_aload_n 11 hC rfl dX11_close_11 ?_
    refine G_getR 12 hC fl_X11_39_10 (hX.sh) (hX.course) rfl dX11_close_12 ?_
    refine G_callV1 15 hC (hM) okX0_stopAll lk_X11_179 (hB 0 _ rfl (by decide)) rfl rfl rfl rfl (Nat.le_of_ble_eq_true rfl) (by decide) (by decide) dX11_close_15 ?_
    refine G_goto 18 23 hC dX11_close_18 (by decide) ?_
    refine R_i 23 hR (by first | rfl | exact narrow_bI _) dX11_close_23 (Nat.le_refl _) (Nat.le_refl _) ?_
    exact ⟨rfl, rfl, rfl, rfl⟩
theorem g_anew (hX : FixX X P c d e N) (hK : FixC c P N) (hP : FixP c P N) (hM : Cq l D B mX0_begin [vr (some (c + 0)), vi (I X 0)] I L N none I1 L1) : Cq l D B mX11_anew [vr (some X)] I L N (some (vi (I1 P 5))) I1 L1 := by
  have hB := hK.b
  refine Ct.of (M := mX11_anew) (by decide) (Nat.le_of_ble_eq_true rfl) (fun g (hR : Cr l D B RX11 cX11_anew 1 "anew" { frames := 2, cells := 0, slots := 0, locals := 44 } (some .int) 0 0 _ g) => ?_)
  have hC := hR.cx
  show g 0 [some (vr (some X))] [] _ _ N 0 0
  refine G_aload_n 0 hC rfl dX11_anew_0 ?_
  refine G_getR 1 hC fl_X11_39_10 (hX.sh) (hX.course) rfl dX11_anew_1 ?_
  refine G_aload_n 4 hC rfl dX11_anew_4 ?_
  refine G_getI 5 hC fl_X11_20_10 (hX.sh) rfl dX11_anew_5 ?_
  refine G_callV0 8 hC (hM) okX0_begin lk_X11_49 (hB 0 _ rfl (by decide)) rfl rfl rfl rfl (Nat.le_of_ble_eq_true rfl) (by decide) (by decide) dX11_anew_8 ?_
  refine G_aload_n 11 hC rfl dX11_anew_11 ?_
  refine G_getR 12 hC fl_X11_30_10 (hX.sh) (hX.plan) rfl dX11_anew_12 ?_
  refine G_getI 15 hC fl_X11_182_4 (hP.sh) rfl dX11_anew_15 ?_
  refine R_i 18 hR (by first | rfl | exact narrow_bI _) dX11_anew_18 (Nat.le_refl _) (Nat.le_refl _) ?_
  exact ⟨rfl, rfl, rfl, rfl⟩
theorem g_equal_bad {x : Int32} (hx : ¬ (nI 1 ≤ x ∧ x ≤ nI 6)) : Cq l D B mX11_equal [vr (some X), vi x] I L N (some (vi (-1))) I L := by
  refine Ct.of (M := mX11_equal) (by decide) (Nat.le_of_ble_eq_true rfl) (fun g (hR : Cr l D B RX11 cX11_equal 2 "equal" { frames := 7, cells := 0, slots := 0, locals := 160 } (some .int) 0 0 _ g) => ?_)
  have hC := hR.cx
  show g 0 [some (vr (some X)), some (vi x)] [] _ _ N 0 0
  refine G_iload_n 0 hC rfl dX11_equal_0 ?_
  refine G_iconst 1 hC (nI 1) (by decide) dX11_equal_1 ?_
  refine G_icmp_lt 2 11 hC dX11_equal_2 (by decide) (fun h2 => ?_) (fun h2 => ?_)
  · refine G_iconst 11 hC (-1) (by decide) dX11_equal_11 ?_
    refine R_i 12 hR (by first | rfl | exact narrow_bI _) dX11_equal_12 (Nat.le_refl _) (Nat.le_refl _) ?_
    exact ⟨rfl, rfl, rfl, rfl⟩
  · refine G_iload_n 5 hC rfl dX11_equal_5 ?_
    refine G_bipush 6 hC (nI 6) (by decide) dX11_equal_6 ?_
    refine G_icmp_le 8 13 hC dX11_equal_8 (by decide) (fun h8 => ?_) (fun h8 => ?_)
    · exact absurd ⟨Int32.not_lt.mp h2, h8⟩ hx
    · refine G_iconst 11 hC (-1) (by decide) dX11_equal_11 ?_
      refine R_i 12 hR (by first | rfl | exact narrow_bI _) dX11_equal_12 (Nat.le_refl _) (Nat.le_refl _) ?_
      exact ⟨rfl, rfl, rfl, rfl⟩
theorem g_equal_go (hX : FixX X P c d e N) (hD : FixC d P N) (hE : FixC e P N) {x v1 v2 : Int32} {p : Prop} [Decidable p] (hx : nI 1 ≤ x ∧ x ≤ nI 6) (hM1 : Cq l D B mX0_begin [vr (some (d + 0)), vi (nI 1)] I L N none I1 L1) (hM2 : Cq l D B mX0_goOn [vr (some (d + 0)), vi 1000000] I1 L1 N (some (vi v1)) I2 L2) (hM3 : Cq l D B mX0_begin [vr (some (e + 0)), vi x] I2 L2 N none I3 L3) (hM4 : Cq l D B mX0_goOn [vr (some (e + 0)), vi 1000000] I3 L3 N (some (vi v2)) I4 L4) (hM5 : Cq l D B mX0_foundAs [vr (some (e + 0)), vr (some (d + 0))] I4 L4 N (some (vi (bI p))) I4 L4) : Cq l D B mX11_equal [vr (some X), vi x] I L N (some (vi (bI p))) I4 L4 := by
  have hBd := hD.b
  have hBe := hE.b
  refine Ct.of (M := mX11_equal) (by decide) (Nat.le_of_ble_eq_true rfl) (fun g (hR : Cr l D B RX11 cX11_equal 2 "equal" { frames := 7, cells := 0, slots := 0, locals := 160 } (some .int) 0 0 _ g) => ?_)
  have hC := hR.cx
  show g 0 [some (vr (some X)), some (vi x)] [] _ _ N 0 0
  refine G_iload_n 0 hC rfl dX11_equal_0 ?_
  refine G_iconst 1 hC (nI 1) (by decide) dX11_equal_1 ?_
  refine G_icmp_lt 2 11 hC dX11_equal_2 (by decide) (fun h2 => ?_) (fun h2 => ?_)
  · exact absurd h2 (Int32.not_lt.mpr hx.1)
  · refine G_iload_n 5 hC rfl dX11_equal_5 ?_
    refine G_bipush 6 hC (nI 6) (by decide) dX11_equal_6 ?_
    refine G_icmp_le 8 13 hC dX11_equal_8 (by decide) (fun h8 => ?_) (fun h8 => ?_)
    · refine G_aload_n 13 hC rfl dX11_equal_13 ?_
      refine G_getR 14 hC fl_X11_43_10 (hX.sh) (hX.alone) rfl dX11_equal_14 ?_
      refine G_iconst 17 hC (nI 1) (by decide) dX11_equal_17 ?_
      refine G_callV0 18 hC (hM1) okX0_begin lk_X11_49 (hBd 0 _ rfl (by decide)) rfl rfl rfl rfl (Nat.le_of_ble_eq_true rfl) (by decide) (by decide) dX11_equal_18 ?_
      refine G_aload_n 21 hC rfl dX11_equal_21 ?_
      refine G_getR 22 hC fl_X11_43_10 (hX.sh) (hX.alone) rfl dX11_equal_22 ?_
      refine G_ldcw 25 hC kc_X11_265 dX11_equal_25 ?_
      refine G_callV1 28 hC (hM2) okX0_goOn lk_X11_170 (hBd 0 _ rfl (by decide)) rfl rfl rfl rfl (Nat.le_of_ble_eq_true rfl) (by decide) (by decide) dX11_equal_28 ?_
      refine G_pop 31 hC rfl dX11_equal_31 ?_
      refine G_aload_n 32 hC rfl dX11_equal_32 ?_
      refine G_getR 33 hC fl_X11_46_10 (hX.sh) (hX.tog) rfl dX11_equal_33 ?_
      refine G_iload_n 36 hC rfl dX11_equal_36 ?_
      refine G_callV0 37 hC (hM3) okX0_begin lk_X11_49 (hBe 0 _ rfl (by decide)) rfl rfl rfl rfl (Nat.le_of_ble_eq_true rfl) (by decide) (by decide) dX11_equal_37 ?_
      refine G_aload_n 40 hC rfl dX11_equal_40 ?_
      refine G_getR 41 hC fl_X11_46_10 (hX.sh) (hX.tog) rfl dX11_equal_41 ?_
      refine G_ldcw 44 hC kc_X11_265 dX11_equal_44 ?_
      refine G_callV1 47 hC (hM4) okX0_goOn lk_X11_170 (hBe 0 _ rfl (by decide)) rfl rfl rfl rfl (Nat.le_of_ble_eq_true rfl) (by decide) (by decide) dX11_equal_47 ?_
      refine G_pop 50 hC rfl dX11_equal_50 ?_
      refine G_aload_n 51 hC rfl dX11_equal_51 ?_
      refine G_getR 52 hC fl_X11_46_10 (hX.sh) (hX.tog) rfl dX11_equal_52 ?_
      refine G_aload_n 55 hC rfl dX11_equal_55 ?_
      refine G_getR 56 hC fl_X11_43_10 (hX.sh) (hX.alone) rfl dX11_equal_56 ?_
      refine G_callV1 59 hC (hM5) okX0_foundAs lk_X11_266 (hBe 0 _ rfl (by decide)) rfl rfl rfl rfl (Nat.le_of_ble_eq_true rfl) (by decide) (by decide) dX11_equal_59 ?_
      first | refine G_if_eq_b 62 69 hC dX11_equal_62 (by decide) (fun h62 => ?_) (fun h62 => ?_) | refine G_if_eq 62 69 hC dX11_equal_62 (by decide) (fun h62 => ?_) (fun h62 => ?_)
      · refine G_iconst 69 hC (nI 0) (by decide) dX11_equal_69 ?_
        refine R_i 70 hR (by first | rfl | exact narrow_bI _) dX11_equal_70 (Nat.le_refl _) (Nat.le_refl _) ?_
        refine ⟨congrArg (fun z => some (vi z)) ?_, rfl, rfl, rfl⟩
        first | exact bI_t h62 | exact bI_f h62
      · refine G_iconst 65 hC (nI 1) (by decide) dX11_equal_65 ?_
        refine G_goto 66 70 hC dX11_equal_66 (by decide) ?_
        refine R_i 70 hR (by first | rfl | exact narrow_bI _) dX11_equal_70 (Nat.le_refl _) (Nat.le_refl _) ?_
        refine ⟨congrArg (fun z => some (vi z)) ?_, rfl, rfl, rfl⟩
        first | exact bI_t h62 | exact bI_f h62
    · exact absurd hx.2 h8
end G5

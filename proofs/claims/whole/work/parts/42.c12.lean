/-! ===== the class: a turn; a task is broken off ===== -/
theorem hasy2 {x : Int32} {z : Nat} (hz : z ≤ 20) (h1 : ¬ x < 0) (h : ¬ nI z ≤ x) : inR x z := by
  rw [Int32.lt_iff_toInt_lt, Int32.toInt_zero] at h1
  rw [Int32.le_iff_toInt_le, nI_toInt (by omega)] at h
  exact ⟨by omega, by omega⟩
section C12
variable {l : Launch} {D : va_G} {B c P : Nat} {N : NT} {k G k2 k3 : MI} {kl GL kl2 : ML} {I : MI} {L L2 : ML}
theorem c_give_take (hX : FixC c P N) {th : Nat} (hth : th < 6) (hh : k 4 th = -9) (hM : Cq l D B mX0_takeNext [vr (some (c + 0)), vi (nI th)] (pt c 35 (upd2 k 0 13 (k 0 13 + nI 1)) G) L N none (pt c 35 k2 G) L2) (hle : ¬ k2 0 17 < k 0 17) : Cq l D B mX0_giveTurn [vr (some (c + 0)), vi (nI th)] (pt c 35 k G) L N none (pt c 35 k2 G) L2 := by
  have hB := hX.b
  refine Ct.of (M := mX0_giveTurn) (by decide) (Nat.le_of_ble_eq_true rfl) (fun g (hR : Cr l D B RX0 cX0_giveTurn 3 "giveTurn" { frames := 5, cells := 0, slots := 0, locals := 116 } none 0 0 _ g) => ?_)
  have hC := hR.cx
  show g 0 [some (vr (some (c + 0))), some (vi (nI th)), none] [] _ _ N 0 0
  refine G_aload_n 0 hC rfl dX0_giveTurn_0 ?_
  refine G_dup 1 hC rfl dX0_giveTurn_1 ?_
  refine B_getI 2 hC hB (rfl) fl_X0_84_0 rfl dX0_giveTurn_2 ?_
  refine G_iconst 5 hC (nI 1) (by decide) dX0_giveTurn_5 ?_
  refine G_iadd 6 hC dX0_giveTurn_6 ?_
  refine B_putI 7 hC hB (rfl) (fp_X0_84_0 _) rfl rfl rfl dX0_giveTurn_7 ?_
  refine G_aload_n 10 hC rfl dX0_giveTurn_10 ?_
  refine B_getI 11 hC hB (rfl) fl_X0_96_0 rfl dX0_giveTurn_11 ?_
  refine G_istore_n 14 hC 2 rfl (by decide) (ls' := [_, _, _]) rfl dX0_giveTurn_14 ?_
  refine G_aload_n 15 hC rfl dX0_giveTurn_15 ?_
  refine G_getR 16 hC fl_X0_28_0 (hB _ _ (rfl) (by decide)) (hX.held) rfl dX0_giveTurn_16 ?_
  refine G_iload_n 19 hC rfl dX0_giveTurn_19 ?_
  refine B_iald 20 hC hB (rfl) (by decide) (rfl) (by omega) dX0_giveTurn_20 ?_
  rw [show upd2 k 0 13 (k 0 13 + nI 1) 4 th = -9 from hh]
  refine G_bipush 21 hC (-9) (by decide) dX0_giveTurn_21 ?_
  refine G_icmp_ne 23 34 hC dX0_giveTurn_23 (by decide) (fun h23 => ?_) (fun h23 => ?_)
  · exact absurd rfl h23
  · refine G_aload_n 26 hC rfl dX0_giveTurn_26 ?_
    refine G_iload_n 27 hC rfl dX0_giveTurn_27 ?_
    refine G_callV0 28 hC (hM) okX0_takeNext lk_X0_122 (hB _ _ (rfl) (by decide)) rfl rfl rfl rfl (Nat.le_of_ble_eq_true rfl) (by decide) (by decide) dX0_giveTurn_28 ?_
    refine G_goto 31 45 hC dX0_giveTurn_31 (by decide) ?_
    refine G_aload_n 45 hC rfl dX0_giveTurn_45 ?_
    refine B_getI 46 hC hB (rfl) fl_X0_96_0 rfl dX0_giveTurn_46 ?_
    refine G_iload_n 49 hC rfl dX0_giveTurn_49 ?_
    refine G_icmp_ge 50 57 hC dX0_giveTurn_50 (by decide) (fun h50 => ?_) (fun h50 => ?_)
    · refine R_v 57 hR dX0_giveTurn_57 (Nat.le_refl _) (Nat.le_refl _) ?_
      exact ⟨rfl, rfl, rfl, rfl⟩
    · exact absurd (Int32.not_le.mp h50) hle
theorem c_give_go (hX : FixC c P N) {th t : Nat} (hth : th < 6) (ht : t < 20) (hh : k 4 th = nI t) (hM : Cq l D B mX0_goOnWith [vr (some (c + 0)), vi (nI t), vi (nI th)] (pt c 35 (upd2 k 0 13 (k 0 13 + nI 1)) G) L N none (pt c 35 k2 G) L2) (hle : ¬ k2 0 17 < k 0 17) : Cq l D B mX0_giveTurn [vr (some (c + 0)), vi (nI th)] (pt c 35 k G) L N none (pt c 35 k2 G) L2 := by
  have hB := hX.b
  refine Ct.of (M := mX0_giveTurn) (by decide) (Nat.le_of_ble_eq_true rfl) (fun g (hR : Cr l D B RX0 cX0_giveTurn 3 "giveTurn" { frames := 5, cells := 0, slots := 0, locals := 116 } none 0 0 _ g) => ?_)
  have hC := hR.cx
  show g 0 [some (vr (some (c + 0))), some (vi (nI th)), none] [] _ _ N 0 0
  refine G_aload_n 0 hC rfl dX0_giveTurn_0 ?_
  refine G_dup 1 hC rfl dX0_giveTurn_1 ?_
  refine B_getI 2 hC hB (rfl) fl_X0_84_0 rfl dX0_giveTurn_2 ?_
  refine G_iconst 5 hC (nI 1) (by decide) dX0_giveTurn_5 ?_
  refine G_iadd 6 hC dX0_giveTurn_6 ?_
  refine B_putI 7 hC hB (rfl) (fp_X0_84_0 _) rfl rfl rfl dX0_giveTurn_7 ?_
  refine G_aload_n 10 hC rfl dX0_giveTurn_10 ?_
  refine B_getI 11 hC hB (rfl) fl_X0_96_0 rfl dX0_giveTurn_11 ?_
  refine G_istore_n 14 hC 2 rfl (by decide) (ls' := [_, _, _]) rfl dX0_giveTurn_14 ?_
  refine G_aload_n 15 hC rfl dX0_giveTurn_15 ?_
  refine G_getR 16 hC fl_X0_28_0 (hB _ _ (rfl) (by decide)) (hX.held) rfl dX0_giveTurn_16 ?_
  refine G_iload_n 19 hC rfl dX0_giveTurn_19 ?_
  refine B_iald 20 hC hB (rfl) (by decide) (rfl) (by omega) dX0_giveTurn_20 ?_
  rw [show upd2 k 0 13 (k 0 13 + nI 1) 4 th = nI t from hh]
  refine G_bipush 21 hC (-9) (by decide) dX0_giveTurn_21 ?_
  refine G_icmp_ne 23 34 hC dX0_giveTurn_23 (by decide) (fun h23 => ?_) (fun h23 => ?_)
  · refine G_aload_n 34 hC rfl dX0_giveTurn_34 ?_
    refine G_aload_n 35 hC rfl dX0_giveTurn_35 ?_
    refine G_getR 36 hC fl_X0_28_0 (hB _ _ (rfl) (by decide)) (hX.held) rfl dX0_giveTurn_36 ?_
    refine G_iload_n 39 hC rfl dX0_giveTurn_39 ?_
    refine B_iald 40 hC hB (rfl) (by decide) (rfl) (by omega) dX0_giveTurn_40 ?_
    rw [show upd2 k 0 13 (k 0 13 + nI 1) 4 th = nI t from hh]
    refine G_iload_n 41 hC rfl dX0_giveTurn_41 ?_
    refine G_callV0 42 hC (hM) okX0_goOnWith lk_X0_125 (hB _ _ (rfl) (by decide)) rfl rfl rfl rfl (Nat.le_of_ble_eq_true rfl) (by decide) (by decide) dX0_giveTurn_42 ?_
    refine G_aload_n 45 hC rfl dX0_giveTurn_45 ?_
    refine B_getI 46 hC hB (rfl) fl_X0_96_0 rfl dX0_giveTurn_46 ?_
    refine G_iload_n 49 hC rfl dX0_giveTurn_49 ?_
    refine G_icmp_ge 50 57 hC dX0_giveTurn_50 (by decide) (fun h50 => ?_) (fun h50 => ?_)
    · refine R_v 57 hR dX0_giveTurn_57 (Nat.le_refl _) (Nat.le_refl _) ?_
      exact ⟨rfl, rfl, rfl, rfl⟩
    · exact absurd (Int32.not_le.mp h50) hle
  · exact absurd h23 (nI_ne9 (by omega))
theorem c_give_look (hX : FixC c P N) {th t : Nat} (hth : th < 6) (ht : t < 20) (hh : k 4 th = nI t) (hM : Cq l D B mX0_goOnWith [vr (some (c + 0)), vi (nI t), vi (nI th)] (pt c 35 (upd2 k 0 13 (k 0 13 + nI 1)) G) L N none (pt c 35 k2 G) L2) (hle : k2 0 17 < k 0 17) (hL : Cq l D B mX0_lookWhatIsTaken [vr (some (c + 0))] (pt c 35 k2 G) L2 N none (pt c 35 k3 G) L2) : Cq l D B mX0_giveTurn [vr (some (c + 0)), vi (nI th)] (pt c 35 k G) L N none (pt c 35 k3 G) L2 := by
  have hB := hX.b
  refine Ct.of (M := mX0_giveTurn) (by decide) (Nat.le_of_ble_eq_true rfl) (fun g (hR : Cr l D B RX0 cX0_giveTurn 3 "giveTurn" { frames := 5, cells := 0, slots := 0, locals := 116 } none 0 0 _ g) => ?_)
  have hC := hR.cx
  show g 0 [some (vr (some (c + 0))), some (vi (nI th)), none] [] _ _ N 0 0
  refine G_aload_n 0 hC rfl dX0_giveTurn_0 ?_
  refine G_dup 1 hC rfl dX0_giveTurn_1 ?_
  refine B_getI 2 hC hB (rfl) fl_X0_84_0 rfl dX0_giveTurn_2 ?_
  refine G_iconst 5 hC (nI 1) (by decide) dX0_giveTurn_5 ?_
  refine G_iadd 6 hC dX0_giveTurn_6 ?_
  refine B_putI 7 hC hB (rfl) (fp_X0_84_0 _) rfl rfl rfl dX0_giveTurn_7 ?_
  refine G_aload_n 10 hC rfl dX0_giveTurn_10 ?_
  refine B_getI 11 hC hB (rfl) fl_X0_96_0 rfl dX0_giveTurn_11 ?_
  refine G_istore_n 14 hC 2 rfl (by decide) (ls' := [_, _, _]) rfl dX0_giveTurn_14 ?_
  refine G_aload_n 15 hC rfl dX0_giveTurn_15 ?_
  refine G_getR 16 hC fl_X0_28_0 (hB _ _ (rfl) (by decide)) (hX.held) rfl dX0_giveTurn_16 ?_
  refine G_iload_n 19 hC rfl dX0_giveTurn_19 ?_
  refine B_iald 20 hC hB (rfl) (by decide) (rfl) (by omega) dX0_giveTurn_20 ?_
  rw [show upd2 k 0 13 (k 0 13 + nI 1) 4 th = nI t from hh]
  refine G_bipush 21 hC (-9) (by decide) dX0_giveTurn_21 ?_
  refine G_icmp_ne 23 34 hC dX0_giveTurn_23 (by decide) (fun h23 => ?_) (fun h23 => ?_)
  · refine G_aload_n 34 hC rfl dX0_giveTurn_34 ?_
    refine G_aload_n 35 hC rfl dX0_giveTurn_35 ?_
    refine G_getR 36 hC fl_X0_28_0 (hB _ _ (rfl) (by decide)) (hX.held) rfl dX0_giveTurn_36 ?_
    refine G_iload_n 39 hC rfl dX0_giveTurn_39 ?_
    refine B_iald 40 hC hB (rfl) (by decide) (rfl) (by omega) dX0_giveTurn_40 ?_
    rw [show upd2 k 0 13 (k 0 13 + nI 1) 4 th = nI t from hh]
    refine G_iload_n 41 hC rfl dX0_giveTurn_41 ?_
    refine G_callV0 42 hC (hM) okX0_goOnWith lk_X0_125 (hB _ _ (rfl) (by decide)) rfl rfl rfl rfl (Nat.le_of_ble_eq_true rfl) (by decide) (by decide) dX0_giveTurn_42 ?_
    refine G_aload_n 45 hC rfl dX0_giveTurn_45 ?_
    refine B_getI 46 hC hB (rfl) fl_X0_96_0 rfl dX0_giveTurn_46 ?_
    refine G_iload_n 49 hC rfl dX0_giveTurn_49 ?_
    refine G_icmp_ge 50 57 hC dX0_giveTurn_50 (by decide) (fun h50 => ?_) (fun h50 => ?_)
    · exact absurd hle (Int32.not_lt.mpr h50)
    · refine G_aload_n 53 hC rfl dX0_giveTurn_53 ?_
      refine G_callV0 54 hC (hL) okX0_lookWhatIsTaken lk_X0_129 (hB _ _ (rfl) (by decide)) rfl rfl rfl rfl (Nat.le_of_ble_eq_true rfl) (by decide) (by decide) dX0_giveTurn_54 ?_
      refine R_v 57 hR dX0_giveTurn_57 (Nat.le_refl _) (Nat.le_refl _) ?_
      exact ⟨rfl, rfl, rfl, rfl⟩
  · exact absurd h23 (nI_ne9 (by omega))
theorem c_break_no (hX : FixC c P N) {t : Nat} (ht : t < 20) (hno : ¬ (k (7 + t) 0 = 0 ∨ k (7 + t) 0 = nI 1)) : Cq l D B mX0_breakOff [vr (some (c + 0)), vi (nI t)] (pt c 35 k G) L N (some (vi (nI 0))) (pt c 35 k G) L := by
  have hB := hX.b
  refine Ct.of (M := mX0_breakOff) (by decide) (Nat.le_of_ble_eq_true rfl) (fun g (hR : Cr l D B RX0 cX0_breakOff 3 "breakOff" { frames := 3, cells := 0, slots := 0, locals := 65 } (some .int) 0 0 _ g) => ?_)
  have hC := hR.cx
  show g 0 [some (vr (some (c + 0))), some (vi (nI t)), none] [] _ _ N 0 0
  refine G_aload_n 0 hC rfl dX0_breakOff_0 ?_
  refine G_getR 1 hC fl_X0_11_0 (hB _ _ (rfl) (by decide)) (hX.works) rfl dX0_breakOff_1 ?_
  refine G_iload_n 4 hC rfl dX0_breakOff_4 ?_
  refine G_aald 5 hC (hB _ _ (rfl) (by decide)) (by decide) (by decide) (rfl) (by omega) (by omega) (hX.wk (by omega)) dX0_breakOff_5 ?_
  refine G_astore_n 6 hC 2 rfl (by decide) (ls' := [_, _, _]) rfl dX0_breakOff_6 ?_
  refine G_aload_n 7 hC rfl dX0_breakOff_7 ?_
  refine G_callV1 8 hC (c_isLeft hB (shC_w (by omega))) okX10_isLeft lk_X0_188 (hB _ _ (shC_w (by omega)) (by decide)) rfl rfl rfl rfl (Nat.le_of_ble_eq_true rfl) (by decide) (by decide) dX0_breakOff_8 ?_
  first | refine G_if_ne_b 11 16 hC dX0_breakOff_11 (by decide) (fun h11 => ?_) (fun h11 => ?_) | refine G_if_ne 11 16 hC dX0_breakOff_11 (by decide) (fun h11 => ?_) (fun h11 => ?_)
  · exact absurd h11 hno
  · refine G_iconst 14 hC (nI 0) (by decide) dX0_breakOff_14 ?_
    refine R_i 15 hR (by first | rfl | exact narrow_bI _) dX0_breakOff_15 (Nat.le_refl _) (Nat.le_refl _) ?_
    exact ⟨rfl, rfl, rfl, rfl⟩
theorem c_break_wait (hX : FixC c P N) {t : Nat} (ht : t < 20) (hw : k (7 + t) 0 = 0) (hL : Cq l D B mX0_lookWhatIsTaken [vr (some (c + 0))] (pt c 35 (W_ew k t (nI 6)) G) L N none (pt c 35 k3 G) L) : Cq l D B mX0_breakOff [vr (some (c + 0)), vi (nI t)] (pt c 35 k G) L N (some (vi (nI 1))) (pt c 35 k3 G) L := by
  have hB := hX.b
  refine Ct.of (M := mX0_breakOff) (by decide) (Nat.le_of_ble_eq_true rfl) (fun g (hR : Cr l D B RX0 cX0_breakOff 3 "breakOff" { frames := 3, cells := 0, slots := 0, locals := 65 } (some .int) 0 0 _ g) => ?_)
  have hC := hR.cx
  show g 0 [some (vr (some (c + 0))), some (vi (nI t)), none] [] _ _ N 0 0
  refine G_aload_n 0 hC rfl dX0_breakOff_0 ?_
  refine G_getR 1 hC fl_X0_11_0 (hB _ _ (rfl) (by decide)) (hX.works) rfl dX0_breakOff_1 ?_
  refine G_iload_n 4 hC rfl dX0_breakOff_4 ?_
  refine G_aald 5 hC (hB _ _ (rfl) (by decide)) (by decide) (by decide) (rfl) (by omega) (by omega) (hX.wk (by omega)) dX0_breakOff_5 ?_
  refine G_astore_n 6 hC 2 rfl (by decide) (ls' := [_, _, _]) rfl dX0_breakOff_6 ?_
  refine G_aload_n 7 hC rfl dX0_breakOff_7 ?_
  refine G_callV1 8 hC (c_isLeft hB (shC_w (by omega))) okX10_isLeft lk_X0_188 (hB _ _ (shC_w (by omega)) (by decide)) rfl rfl rfl rfl (Nat.le_of_ble_eq_true rfl) (by decide) (by decide) dX0_breakOff_8 ?_
  first | refine G_if_ne_b 11 16 hC dX0_breakOff_11 (by decide) (fun h11 => ?_) (fun h11 => ?_) | refine G_if_ne 11 16 hC dX0_breakOff_11 (by decide) (fun h11 => ?_) (fun h11 => ?_)
  · refine G_aload_n 16 hC rfl dX0_breakOff_16 ?_
    refine B_getI 17 hC hB (shC_w (by omega)) fl_X0_135_9 rfl dX0_breakOff_17 ?_
    first | refine G_if_ne_b 20 37 hC dX0_breakOff_20 (by decide) (fun h20 => ?_) (fun h20 => ?_) | refine G_if_ne 20 37 hC dX0_breakOff_20 (by decide) (fun h20 => ?_) (fun h20 => ?_)
    · exact absurd hw h20
    · refine G_aload_n 23 hC rfl dX0_breakOff_23 ?_
      refine G_iload_n 24 hC rfl dX0_breakOff_24 ?_
      refine G_bipush 25 hC (nI 6) (by decide) dX0_breakOff_25 ?_
      refine G_callV0 27 hC (c_endWaiting hX (by omega)) okX0_endWaiting lk_X0_194 (hB _ _ (rfl) (by decide)) rfl rfl rfl rfl (Nat.le_of_ble_eq_true rfl) (by decide) (by decide) dX0_breakOff_27 ?_
      refine G_aload_n 30 hC rfl dX0_breakOff_30 ?_
      refine G_callV0 31 hC (hL) okX0_lookWhatIsTaken lk_X0_129 (hB _ _ (rfl) (by decide)) rfl rfl rfl rfl (Nat.le_of_ble_eq_true rfl) (by decide) (by decide) dX0_breakOff_31 ?_
      refine G_goto 34 42 hC dX0_breakOff_34 (by decide) ?_
      refine G_iconst 42 hC (nI 1) (by decide) dX0_breakOff_42 ?_
      refine R_i 43 hR (by first | rfl | exact narrow_bI _) dX0_breakOff_43 (Nat.le_refl _) (Nat.le_refl _) ?_
      exact ⟨rfl, rfl, rfl, rfl⟩
  · exact absurd (Or.inl hw) h11
theorem c_break_go (hX : FixC c P N) {t : Nat} (ht : t < 20) (hw : k (7 + t) 0 = nI 1) : Cq l D B mX0_breakOff [vr (some (c + 0)), vi (nI t)] (pt c 35 k G) L N (some (vi (nI 1))) (pt c 35 (upd2 k (7 + t) 12 (nI 1)) G) L := by
  have hB := hX.b
  refine Ct.of (M := mX0_breakOff) (by decide) (Nat.le_of_ble_eq_true rfl) (fun g (hR : Cr l D B RX0 cX0_breakOff 3 "breakOff" { frames := 3, cells := 0, slots := 0, locals := 65 } (some .int) 0 0 _ g) => ?_)
  have hC := hR.cx
  show g 0 [some (vr (some (c + 0))), some (vi (nI t)), none] [] _ _ N 0 0
  refine G_aload_n 0 hC rfl dX0_breakOff_0 ?_
  refine G_getR 1 hC fl_X0_11_0 (hB _ _ (rfl) (by decide)) (hX.works) rfl dX0_breakOff_1 ?_
  refine G_iload_n 4 hC rfl dX0_breakOff_4 ?_
  refine G_aald 5 hC (hB _ _ (rfl) (by decide)) (by decide) (by decide) (rfl) (by omega) (by omega) (hX.wk (by omega)) dX0_breakOff_5 ?_
  refine G_astore_n 6 hC 2 rfl (by decide) (ls' := [_, _, _]) rfl dX0_breakOff_6 ?_
  refine G_aload_n 7 hC rfl dX0_breakOff_7 ?_
  refine G_callV1 8 hC (c_isLeft hB (shC_w (by omega))) okX10_isLeft lk_X0_188 (hB _ _ (shC_w (by omega)) (by decide)) rfl rfl rfl rfl (Nat.le_of_ble_eq_true rfl) (by decide) (by decide) dX0_breakOff_8 ?_
  first | refine G_if_ne_b 11 16 hC dX0_breakOff_11 (by decide) (fun h11 => ?_) (fun h11 => ?_) | refine G_if_ne 11 16 hC dX0_breakOff_11 (by decide) (fun h11 => ?_) (fun h11 => ?_)
  · refine G_aload_n 16 hC rfl dX0_breakOff_16 ?_
    refine B_getI 17 hC hB (shC_w (by omega)) fl_X0_135_9 rfl dX0_breakOff_17 ?_
    first | refine G_if_ne_b 20 37 hC dX0_breakOff_20 (by decide) (fun h20 => ?_) (fun h20 => ?_) | refine G_if_ne 20 37 hC dX0_breakOff_20 (by decide) (fun h20 => ?_) (fun h20 => ?_)
    · refine G_aload_n 37 hC rfl dX0_breakOff_37 ?_
      refine G_iconst 38 hC (nI 1) (by decide) dX0_breakOff_38 ?_
      refine B_putI 39 hC hB (shC_w (by omega)) (fp_X0_164_9 _) rfl (by first | rfl | decide) (by first | rfl | decide) dX0_breakOff_39 ?_
      refine G_iconst 42 hC (nI 1) (by decide) dX0_breakOff_42 ?_
      refine R_i 43 hR (by first | rfl | exact narrow_bI _) dX0_breakOff_43 (Nat.le_refl _) (Nat.le_refl _) ?_
      exact ⟨rfl, rfl, rfl, rfl⟩
    · exact absurd (hw.symm.trans h20) (by decide)
  · exact absurd (Or.inr hw) h11
end C12

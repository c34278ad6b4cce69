/-! ===== the class itself: lay, grid, tasks, runs ===== -/
section G4
variable {l : Launch} {D : va_G} {B X P c d e : Nat} {N : NT} {I : MI} {L : ML}
theorem g_lay_bad (hX : FixX X P c d e N) (hP : FixP c P N) {ng : Nat} (hng : I P 4 = nI ng) (hng2 : ng ≤ 6) (hGr : GrP N P ng) {x y f w : Int32} (hb : ¬ (inR x ng ∧ inR f ng)) : Cq l D B mX11_lay [vr (some X), vi x, vi y, vi f, vi w] I L N (some (vi (-1))) I L := by
  refine Ct.of (M := mX11_lay) (by decide) (Nat.le_of_ble_eq_true rfl) (fun g (hR : Cr l D B RX11 cX11_lay 8 "lay" { frames := 1, cells := 0, slots := 0, locals := 21 } (some .int) 0 0 _ g) => ?_)
  have hC := hR.cx
  show g 0 [some (vr (some X)), some (vi x), some (vi y), some (vi f), some (vi w), none, none, none] [] _ _ N 0 0
  refine G_aload_n 0 hC rfl dX11_lay_0 ?_
  refine G_getR 1 hC fl_X11_30_10 (hX.sh) (hX.plan) rfl dX11_lay_1 ?_
  refine G_iload_n 4 hC rfl dX11_lay_4 ?_
  by_cases hx : inR x ng
  · obtain ⟨g0, hg0, rfl⟩ := inR_of hx (by omega)
    obtain ⟨ga, la, z, hG⟩ := hGr g0 hg0
    refine G_callV1 5 hC (c_gridAt hP.sh hP.rgr hP.gr hng hng2 hg0) okX4_gridAt lk_X11_84 (hP.sh) rfl rfl rfl rfl (Nat.le_of_ble_eq_true rfl) (by decide) (by decide) dX11_lay_5 ?_
    rw [hG.1]
    refine G_astore 8 hC (by decide) (ls' := [_, _, _, _, _, _, _, _]) rfl dX11_lay_8 ?_
    refine G_aload_n 10 hC rfl dX11_lay_10 ?_
    refine G_getR 11 hC fl_X11_30_10 (hX.sh) (hX.plan) rfl dX11_lay_11 ?_
    refine G_iload_n 14 hC rfl dX11_lay_14 ?_
    by_cases hf : inR f ng
    · obtain ⟨f0, hf0, rfl⟩ := inR_of hf (by omega)
      obtain ⟨fa, lf, zf, hH⟩ := hGr f0 hf0
      refine G_callV1 15 hC (c_gridAt hP.sh hP.rgr hP.gr hng hng2 hf0) okX4_gridAt lk_X11_84 (hP.sh) rfl rfl rfl rfl (Nat.le_of_ble_eq_true rfl) (by decide) (by decide) dX11_lay_15 ?_
      rw [hH.1]
      refine G_astore 18 hC (by decide) (ls' := [_, _, _, _, _, _, _, _]) rfl dX11_lay_18 ?_
      refine G_aload 20 hC rfl dX11_lay_20 ?_
      refine G_ifnull 22 30 hC dX11_lay_22 (by decide) (fun h22 => ?_) (fun a22 h22 => ?_)
      · exact absurd h22 (by simp)
      · refine G_aload 25 hC rfl dX11_lay_25 ?_
        refine G_ifnonnull 27 32 hC dX11_lay_27 (by decide) (fun h27 => ?_) (fun a27 h27 => ?_)
        · exact absurd h27 (by simp)
        · exact absurd ⟨hx, hf⟩ hb
    · refine G_callV1 15 hC (c_gridAt_no hP.sh hP.rgr hP.gr hng hng2 hf) okX4_gridAt lk_X11_84 (hP.sh) rfl rfl rfl rfl (Nat.le_of_ble_eq_true rfl) (by decide) (by decide) dX11_lay_15 ?_
      refine G_astore 18 hC (by decide) (ls' := [_, _, _, _, _, _, _, _]) rfl dX11_lay_18 ?_
      refine G_aload 20 hC rfl dX11_lay_20 ?_
      refine G_ifnull 22 30 hC dX11_lay_22 (by decide) (fun h22 => ?_) (fun a22 h22 => ?_)
      · exact absurd h22 (by simp)
      · refine G_aload 25 hC rfl dX11_lay_25 ?_
        refine G_ifnonnull 27 32 hC dX11_lay_27 (by decide) (fun h27 => ?_) (fun a27 h27 => ?_)
        · refine G_iconst 30 hC (-1) (by decide) dX11_lay_30 ?_
          refine R_i 31 hR (by first | rfl | exact narrow_bI _) dX11_lay_31 (Nat.le_refl _) (Nat.le_refl _) ?_
          exact ⟨rfl, rfl, rfl, rfl⟩
        · cases h27
  · refine G_callV1 5 hC (c_gridAt_no hP.sh hP.rgr hP.gr hng hng2 hx) okX4_gridAt lk_X11_84 (hP.sh) rfl rfl rfl rfl (Nat.le_of_ble_eq_true rfl) (by decide) (by decide) dX11_lay_5 ?_
    refine G_astore 8 hC (by decide) (ls' := [_, _, _, _, _, _, _, _]) rfl dX11_lay_8 ?_
    refine G_aload_n 10 hC rfl dX11_lay_10 ?_
    refine G_getR 11 hC fl_X11_30_10 (hX.sh) (hX.plan) rfl dX11_lay_11 ?_
    refine G_iload_n 14 hC rfl dX11_lay_14 ?_
    by_cases hf : inR f ng
    · obtain ⟨f0, hf0, rfl⟩ := inR_of hf (by omega)
      obtain ⟨fa, lf, zf, hH⟩ := hGr f0 hf0
      refine G_callV1 15 hC (c_gridAt hP.sh hP.rgr hP.gr hng hng2 hf0) okX4_gridAt lk_X11_84 (hP.sh) rfl rfl rfl rfl (Nat.le_of_ble_eq_true rfl) (by decide) (by decide) dX11_lay_15 ?_
      rw [hH.1]
      refine G_astore 18 hC (by decide) (ls' := [_, _, _, _, _, _, _, _]) rfl dX11_lay_18 ?_
      refine G_aload 20 hC rfl dX11_lay_20 ?_
      refine G_ifnull 22 30 hC dX11_lay_22 (by decide) (fun h22 => ?_) (fun a22 h22 => ?_)
      · refine G_iconst 30 hC (-1) (by decide) dX11_lay_30 ?_
        refine R_i 31 hR (by first | rfl | exact narrow_bI _) dX11_lay_31 (Nat.le_refl _) (Nat.le_refl _) ?_
        exact ⟨rfl, rfl, rfl, rfl⟩
      · cases h22
    · refine G_callV1 15 hC (c_gridAt_no hP.sh hP.rgr hP.gr hng hng2 hf) okX4_gridAt lk_X11_84 (hP.sh) rfl rfl rfl rfl (Nat.le_of_ble_eq_true rfl) (by decide) (by decide) dX11_lay_15 ?_
      refine G_astore 18 hC (by decide) (ls' := [_, _, _, _, _, _, _, _]) rfl dX11_lay_18 ?_
      refine G_aload 20 hC rfl dX11_lay_20 ?_
      refine G_ifnull 22 30 hC dX11_lay_22 (by decide) (fun h22 => ?_) (fun a22 h22 => ?_)
      · refine G_iconst 30 hC (-1) (by decide) dX11_lay_30 ?_
        refine R_i 31 hR (by first | rfl | exact narrow_bI _) dX11_lay_31 (Nat.le_refl _) (Nat.le_refl _) ?_
        exact ⟨rfl, rfl, rfl, rfl⟩
      · cases h22
theorem g_lay_state (hX : FixX X P c d e N) (hK : FixC c P N) (hP : FixP c P N) {ng : Nat} (hng : I P 4 = nI ng) (hng2 : ng ≤ 6) {g0 ga la z f0 fa lf zf : Nat} (hg : g0 < ng) (hG : GrA N P g0 ga la z) (hf : f0 < ng) (hH : GrA N P f0 fa lf zf) {y w : Int32} (hst : I (c + 0) 16 = nI 1) : Cq l D B mX11_lay [vr (some X), vi (nI g0), vi y, vi (nI f0), vi w] I L N (some (vi (-2))) I L := by
  have hB := hK.b
  refine Ct.of (M := mX11_lay) (by decide) (Nat.le_of_ble_eq_true rfl) (fun g (hR : Cr l D B RX11 cX11_lay 8 "lay" { frames := 1, cells := 0, slots := 0, locals := 21 } (some .int) 0 0 _ g) => ?_)
  have hC := hR.cx
  show g 0 [some (vr (some X)), some (vi (nI g0)), some (vi y), some (vi (nI f0)), some (vi w), none, none, none] [] _ _ N 0 0
  refine G_aload_n 0 hC rfl dX11_lay_0 ?_
  refine G_getR 1 hC fl_X11_30_10 (hX.sh) (hX.plan) rfl dX11_lay_1 ?_
  refine G_iload_n 4 hC rfl dX11_lay_4 ?_
  refine G_callV1 5 hC (c_gridAt hP.sh hP.rgr hP.gr hng hng2 hg) okX4_gridAt lk_X11_84 (hP.sh) rfl rfl rfl rfl (Nat.le_of_ble_eq_true rfl) (by decide) (by decide) dX11_lay_5 ?_
  rw [hG.1]
  refine G_astore 8 hC (by decide) (ls' := [_, _, _, _, _, _, _, _]) rfl dX11_lay_8 ?_
  refine G_aload_n 10 hC rfl dX11_lay_10 ?_
  refine G_getR 11 hC fl_X11_30_10 (hX.sh) (hX.plan) rfl dX11_lay_11 ?_
  refine G_iload_n 14 hC rfl dX11_lay_14 ?_
  refine G_callV1 15 hC (c_gridAt hP.sh hP.rgr hP.gr hng hng2 hf) okX4_gridAt lk_X11_84 (hP.sh) rfl rfl rfl rfl (Nat.le_of_ble_eq_true rfl) (by decide) (by decide) dX11_lay_15 ?_
  rw [hH.1]
  refine G_astore 18 hC (by decide) (ls' := [_, _, _, _, _, _, _, _]) rfl dX11_lay_18 ?_
  refine G_aload 20 hC rfl dX11_lay_20 ?_
  refine G_ifnull 22 30 hC dX11_lay_22 (by decide) (fun h22 => ?_) (fun a22 h22 => ?_)
  · exact absurd h22 (by simp)
  · refine G_aload 25 hC rfl dX11_lay_25 ?_
    refine G_ifnonnull 27 32 hC dX11_lay_27 (by decide) (fun h27 => ?_) (fun a27 h27 => ?_)
    · exact absurd h27 (by simp)
    · refine G_aload_n 32 hC rfl dX11_lay_32 ?_
      refine G_getR 33 hC fl_X11_39_10 (hX.sh) (hX.course) rfl dX11_lay_33 ?_
      refine G_getI 36 hC fl_X11_57_0 (hB 0 _ rfl (by decide)) rfl dX11_lay_36 ?_
      refine G_iconst 39 hC (nI 1) (by decide) dX11_lay_39 ?_
      refine G_icmp_ne 40 46 hC dX11_lay_40 (by decide) (fun h40 => ?_) (fun h40 => ?_)
      · exact absurd hst h40
      · refine G_bipush 43 hC (-2) (by decide) dX11_lay_43 ?_
        refine R_i 45 hR (by first | rfl | exact narrow_bI _) dX11_lay_45 (Nat.le_refl _) (Nat.le_refl _) ?_
        exact ⟨rfl, rfl, rfl, rfl⟩
theorem g_lay_index (hX : FixX X P c d e N) (hK : FixC c P N) (hP : FixP c P N) {ng : Nat} (hng : I P 4 = nI ng) (hng2 : ng ≤ 6) {g0 ga la z f0 fa lf zf : Nat} (hg : g0 < ng) (hG : GrA N P g0 ga la z) (hf : f0 < ng) (hH : GrA N P f0 fa lf zf) {y w : Int32} (hst : ¬ I (c + 0) 16 = nI 1) (hix : ¬ (inR w zf ∧ inR y z)) : Cq l D B mX11_lay [vr (some X), vi (nI g0), vi y, vi (nI f0), vi w] I L N (some (vi (-12))) I L := by
  have hB := hK.b
  refine Ct.of (M := mX11_lay) (by decide) (Nat.le_of_ble_eq_true rfl) (fun g (hR : Cr l D B RX11 cX11_lay 8 "lay" { frames := 1, cells := 0, slots := 0, locals := 21 } (some .int) 0 0 _ g) => ?_)
  have hC := hR.cx
  show g 0 [some (vr (some X)), some (vi (nI g0)), some (vi y), some (vi (nI f0)), some (vi w), none, none, none] [] _ _ N 0 0
  refine G_aload_n 0 hC rfl dX11_lay_0 ?_
  refine G_getR 1 hC fl_X11_30_10 (hX.sh) (hX.plan) rfl dX11_lay_1 ?_
  refine G_iload_n 4 hC rfl dX11_lay_4 ?_
  refine G_callV1 5 hC (c_gridAt hP.sh hP.rgr hP.gr hng hng2 hg) okX4_gridAt lk_X11_84 (hP.sh) rfl rfl rfl rfl (Nat.le_of_ble_eq_true rfl) (by decide) (by decide) dX11_lay_5 ?_
  rw [hG.1]
  refine G_astore 8 hC (by decide) (ls' := [_, _, _, _, _, _, _, _]) rfl dX11_lay_8 ?_
  refine G_aload_n 10 hC rfl dX11_lay_10 ?_
  refine G_getR 11 hC fl_X11_30_10 (hX.sh) (hX.plan) rfl dX11_lay_11 ?_
  refine G_iload_n 14 hC rfl dX11_lay_14 ?_
  refine G_callV1 15 hC (c_gridAt hP.sh hP.rgr hP.gr hng hng2 hf) okX4_gridAt lk_X11_84 (hP.sh) rfl rfl rfl rfl (Nat.le_of_ble_eq_true rfl) (by decide) (by decide) dX11_lay_15 ?_
  rw [hH.1]
  refine G_astore 18 hC (by decide) (ls' := [_, _, _, _, _, _, _, _]) rfl dX11_lay_18 ?_
  refine G_aload 20 hC rfl dX11_lay_20 ?_
  refine G_ifnull 22 30 hC dX11_lay_22 (by decide) (fun h22 => ?_) (fun a22 h22 => ?_)
  · exact absurd h22 (by simp)
  · refine G_aload 25 hC rfl dX11_lay_25 ?_
    refine G_ifnonnull 27 32 hC dX11_lay_27 (by decide) (fun h27 => ?_) (fun a27 h27 => ?_)
    · exact absurd h27 (by simp)
    · refine G_aload_n 32 hC rfl dX11_lay_32 ?_
      refine G_getR 33 hC fl_X11_39_10 (hX.sh) (hX.course) rfl dX11_lay_33 ?_
      refine G_getI 36 hC fl_X11_57_0 (hB 0 _ rfl (by decide)) rfl dX11_lay_36 ?_
      refine G_iconst 39 hC (nI 1) (by decide) dX11_lay_39 ?_
      refine G_icmp_ne 40 46 hC dX11_lay_40 (by decide) (fun h40 => ?_) (fun h40 => ?_)
      · refine G_aload 46 hC rfl dX11_lay_46 ?_
        refine G_iload 48 hC rfl dX11_lay_48 ?_
        refine G_callV1 50 hC (c_Grid_has hH.2.1 hH.2.2.1 hH.2.2.2.1 hH.2.2.2.2) okX1_has lk_X11_88 (hH.2.1) rfl rfl rfl rfl (Nat.le_of_ble_eq_true rfl) (by decide) (by decide) dX11_lay_50 ?_
        first | refine G_if_eq_b 53 65 hC dX11_lay_53 (by decide) (fun h53 => ?_) (fun h53 => ?_) | refine G_if_eq 53 65 hC dX11_lay_53 (by decide) (fun h53 => ?_) (fun h53 => ?_)
        · refine G_iconst 65 hC (nI 2) (by decide) dX11_lay_65 ?_
          refine G_callS1 66 hC (g_refusal) okX11_refusal lk_X11_63 rfl rfl rfl (Nat.le_of_ble_eq_true rfl) (by decide) (by decide) dX11_lay_66 ?_
          refine R_i 69 hR (by first | rfl | exact narrow_bI _) dX11_lay_69 (Nat.le_refl _) (Nat.le_refl _) ?_
          exact ⟨congrArg (fun z => some (vi z)) (by decide), rfl, rfl, rfl⟩
        · refine G_aload 56 hC rfl dX11_lay_56 ?_
          refine G_iload_n 58 hC rfl dX11_lay_58 ?_
          refine G_callV1 59 hC (c_Grid_has hG.2.1 hG.2.2.1 hG.2.2.2.1 hG.2.2.2.2) okX1_has lk_X11_88 (hG.2.1) rfl rfl rfl rfl (Nat.le_of_ble_eq_true rfl) (by decide) (by decide) dX11_lay_59 ?_
          first | refine G_if_ne_b 62 70 hC dX11_lay_62 (by decide) (fun h62 => ?_) (fun h62 => ?_) | refine G_if_ne 62 70 hC dX11_lay_62 (by decide) (fun h62 => ?_) (fun h62 => ?_)
          · exact absurd ⟨h53, h62⟩ hix
          · refine G_iconst 65 hC (nI 2) (by decide) dX11_lay_65 ?_
            refine G_callS1 66 hC (g_refusal) okX11_refusal lk_X11_63 rfl rfl rfl (Nat.le_of_ble_eq_true rfl) (by decide) (by decide) dX11_lay_66 ?_
            refine R_i 69 hR (by first | rfl | exact narrow_bI _) dX11_lay_69 (Nat.le_refl _) (Nat.le_refl _) ?_
            exact ⟨congrArg (fun z => some (vi z)) (by decide), rfl, rfl, rfl⟩
      · exact absurd h40 hst
theorem g_lay_store (hX : FixX X P c d e N) (hK : FixC c P N) (hP : FixP c P N) {ng : Nat} (hng : I P 4 = nI ng) (hng2 : ng ≤ 6) {g0 ga la z f0 fa lf zf i1 j1 p np m : Nat} (hg : g0 < ng) (hG : GrA N P g0 ga la z) (hf : f0 < ng) (hH : GrA N P f0 fa lf zf) (hst : ¬ I (c + 0) 16 = nI 1) (hi1 : i1 < z) (hj1 : j1 < zf) (hL : LnA N lf j1 p np m) (hkd : ¬ I p 0 = I ga 0) : Cq l D B mX11_lay [vr (some X), vi (nI g0), vi (nI i1), vi (nI f0), vi (nI j1)] I L N (some (vi (-14))) I L := by
  have hB := hK.b
  have hz12 := hG.2.2.2.2
  have hf12 := hH.2.2.2.2
  refine Ct.of (M := mX11_lay) (by decide) (Nat.le_of_ble_eq_true rfl) (fun g (hR : Cr l D B RX11 cX11_lay 8 "lay" { frames := 1, cells := 0, slots := 0, locals := 21 } (some .int) 0 0 _ g) => ?_)
  have hC := hR.cx
  show g 0 [some (vr (some X)), some (vi (nI g0)), some (vi (nI i1)), some (vi (nI f0)), some (vi (nI j1)), none, none, none] [] _ _ N 0 0
  refine G_aload_n 0 hC rfl dX11_lay_0 ?_
  refine G_getR 1 hC fl_X11_30_10 (hX.sh) (hX.plan) rfl dX11_lay_1 ?_
  refine G_iload_n 4 hC rfl dX11_lay_4 ?_
  refine G_callV1 5 hC (c_gridAt hP.sh hP.rgr hP.gr hng hng2 hg) okX4_gridAt lk_X11_84 (hP.sh) rfl rfl rfl rfl (Nat.le_of_ble_eq_true rfl) (by decide) (by decide) dX11_lay_5 ?_
  rw [hG.1]
  refine G_astore 8 hC (by decide) (ls' := [_, _, _, _, _, _, _, _]) rfl dX11_lay_8 ?_
  refine G_aload_n 10 hC rfl dX11_lay_10 ?_
  refine G_getR 11 hC fl_X11_30_10 (hX.sh) (hX.plan) rfl dX11_lay_11 ?_
  refine G_iload_n 14 hC rfl dX11_lay_14 ?_
  refine G_callV1 15 hC (c_gridAt hP.sh hP.rgr hP.gr hng hng2 hf) okX4_gridAt lk_X11_84 (hP.sh) rfl rfl rfl rfl (Nat.le_of_ble_eq_true rfl) (by decide) (by decide) dX11_lay_15 ?_
  rw [hH.1]
  refine G_astore 18 hC (by decide) (ls' := [_, _, _, _, _, _, _, _]) rfl dX11_lay_18 ?_
  refine G_aload 20 hC rfl dX11_lay_20 ?_
  refine G_ifnull 22 30 hC dX11_lay_22 (by decide) (fun h22 => ?_) (fun a22 h22 => ?_)
  · exact absurd h22 (by simp)
  · refine G_aload 25 hC rfl dX11_lay_25 ?_
    refine G_ifnonnull 27 32 hC dX11_lay_27 (by decide) (fun h27 => ?_) (fun a27 h27 => ?_)
    · exact absurd h27 (by simp)
    · refine G_aload_n 32 hC rfl dX11_lay_32 ?_
      refine G_getR 33 hC fl_X11_39_10 (hX.sh) (hX.course) rfl dX11_lay_33 ?_
      refine G_getI 36 hC fl_X11_57_0 (hB 0 _ rfl (by decide)) rfl dX11_lay_36 ?_
      refine G_iconst 39 hC (nI 1) (by decide) dX11_lay_39 ?_
      refine G_icmp_ne 40 46 hC dX11_lay_40 (by decide) (fun h40 => ?_) (fun h40 => ?_)
      · refine G_aload 46 hC rfl dX11_lay_46 ?_
        refine G_iload 48 hC rfl dX11_lay_48 ?_
        refine G_callV1 50 hC (c_Grid_has hH.2.1 hH.2.2.1 hH.2.2.2.1 hH.2.2.2.2) okX1_has lk_X11_88 (hH.2.1) rfl rfl rfl rfl (Nat.le_of_ble_eq_true rfl) (by decide) (by decide) dX11_lay_50 ?_
        first | refine G_if_eq_b 53 65 hC dX11_lay_53 (by decide) (fun h53 => ?_) (fun h53 => ?_) | refine G_if_eq 53 65 hC dX11_lay_53 (by decide) (fun h53 => ?_) (fun h53 => ?_)
        · exact absurd (inR_nI hj1 (by omega)) h53
        · refine G_aload 56 hC rfl dX11_lay_56 ?_
          refine G_iload_n 58 hC rfl dX11_lay_58 ?_
          refine G_callV1 59 hC (c_Grid_has hG.2.1 hG.2.2.1 hG.2.2.2.1 hG.2.2.2.2) okX1_has lk_X11_88 (hG.2.1) rfl rfl rfl rfl (Nat.le_of_ble_eq_true rfl) (by decide) (by decide) dX11_lay_59 ?_
          first | refine G_if_ne_b 62 70 hC dX11_lay_62 (by decide) (fun h62 => ?_) (fun h62 => ?_) | refine G_if_ne 62 70 hC dX11_lay_62 (by decide) (fun h62 => ?_) (fun h62 => ?_)
          · refine G_aload 70 hC rfl dX11_lay_70 ?_
            refine G_getR 72 hC fl_X11_72_1 (hH.2.1) (hH.2.2.1) rfl dX11_lay_72 ?_
            refine G_iload 75 hC rfl dX11_lay_75 ?_
            refine G_aald 77 hC (hH.2.2.2.1) (by decide) (by decide) (rfl) (by omega) (by omega) (hL.1) dX11_lay_77 ?_
            refine G_astore 78 hC (by decide) (ls' := [_, _, _, _, _, _, _, _]) rfl dX11_lay_78 ?_
            refine G_aload 80 hC rfl dX11_lay_80 ?_
            refine G_ifnull 82 103 hC dX11_lay_82 (by decide) (fun h82 => ?_) (fun a82 h82 => ?_)
            · exact absurd h82 (by simp)
            · refine G_aload 85 hC rfl dX11_lay_85 ?_
              refine G_getI 87 hC fl_X11_104_3 (hL.2.1) rfl dX11_lay_87 ?_
              refine G_aload 90 hC rfl dX11_lay_90 ?_
              refine G_getI 92 hC fl_X11_91_1 (hG.2.1) rfl dX11_lay_92 ?_
              refine G_icmp_eq 95 103 hC dX11_lay_95 (by decide) (fun h95 => ?_) (fun h95 => ?_)
              · exact absurd h95 hkd
              · refine G_iconst 98 hC (nI 4) (by decide) dX11_lay_98 ?_
                refine G_callS1 99 hC (g_refusal) okX11_refusal lk_X11_63 rfl rfl rfl (Nat.le_of_ble_eq_true rfl) (by decide) (by decide) dX11_lay_99 ?_
                refine R_i 102 hR (by first | rfl | exact narrow_bI _) dX11_lay_102 (Nat.le_refl _) (Nat.le_refl _) ?_
                exact ⟨congrArg (fun z => some (vi z)) (by decide), rfl, rfl, rfl⟩
          · exact absurd (inR_nI hi1 (by omega)) h62
      · exact absurd h40 hst
theorem g_lay_ok (hX : FixX X P c d e N) (hK : FixC c P N) (hP : FixP c P N) {ng : Nat} (hng : I P 4 = nI ng) (hng2 : ng ≤ 6) {g0 ga la z f0 fa lf zf i1 j1 p np m : Nat} (hg : g0 < ng) (hG : GrA N P g0 ga la z) (hf : f0 < ng) (hH : GrA N P f0 fa lf zf) (hst : ¬ I (c + 0) 16 = nI 1) (hi1 : i1 < z) (hj1 : j1 < zf) (hL : LnA N lf j1 p np m) (hkd : I p 0 = I ga 0) : Cn l D B mX11_lay [vr (some X), vi (nI g0), vi (nI i1), vi (nI f0), vi (nI j1)] I L N 0 0 (some (vi (nI 1))) I L (upd2 N.1 la i1 (some p), N.2) := by
  have hB := hK.b
  have hz12 := hG.2.2.2.2
  have hf12 := hH.2.2.2.2
  refine Ct.of (M := mX11_lay) (by decide) (Nat.le_of_ble_eq_true rfl) (fun g (hR : Cr l D B RX11 cX11_lay 8 "lay" { frames := 1, cells := 0, slots := 0, locals := 21 } (some .int) 0 0 _ g) => ?_)
  have hC := hR.cx
  show g 0 [some (vr (some X)), some (vi (nI g0)), some (vi (nI i1)), some (vi (nI f0)), some (vi (nI j1)), none, none, none] [] _ _ N 0 0
  refine G_aload_n 0 hC rfl dX11_lay_0 ?_
  refine G_getR 1 hC fl_X11_30_10 (hX.sh) (hX.plan) rfl dX11_lay_1 ?_
  refine G_iload_n 4 hC rfl dX11_lay_4 ?_
  refine G_callV1 5 hC (c_gridAt hP.sh hP.rgr hP.gr hng hng2 hg) okX4_gridAt lk_X11_84 (hP.sh) rfl rfl rfl rfl (Nat.le_of_ble_eq_true rfl) (by decide) (by decide) dX11_lay_5 ?_
  rw [hG.1]
  refine G_astore 8 hC (by decide) (ls' := [_, _, _, _, _, _, _, _]) rfl dX11_lay_8 ?_
  refine G_aload_n 10 hC rfl dX11_lay_10 ?_
  refine G_getR 11 hC fl_X11_30_10 (hX.sh) (hX.plan) rfl dX11_lay_11 ?_
  refine G_iload_n 14 hC rfl dX11_lay_14 ?_
  refine G_callV1 15 hC (c_gridAt hP.sh hP.rgr hP.gr hng hng2 hf) okX4_gridAt lk_X11_84 (hP.sh) rfl rfl rfl rfl (Nat.le_of_ble_eq_true rfl) (by decide) (by decide) dX11_lay_15 ?_
  rw [hH.1]
  refine G_astore 18 hC (by decide) (ls' := [_, _, _, _, _, _, _, _]) rfl dX11_lay_18 ?_
  refine G_aload 20 hC rfl dX11_lay_20 ?_
  refine G_ifnull 22 30 hC dX11_lay_22 (by decide) (fun h22 => ?_) (fun a22 h22 => ?_)
  · exact absurd h22 (by simp)
  · refine G_aload 25 hC rfl dX11_lay_25 ?_
    refine G_ifnonnull 27 32 hC dX11_lay_27 (by decide) (fun h27 => ?_) (fun a27 h27 => ?_)
    · exact absurd h27 (by simp)
    · refine G_aload_n 32 hC rfl dX11_lay_32 ?_
      refine G_getR 33 hC fl_X11_39_10 (hX.sh) (hX.course) rfl dX11_lay_33 ?_
      refine G_getI 36 hC fl_X11_57_0 (hB 0 _ rfl (by decide)) rfl dX11_lay_36 ?_
      refine G_iconst 39 hC (nI 1) (by decide) dX11_lay_39 ?_
      refine G_icmp_ne 40 46 hC dX11_lay_40 (by decide) (fun h40 => ?_) (fun h40 => ?_)
      · refine G_aload 46 hC rfl dX11_lay_46 ?_
        refine G_iload 48 hC rfl dX11_lay_48 ?_
        refine G_callV1 50 hC (c_Grid_has hH.2.1 hH.2.2.1 hH.2.2.2.1 hH.2.2.2.2) okX1_has lk_X11_88 (hH.2.1) rfl rfl rfl rfl (Nat.le_of_ble_eq_true rfl) (by decide) (by decide) dX11_lay_50 ?_
        first | refine G_if_eq_b 53 65 hC dX11_lay_53 (by decide) (fun h53 => ?_) (fun h53 => ?_) | refine G_if_eq 53 65 hC dX11_lay_53 (by decide) (fun h53 => ?_) (fun h53 => ?_)
        · exact absurd (inR_nI hj1 (by omega)) h53
        · refine G_aload 56 hC rfl dX11_lay_56 ?_
          refine G_iload_n 58 hC rfl dX11_lay_58 ?_
          refine G_callV1 59 hC (c_Grid_has hG.2.1 hG.2.2.1 hG.2.2.2.1 hG.2.2.2.2) okX1_has lk_X11_88 (hG.2.1) rfl rfl rfl rfl (Nat.le_of_ble_eq_true rfl) (by decide) (by decide) dX11_lay_59 ?_
          first | refine G_if_ne_b 62 70 hC dX11_lay_62 (by decide) (fun h62 => ?_) (fun h62 => ?_) | refine G_if_ne 62 70 hC dX11_lay_62 (by decide) (fun h62 => ?_) (fun h62 => ?_)
          · refine G_aload 70 hC rfl dX11_lay_70 ?_
            refine G_getR 72 hC fl_X11_72_1 (hH.2.1) (hH.2.2.1) rfl dX11_lay_72 ?_
            refine G_iload 75 hC rfl dX11_lay_75 ?_
            refine G_aald 77 hC (hH.2.2.2.1) (by decide) (by decide) (rfl) (by omega) (by omega) (hL.1) dX11_lay_77 ?_
            refine G_astore 78 hC (by decide) (ls' := [_, _, _, _, _, _, _, _]) rfl dX11_lay_78 ?_
            refine G_aload 80 hC rfl dX11_lay_80 ?_
            refine G_ifnull 82 103 hC dX11_lay_82 (by decide) (fun h82 => ?_) (fun a82 h82 => ?_)
            · exact absurd h82 (by simp)
            · refine G_aload 85 hC rfl dX11_lay_85 ?_
              refine G_getI 87 hC fl_X11_104_3 (hL.2.1) rfl dX11_lay_87 ?_
              refine G_aload 90 hC rfl dX11_lay_90 ?_
              refine G_getI 92 hC fl_X11_91_1 (hG.2.1) rfl dX11_lay_92 ?_
              refine G_icmp_eq 95 103 hC dX11_lay_95 (by decide) (fun h95 => ?_) (fun h95 => ?_)
              · refine G_aload 103 hC rfl dX11_lay_103 ?_
                refine G_getR 105 hC fl_X11_72_1 (hG.2.1) (hG.2.2.1) rfl dX11_lay_105 ?_
                refine G_iload_n 108 hC rfl dX11_lay_108 ?_
                refine G_aload 109 hC rfl dX11_lay_109 ?_
                refine G_aast 111 hC ((RX3, TX3, 2)) (hG.2.2.2.1) (by decide) (by decide) (hL.2.1) rfl (Or.inl rfl) (rfl) (by omega) (by omega) dX11_lay_111 ?_
                refine G_aload 112 hC rfl dX11_lay_112 ?_
                refine G_ifnonnull 114 121 hC dX11_lay_114 (by decide) (fun h114 => ?_) (fun a114 h114 => ?_)
                · exact absurd h114 (by simp)
                · refine G_iconst 121 hC (nI 1) (by decide) dX11_lay_121 ?_
                  refine R_i 122 hR (by first | rfl | exact narrow_bI _) dX11_lay_122 (Nat.le_refl _) (Nat.le_refl _) ?_
                  exact ⟨rfl, rfl, rfl, rfl⟩
              · exact absurd hkd h95
          · exact absurd (inR_nI hi1 (by omega)) h62
      · exact absurd h40 hst
theorem g_lay_ok0 (hX : FixX X P c d e N) (hK : FixC c P N) (hP : FixP c P N) {ng : Nat} (hng : I P 4 = nI ng) (hng2 : ng ≤ 6) {g0 ga la z f0 fa lf zf i1 j1 : Nat} (hg : g0 < ng) (hG : GrA N P g0 ga la z) (hf : f0 < ng) (hH : GrA N P f0 fa lf zf) (hst : ¬ I (c + 0) 16 = nI 1) (hi1 : i1 < z) (hj1 : j1 < zf) (hL : N.1 lf j1 = none) : Cn l D B mX11_lay [vr (some X), vi (nI g0), vi (nI i1), vi (nI f0), vi (nI j1)] I L N 0 0 (some (vi (nI 0))) I L (upd2 N.1 la i1 none, N.2) := by
  have hB := hK.b
  have hz12 := hG.2.2.2.2
  have hf12 := hH.2.2.2.2
  refine Ct.of (M := mX11_lay) (by decide) (Nat.le_of_ble_eq_true rfl) (fun g (hR : Cr l D B RX11 cX11_lay 8 "lay" { frames := 1, cells := 0, slots := 0, locals := 21 } (some .int) 0 0 _ g) => ?_)
  have hC := hR.cx
  show g 0 [some (vr (some X)), some (vi (nI g0)), some (vi (nI i1)), some (vi (nI f0)), some (vi (nI j1)), none, none, none] [] _ _ N 0 0
  refine G_aload_n 0 hC rfl dX11_lay_0 ?_
  refine G_getR 1 hC fl_X11_30_10 (hX.sh) (hX.plan) rfl dX11_lay_1 ?_
  refine G_iload_n 4 hC rfl dX11_lay_4 ?_
  refine G_callV1 5 hC (c_gridAt hP.sh hP.rgr hP.gr hng hng2 hg) okX4_gridAt lk_X11_84 (hP.sh) rfl rfl rfl rfl (Nat.le_of_ble_eq_true rfl) (by decide) (by decide) dX11_lay_5 ?_
  rw [hG.1]
  refine G_astore 8 hC (by decide) (ls' := [_, _, _, _, _, _, _, _]) rfl dX11_lay_8 ?_
  refine G_aload_n 10 hC rfl dX11_lay_10 ?_
  refine G_getR 11 hC fl_X11_30_10 (hX.sh) (hX.plan) rfl dX11_lay_11 ?_
  refine G_iload_n 14 hC rfl dX11_lay_14 ?_
  refine G_callV1 15 hC (c_gridAt hP.sh hP.rgr hP.gr hng hng2 hf) okX4_gridAt lk_X11_84 (hP.sh) rfl rfl rfl rfl (Nat.le_of_ble_eq_true rfl) (by decide) (by decide) dX11_lay_15 ?_
  rw [hH.1]
  refine G_astore 18 hC (by decide) (ls' := [_, _, _, _, _, _, _, _]) rfl dX11_lay_18 ?_
  refine G_aload 20 hC rfl dX11_lay_20 ?_
  refine G_ifnull 22 30 hC dX11_lay_22 (by decide) (fun h22 => ?_) (fun a22 h22 => ?_)
  · exact absurd h22 (by simp)
  · refine G_aload 25 hC rfl dX11_lay_25 ?_
    refine G_ifnonnull 27 32 hC dX11_lay_27 (by decide) (fun h27 => ?_) (fun a27 h27 => ?_)
    · exact absurd h27 (by simp)
    · refine G_aload_n 32 hC rfl dX11_lay_32 ?_
      refine G_getR 33 hC fl_X11_39_10 (hX.sh) (hX.course) rfl dX11_lay_33 ?_
      refine G_getI 36 hC fl_X11_57_0 (hB 0 _ rfl (by decide)) rfl dX11_lay_36 ?_
      refine G_iconst 39 hC (nI 1) (by decide) dX11_lay_39 ?_
      refine G_icmp_ne 40 46 hC dX11_lay_40 (by decide) (fun h40 => ?_) (fun h40 => ?_)
      · refine G_aload 46 hC rfl dX11_lay_46 ?_
        refine G_iload 48 hC rfl dX11_lay_48 ?_
        refine G_callV1 50 hC (c_Grid_has hH.2.1 hH.2.2.1 hH.2.2.2.1 hH.2.2.2.2) okX1_has lk_X11_88 (hH.2.1) rfl rfl rfl rfl (Nat.le_of_ble_eq_true rfl) (by decide) (by decide) dX11_lay_50 ?_
        first | refine G_if_eq_b 53 65 hC dX11_lay_53 (by decide) (fun h53 => ?_) (fun h53 => ?_) | refine G_if_eq 53 65 hC dX11_lay_53 (by decide) (fun h53 => ?_) (fun h53 => ?_)
        · exact absurd (inR_nI hj1 (by omega)) h53
        · refine G_aload 56 hC rfl dX11_lay_56 ?_
          refine G_iload_n 58 hC rfl dX11_lay_58 ?_
          refine G_callV1 59 hC (c_Grid_has hG.2.1 hG.2.2.1 hG.2.2.2.1 hG.2.2.2.2) okX1_has lk_X11_88 (hG.2.1) rfl rfl rfl rfl (Nat.le_of_ble_eq_true rfl) (by decide) (by decide) dX11_lay_59 ?_
          first | refine G_if_ne_b 62 70 hC dX11_lay_62 (by decide) (fun h62 => ?_) (fun h62 => ?_) | refine G_if_ne 62 70 hC dX11_lay_62 (by decide) (fun h62 => ?_) (fun h62 => ?_)
          · refine G_aload 70 hC rfl dX11_lay_70 ?_
            refine G_getR 72 hC fl_X11_72_1 (hH.2.1) (hH.2.2.1) rfl dX11_lay_72 ?_
            refine G_iload 75 hC rfl dX11_lay_75 ?_
            refine G_aald 77 hC (hH.2.2.2.1) (by decide) (by decide) (rfl) (by omega) (by omega) (hL) dX11_lay_77 ?_
            refine G_astore 78 hC (by decide) (ls' := [_, _, _, _, _, _, _, _]) rfl dX11_lay_78 ?_
            refine G_aload 80 hC rfl dX11_lay_80 ?_
            refine G_ifnull 82 103 hC dX11_lay_82 (by decide) (fun h82 => ?_) (fun a82 h82 => ?_)
            · refine G_aload 103 hC rfl dX11_lay_103 ?_
              refine G_getR 105 hC fl_X11_72_1 (hG.2.1) (hG.2.2.1) rfl dX11_lay_105 ?_
              refine G_iload_n 108 hC rfl dX11_lay_108 ?_
              refine G_aload 109 hC rfl dX11_lay_109 ?_
              refine G_aastN 111 hC (hG.2.2.2.1) (by decide) (by decide) (rfl) (by omega) (by omega) dX11_lay_111 ?_
              refine G_aload 112 hC rfl dX11_lay_112 ?_
              refine G_ifnonnull 114 121 hC dX11_lay_114 (by decide) (fun h114 => ?_) (fun a114 h114 => ?_)
              · refine G_iconst 117 hC (nI 0) (by decide) dX11_lay_117 ?_
                refine G_goto 118 122 hC dX11_lay_118 (by decide) ?_
                refine R_i 122 hR (by first | rfl | exact narrow_bI _) dX11_lay_122 (Nat.le_refl _) (Nat.le_refl _) ?_
                exact ⟨rfl, rfl, rfl, rfl⟩
              · cases h114
            · cases h82
          · exact absurd (inR_nI hi1 (by omega)) h62
      · exact absurd h40 hst
theorem g_grid_bad {k x y : Int32} (hb : ¬ ((nI 0 ≤ k ∧ k ≤ nI 5) ∧ ¬ nI 12 < x ∧ ¬ nI 13 < y)) : Cq l D B mX11_grid [vr (some X), vi k, vi x, vi y] I L N (some (vi (-1))) I L := by
  refine Ct.of (M := mX11_grid) (by decide) (Nat.le_of_ble_eq_true rfl) (fun g (hR : Cr l D B RX11 cX11_grid 6 "grid" { frames := 3, cells := 0, slots := 0, locals := 63 } (some .int) 0 0 _ g) => ?_)
  have hC := hR.cx
  show g 0 [some (vr (some X)), some (vi k), some (vi x), some (vi y), none, none] [] _ _ N 0 0
  refine G_iload_n 0 hC rfl dX11_grid_0 ?_
  refine G_callS1 1 hC (g_isKind) okX11_isKind lk_X11_53 rfl rfl rfl (Nat.le_of_ble_eq_true rfl) (by decide) (by decide) dX11_grid_1 ?_
  first | refine G_if_eq_b 4 19 hC dX11_grid_4 (by decide) (fun h4 => ?_) (fun h4 => ?_) | refine G_if_eq 4 19 hC dX11_grid_4 (by decide) (fun h4 => ?_) (fun h4 => ?_)
  · refine G_iconst 19 hC (-1) (by decide) dX11_grid_19 ?_
    refine R_i 20 hR (by first | rfl | exact narrow_bI _) dX11_grid_20 (Nat.le_refl _) (Nat.le_refl _) ?_
    exact ⟨rfl, rfl, rfl, rfl⟩
  · refine G_iload_n 7 hC rfl dX11_grid_7 ?_
    refine G_bipush 8 hC (nI 12) (by decide) dX11_grid_8 ?_
    refine G_icmp_gt 10 19 hC dX11_grid_10 (by decide) (fun h10 => ?_) (fun h10 => ?_)
    · refine G_iconst 19 hC (-1) (by decide) dX11_grid_19 ?_
      refine R_i 20 hR (by first | rfl | exact narrow_bI _) dX11_grid_20 (Nat.le_refl _) (Nat.le_refl _) ?_
      exact ⟨rfl, rfl, rfl, rfl⟩
    · refine G_iload_n 13 hC rfl dX11_grid_13 ?_
      refine G_bipush 14 hC (nI 13) (by decide) dX11_grid_14 ?_
      refine G_icmp_le 16 21 hC dX11_grid_16 (by decide) (fun h16 => ?_) (fun h16 => ?_)
      · exact absurd ⟨h4, h10, Int32.not_lt.mpr h16⟩ hb
      · refine G_iconst 19 hC (-1) (by decide) dX11_grid_19 ?_
        refine R_i 20 hR (by first | rfl | exact narrow_bI _) dX11_grid_20 (Nat.le_refl _) (Nat.le_refl _) ?_
        exact ⟨rfl, rfl, rfl, rfl⟩
theorem g_grid_state (hX : FixX X P c d e N) (hK : FixC c P N) {k x y : Int32} (hok : (nI 0 ≤ k ∧ k ≤ nI 5) ∧ ¬ nI 12 < x ∧ ¬ nI 13 < y) (hst : I (c + 0) 16 = nI 1) : Cq l D B mX11_grid [vr (some X), vi k, vi x, vi y] I L N (some (vi (-2))) I L := by
  have hB := hK.b
  refine Ct.of (M := mX11_grid) (by decide) (Nat.le_of_ble_eq_true rfl) (fun g (hR : Cr l D B RX11 cX11_grid 6 "grid" { frames := 3, cells := 0, slots := 0, locals := 63 } (some .int) 0 0 _ g) => ?_)
  have hC := hR.cx
  show g 0 [some (vr (some X)), some (vi k), some (vi x), some (vi y), none, none] [] _ _ N 0 0
  refine G_iload_n 0 hC rfl dX11_grid_0 ?_
  refine G_callS1 1 hC (g_isKind) okX11_isKind lk_X11_53 rfl rfl rfl (Nat.le_of_ble_eq_true rfl) (by decide) (by decide) dX11_grid_1 ?_
  first | refine G_if_eq_b 4 19 hC dX11_grid_4 (by decide) (fun h4 => ?_) (fun h4 => ?_) | refine G_if_eq 4 19 hC dX11_grid_4 (by decide) (fun h4 => ?_) (fun h4 => ?_)
  · exact absurd hok.1 h4
  · refine G_iload_n 7 hC rfl dX11_grid_7 ?_
    refine G_bipush 8 hC (nI 12) (by decide) dX11_grid_8 ?_
    refine G_icmp_gt 10 19 hC dX11_grid_10 (by decide) (fun h10 => ?_) (fun h10 => ?_)
    · exact absurd h10 hok.2.1
    · refine G_iload_n 13 hC rfl dX11_grid_13 ?_
      refine G_bipush 14 hC (nI 13) (by decide) dX11_grid_14 ?_
      refine G_icmp_le 16 21 hC dX11_grid_16 (by decide) (fun h16 => ?_) (fun h16 => ?_)
      · refine G_aload_n 21 hC rfl dX11_grid_21 ?_
        refine G_getR 22 hC fl_X11_39_10 (hX.sh) (hX.course) rfl dX11_grid_22 ?_
        refine G_getI 25 hC fl_X11_57_0 (hB 0 _ rfl (by decide)) rfl dX11_grid_25 ?_
        refine G_iconst 28 hC (nI 1) (by decide) dX11_grid_28 ?_
        refine G_icmp_ne 29 35 hC dX11_grid_29 (by decide) (fun h29 => ?_) (fun h29 => ?_)
        · exact absurd hst h29
        · refine G_bipush 32 hC (-2) (by decide) dX11_grid_32 ?_
          refine R_i 34 hR (by first | rfl | exact narrow_bI _) dX11_grid_34 (Nat.le_refl _) (Nat.le_refl _) ?_
          exact ⟨rfl, rfl, rfl, rfl⟩
      · exact absurd (Int32.not_lt.mp hok.2.2) h16
theorem g_grid_full (hX : FixX X P c d e N) (hK : FixC c P N) (hP : FixP c P N) {k x y : Int32} (hok : (nI 0 ≤ k ∧ k ≤ nI 5) ∧ ¬ nI 12 < x ∧ ¬ nI 13 < y) (hst : ¬ I (c + 0) 16 = nI 1) (hng : I P 4 = nI 6) : Cq l D B mX11_grid [vr (some X), vi k, vi x, vi y] I L N (some (vi (-3))) I L := by
  have hB := hK.b
  refine Ct.of (M := mX11_grid) (by decide) (Nat.le_of_ble_eq_true rfl) (fun g (hR : Cr l D B RX11 cX11_grid 6 "grid" { frames := 3, cells := 0, slots := 0, locals := 63 } (some .int) 0 0 _ g) => ?_)
  have hC := hR.cx
  show g 0 [some (vr (some X)), some (vi k), some (vi x), some (vi y), none, none] [] _ _ N 0 0
  refine G_iload_n 0 hC rfl dX11_grid_0 ?_
  refine G_callS1 1 hC (g_isKind) okX11_isKind lk_X11_53 rfl rfl rfl (Nat.le_of_ble_eq_true rfl) (by decide) (by decide) dX11_grid_1 ?_
  first | refine G_if_eq_b 4 19 hC dX11_grid_4 (by decide) (fun h4 => ?_) (fun h4 => ?_) | refine G_if_eq 4 19 hC dX11_grid_4 (by decide) (fun h4 => ?_) (fun h4 => ?_)
  · exact absurd hok.1 h4
  · refine G_iload_n 7 hC rfl dX11_grid_7 ?_
    refine G_bipush 8 hC (nI 12) (by decide) dX11_grid_8 ?_
    refine G_icmp_gt 10 19 hC dX11_grid_10 (by decide) (fun h10 => ?_) (fun h10 => ?_)
    · exact absurd h10 hok.2.1
    · refine G_iload_n 13 hC rfl dX11_grid_13 ?_
      refine G_bipush 14 hC (nI 13) (by decide) dX11_grid_14 ?_
      refine G_icmp_le 16 21 hC dX11_grid_16 (by decide) (fun h16 => ?_) (fun h16 => ?_)
      · refine G_aload_n 21 hC rfl dX11_grid_21 ?_
        refine G_getR 22 hC fl_X11_39_10 (hX.sh) (hX.course) rfl dX11_grid_22 ?_
        refine G_getI 25 hC fl_X11_57_0 (hB 0 _ rfl (by decide)) rfl dX11_grid_25 ?_
        refine G_iconst 28 hC (nI 1) (by decide) dX11_grid_28 ?_
        refine G_icmp_ne 29 35 hC dX11_grid_29 (by decide) (fun h29 => ?_) (fun h29 => ?_)
        · refine G_aload_n 35 hC rfl dX11_grid_35 ?_
          refine G_getR 36 hC fl_X11_30_10 (hX.sh) (hX.plan) rfl dX11_grid_36 ?_
          refine G_getI 39 hC fl_X11_60_4 (hP.sh) rfl dX11_grid_39 ?_
          rw [hng]
          refine G_bipush 42 hC (nI 6) (by decide) dX11_grid_42 ?_
          refine G_icmp_lt 44 50 hC dX11_grid_44 (by decide) (fun h44 => ?_) (fun h44 => ?_)
          · exact absurd h44 (by decide)
          · refine G_bipush 47 hC (-3) (by decide) dX11_grid_47 ?_
            refine R_i 49 hR (by first | rfl | exact narrow_bI _) dX11_grid_49 (Nat.le_refl _) (Nat.le_refl _) ?_
            exact ⟨rfl, rfl, rfl, rfl⟩
        · exact absurd h29 hst
      · exact absurd (Int32.not_lt.mp hok.2.2) h16
theorem g_grid_size (hX : FixX X P c d e N) (hK : FixC c P N) (hP : FixP c P N) {k x y : Int32} {ng : Nat} (hok : (nI 0 ≤ k ∧ k ≤ nI 5) ∧ ¬ nI 12 < x ∧ ¬ nI 13 < y) (hst : ¬ I (c + 0) 16 = nI 1) (hng : I P 4 = nI ng) (hng3 : ng < 6) (hsz : x < 0 ∨ y < 0) : Cq l D B mX11_grid [vr (some X), vi k, vi x, vi y] I L N (some (vi (-15))) I L := by
  have hB := hK.b
  refine Ct.of (M := mX11_grid) (by decide) (Nat.le_of_ble_eq_true rfl) (fun g (hR : Cr l D B RX11 cX11_grid 6 "grid" { frames := 3, cells := 0, slots := 0, locals := 63 } (some .int) 0 0 _ g) => ?_)
  have hC := hR.cx
  show g 0 [some (vr (some X)), some (vi k), some (vi x), some (vi y), none, none] [] _ _ N 0 0
  refine G_iload_n 0 hC rfl dX11_grid_0 ?_
  refine G_callS1 1 hC (g_isKind) okX11_isKind lk_X11_53 rfl rfl rfl (Nat.le_of_ble_eq_true rfl) (by decide) (by decide) dX11_grid_1 ?_
  first | refine G_if_eq_b 4 19 hC dX11_grid_4 (by decide) (fun h4 => ?_) (fun h4 => ?_) | refine G_if_eq 4 19 hC dX11_grid_4 (by decide) (fun h4 => ?_) (fun h4 => ?_)
  · exact absurd hok.1 h4
  · refine G_iload_n 7 hC rfl dX11_grid_7 ?_
    refine G_bipush 8 hC (nI 12) (by decide) dX11_grid_8 ?_
    refine G_icmp_gt 10 19 hC dX11_grid_10 (by decide) (fun h10 => ?_) (fun h10 => ?_)
    · exact absurd h10 hok.2.1
    · refine G_iload_n 13 hC rfl dX11_grid_13 ?_
      refine G_bipush 14 hC (nI 13) (by decide) dX11_grid_14 ?_
      refine G_icmp_le 16 21 hC dX11_grid_16 (by decide) (fun h16 => ?_) (fun h16 => ?_)
      · refine G_aload_n 21 hC rfl dX11_grid_21 ?_
        refine G_getR 22 hC fl_X11_39_10 (hX.sh) (hX.course) rfl dX11_grid_22 ?_
        refine G_getI 25 hC fl_X11_57_0 (hB 0 _ rfl (by decide)) rfl dX11_grid_25 ?_
        refine G_iconst 28 hC (nI 1) (by decide) dX11_grid_28 ?_
        refine G_icmp_ne 29 35 hC dX11_grid_29 (by decide) (fun h29 => ?_) (fun h29 => ?_)
        · refine G_aload_n 35 hC rfl dX11_grid_35 ?_
          refine G_getR 36 hC fl_X11_30_10 (hX.sh) (hX.plan) rfl dX11_grid_36 ?_
          refine G_getI 39 hC fl_X11_60_4 (hP.sh) rfl dX11_grid_39 ?_
          rw [hng]
          refine G_bipush 42 hC (nI 6) (by decide) dX11_grid_42 ?_
          refine G_icmp_lt 44 50 hC dX11_grid_44 (by decide) (fun h44 => ?_) (fun h44 => ?_)
          · refine G_iload_n 50 hC rfl dX11_grid_50 ?_
            refine G_if_lt 51 58 hC dX11_grid_51 (by decide) (fun h51 => ?_) (fun h51 => ?_)
            · refine G_iconst 58 hC (nI 5) (by decide) dX11_grid_58 ?_
              refine G_callS1 59 hC (g_refusal) okX11_refusal lk_X11_63 rfl rfl rfl (Nat.le_of_ble_eq_true rfl) (by decide) (by decide) dX11_grid_59 ?_
              refine R_i 62 hR (by first | rfl | exact narrow_bI _) dX11_grid_62 (Nat.le_refl _) (Nat.le_refl _) ?_
              exact ⟨congrArg (fun z => some (vi z)) (by decide), rfl, rfl, rfl⟩
            · refine G_iload_n 54 hC rfl dX11_grid_54 ?_
              refine G_if_ge 55 63 hC dX11_grid_55 (by decide) (fun h55 => ?_) (fun h55 => ?_)
              · exact absurd hsz (fun y => y.elim h51 (fun q => absurd q (Int32.not_lt.mpr h55)))
              · refine G_iconst 58 hC (nI 5) (by decide) dX11_grid_58 ?_
                refine G_callS1 59 hC (g_refusal) okX11_refusal lk_X11_63 rfl rfl rfl (Nat.le_of_ble_eq_true rfl) (by decide) (by decide) dX11_grid_59 ?_
                refine R_i 62 hR (by first | rfl | exact narrow_bI _) dX11_grid_62 (Nat.le_refl _) (Nat.le_refl _) ?_
                exact ⟨congrArg (fun z => some (vi z)) (by decide), rfl, rfl, rfl⟩
          · exact absurd ((nI_ltI (by omega) (by omega)).mpr hng3) h44
        · exact absurd h29 hst
      · exact absurd (Int32.not_lt.mp hok.2.2) h16
theorem g_grid_ok (hX : FixX X P c d e N) (hK : FixC c P N) (hP : FixP c P N) {k : Int32} {ng z w : Nat} (hk : nI 0 ≤ k ∧ k ≤ nI 5) (hz : z ≤ 12) (hw : w ≤ 13) (hst : ¬ I (c + 0) 16 = nI 1) (hng : I P 4 = nI ng) (hng3 : ng < 6) (hXl : X < N.2.2) (hPl : P + 5 ≤ N.2.2) : Cn l D B mX11_grid [vr (some X), vi k, vi (nI z), vi (nI w)] I L N 26 182 (some (vi (nI ng))) (upd2 (F_gdI (upd2 I N.2.2 0 k) k (gdN N z) w (N.2.2 + 1) z) P 4 (nI (ng + 1))) L (upd2 (F_gdN (gdN N z) w (N.2.2 + 1) z).1 (P + 1) ng (some N.2.2), (F_gdN (gdN N z) w (N.2.2 + 1) z).2) := by
  have hB := hK.b
  refine Ct.of (M := mX11_grid) (by decide) (Nat.le_of_ble_eq_true rfl) (fun g (hR : Cr l D B RX11 cX11_grid 6 "grid" { frames := 3, cells := 26, slots := 182, locals := 63 } (some .int) 26 182 _ g) => ?_)
  have hC := hR.cx
  have shlt : ∀ a, a < N.2.2 → ∀ j, (F_gdN (gdN N z) w (N.2.2 + 1) j).2.1 a = N.2.1 a := fun a ha j => by
    rw [F_gdN_sh (show a < N.2.2 + 2 by omega)]
    show up (up N.2.1 N.2.2 (1, 2)) (N.2.2 + 1) (16, z) a = _
    rw [up_ne (by omega), up_ne (by omega)]
  have rflt : ∀ a, a < N.2.2 → ∀ j, (F_gdN (gdN N z) w (N.2.2 + 1) j).1 a = N.1 a := fun a ha j => by
    rw [F_gdN_rf (show a < N.2.2 + 2 by omega) (by omega)]
    show upd2 N.1 N.2.2 1 _ a = _
    rw [upd2_ne (by omega)]
  have shA : ∀ j, (F_gdN (gdN N z) w (N.2.2 + 1) j).2.1 N.2.2 = (1, 2) := fun j => by
    rw [F_gdN_sh (show N.2.2 < N.2.2 + 2 by omega)]
    show up (up N.2.1 N.2.2 (1, 2)) (N.2.2 + 1) (16, z) N.2.2 = _
    rw [up_ne (by omega), up_s]
  have shL : ∀ j, (F_gdN (gdN N z) w (N.2.2 + 1) j).2.1 (N.2.2 + 1) = (16, z) := fun j => by
    rw [F_gdN_sh (show N.2.2 + 1 < N.2.2 + 2 by omega)]
    show up (up N.2.1 N.2.2 (1, 2)) (N.2.2 + 1) (16, z) (N.2.2 + 1) = _
    rw [up_s]
  have rfA : ∀ j, (F_gdN (gdN N z) w (N.2.2 + 1) j).1 N.2.2 1 = some (N.2.2 + 1) := fun j => by
    rw [F_gdN_rf (show N.2.2 < N.2.2 + 2 by omega) (by omega)]
    show upd2 N.1 N.2.2 1 (some (N.2.2 + 1)) N.2.2 1 = _
    rw [upd2_row, up_s]
  have iP : F_gdI (upd2 I N.2.2 0 k) k (gdN N z) w (N.2.2 + 1) z P 4 = nI ng := by
    rw [F_gdI_lt (show P < N.2.2 + 2 by omega), upd2_ne (by omega)]; exact hng
  have geL : ∀ j, N.2.2 + 1 < (F_gdN (gdN N z) w (N.2.2 + 1) j).2.2 := fun j => Nat.lt_of_lt_of_le (Nat.lt_succ_self (N.2.2 + 1)) (F_gdN_ge (N := gdN N z) j)
  have hXP1 : X ≠ P + 1 := fun h => by
    have q := hX.sh
    rw [h, hP.gr] at q
    cases q
  have tail : g 102 [some (vr (some X)), some (vi k), some (vi (nI z)), some (vi (nI w)), some (vr (some N.2.2)), some (vi (nI z))] [] (F_gdI (upd2 I N.2.2 0 k) k (gdN N z) w (N.2.2 + 1) z) L (F_gdN (gdN N z) w (N.2.2 + 1) z) (2 + 2 * z) (14 + 14 * z) := by
    refine G_aload_n 102 hC rfl dX11_grid_102 ?_
    refine G_getR 103 hC fl_X11_30_10 ((shlt X hXl z).trans hX.sh) ((congrFun (rflt X hXl z) 2).trans hX.plan) rfl dX11_grid_103 ?_
    refine G_getR 106 hC fl_X11_80_4 ((shlt P (by omega) z).trans hP.sh) ((congrFun (rflt P (by omega) z) 0).trans hP.rgr) rfl dX11_grid_106 ?_
    refine G_aload_n 109 hC rfl dX11_grid_109 ?_
    refine G_getR 110 hC fl_X11_30_10 ((shlt X hXl z).trans hX.sh) ((congrFun (rflt X hXl z) 2).trans hX.plan) rfl dX11_grid_110 ?_
    refine G_getI 113 hC fl_X11_60_4 ((shlt P (by omega) z).trans hP.sh) rfl dX11_grid_113 ?_
    rw [iP]
    refine G_aload 116 hC rfl dX11_grid_116 ?_
    refine G_aast 118 hC ((RX1, TX1, 2)) ((shlt (P + 1) (by omega) z).trans hP.gr) (by decide) (by decide) (shA z) rfl (Or.inl rfl) (rfl) (by omega) (by omega) dX11_grid_118 ?_
    refine G_aload_n 119 hC rfl dX11_grid_119 ?_
    refine G_getR 120 hC fl_X11_30_10 ((shlt X hXl z).trans hX.sh) ((congrFun (upd2_ne hXP1) 2).trans ((congrFun (rflt X hXl z) 2).trans hX.plan)) rfl dX11_grid_120 ?_
    refine G_dup 123 hC rfl dX11_grid_123 ?_
    refine G_getI 124 hC fl_X11_60_4 ((shlt P (by omega) z).trans hP.sh) rfl dX11_grid_124 ?_
    rw [iP]
    refine G_dup_x1 127 hC rfl rfl dX11_grid_127 ?_
    refine G_iconst 128 hC (nI 1) (by decide) dX11_grid_128 ?_
    refine G_iaddN 129 hC dX11_grid_129 ?_
    refine G_putI 130 hC (fp_X11_60_4 _) ((shlt P (by omega) z).trans hP.sh) rfl rfl rfl dX11_grid_130 ?_
    refine R_i 133 hR (by first | rfl | exact narrow_bI _) dX11_grid_133 (by omega) (by omega) ?_
    exact ⟨rfl, rfl, rfl, rfl⟩
  have loop : ∀ (f j : Nat), z - j = f → j ≤ z → g 77 [some (vr (some X)), some (vi k), some (vi (nI z)), some (vi (nI w)), some (vr (some N.2.2)), some (vi (nI j))] [] (F_gdI (upd2 I N.2.2 0 k) k (gdN N z) w (N.2.2 + 1) j) L (F_gdN (gdN N z) w (N.2.2 + 1) j) (2 + 2 * j) (14 + 14 * j) := by
    intro f
    induction f using Nat.strongRecOn with
    | _ f ih =>
      intro j hf hj
      by_cases hw13 : w = 13
      · subst hw13
        refine G_iload 77 hC rfl dX11_grid_77 ?_
        refine G_iload_n 79 hC rfl dX11_grid_79 ?_
        refine G_icmp_ge 80 102 hC dX11_grid_80 (by decide) (fun h80 => ?_) (fun h80 => ?_)
        · have q := (nI_leI (by omega) (by omega)).mp h80
          have ej : j = z := by omega
          subst ej
          exact tail
        · have ai : j < z := by
            rcases Nat.lt_or_ge j z with q | q
            · exact q
            · exact absurd ((nI_leI (by omega) (by omega)).mpr q) h80
          refine G_aload 83 hC rfl dX11_grid_83 ?_
          refine G_getR 85 hC fl_X11_72_1 (shA j) (rfA j) rfl dX11_grid_85 ?_
          refine G_iload 88 hC rfl dX11_grid_88 ?_
          refine G_iload_n 90 hC rfl dX11_grid_90 ?_
          refine G_iload_n 91 hC rfl dX11_grid_91 ?_
          refine G_callS1 92 hC (g_newLine13) okX11_newLine lk_X11_76 rfl rfl rfl (Nat.le_of_ble_eq_true rfl) (by decide) (⟨by show 2 + 2 * j ≤ 26; omega, by show 14 + 14 * j ≤ 182; omega⟩) dX11_grid_92 ?_
          refine G_aastN 95 hC (shL j) (by decide) (by decide) (rfl) (by omega) (by omega) dX11_grid_95 ?_
          first | refine G_iincN 96 hC (by decide) rfl (ls' := [_, _, _, _, _, _]) rfl dX11_grid_96 ?_ | refine G_iinc 96 hC _ rfl (by decide) rfl (ls' := [_, _, _, _, _, _]) rfl dX11_grid_96 ?_
          refine G_goto 99 77 hC dX11_grid_99 (by decide) ?_
          have y := ih (z - (j + 1)) (by omega) (j + 1) rfl (by omega)
          rw [F_gdI_s13 rfl, F_gdN_s13 rfl] at y
          exact G_wide hC (by omega) (by omega) y
      · have hw12 : w ≤ 12 := by omega
        refine G_iload 77 hC rfl dX11_grid_77 ?_
        refine G_iload_n 79 hC rfl dX11_grid_79 ?_
        refine G_icmp_ge 80 102 hC dX11_grid_80 (by decide) (fun h80 => ?_) (fun h80 => ?_)
        · have q := (nI_leI (by omega) (by omega)).mp h80
          have ej : j = z := by omega
          subst ej
          exact tail
        · have ai : j < z := by
            rcases Nat.lt_or_ge j z with q | q
            · exact q
            · exact absurd ((nI_leI (by omega) (by omega)).mpr q) h80
          refine G_aload 83 hC rfl dX11_grid_83 ?_
          refine G_getR 85 hC fl_X11_72_1 (shA j) (rfA j) rfl dX11_grid_85 ?_
          refine G_iload 88 hC rfl dX11_grid_88 ?_
          refine G_iload_n 90 hC rfl dX11_grid_90 ?_
          refine G_iload_n 91 hC rfl dX11_grid_91 ?_
          refine G_callSn 92 hC (g_newLine hw12) okX11_newLine lk_X11_76 rfl rfl rfl (Nat.le_of_ble_eq_true rfl) (by decide) (⟨by show 2 + 2 * j + 2 ≤ 26; omega, by show 14 + 14 * j + 14 ≤ 182; omega⟩) dX11_grid_92 ?_
          refine G_aast 95 hC ((RX3, TX3, 2)) ((nlN_sh (geL j)).trans (shL j)) (by decide) (by decide) (nlN_new) rfl (Or.inl rfl) (rfl) (by omega) (by omega) dX11_grid_95 ?_
          first | refine G_iincN 96 hC (by decide) rfl (ls' := [_, _, _, _, _, _]) rfl dX11_grid_96 ?_ | refine G_iinc 96 hC _ rfl (by decide) rfl (ls' := [_, _, _, _, _, _]) rfl dX11_grid_96 ?_
          refine G_goto 99 77 hC dX11_grid_99 (by decide) ?_
          have y := ih (z - (j + 1)) (by omega) (j + 1) rfl (by omega)
          rw [F_gdI_sw hw13, F_gdN_sw hw13] at y
          exact G_wide hC (by omega) (by omega) y
  show g 0 [some (vr (some X)), some (vi k), some (vi (nI z)), some (vi (nI w)), none, none] [] _ _ N 0 0
  refine G_iload_n 0 hC rfl dX11_grid_0 ?_
  refine G_callS1 1 hC (g_isKind) okX11_isKind lk_X11_53 rfl rfl rfl (Nat.le_of_ble_eq_true rfl) (by decide) (by decide) dX11_grid_1 ?_
  first | refine G_if_eq_b 4 19 hC dX11_grid_4 (by decide) (fun h4 => ?_) (fun h4 => ?_) | refine G_if_eq 4 19 hC dX11_grid_4 (by decide) (fun h4 => ?_) (fun h4 => ?_)
  · exact absurd hk h4
  · refine G_iload_n 7 hC rfl dX11_grid_7 ?_
    refine G_bipush 8 hC (nI 12) (by decide) dX11_grid_8 ?_
    refine G_icmp_gt 10 19 hC dX11_grid_10 (by decide) (fun h10 => ?_) (fun h10 => ?_)
    · exact absurd ((nI_ltI (by omega) (by omega)).mp h10) (by omega)
    · refine G_iload_n 13 hC rfl dX11_grid_13 ?_
      refine G_bipush 14 hC (nI 13) (by decide) dX11_grid_14 ?_
      refine G_icmp_le 16 21 hC dX11_grid_16 (by decide) (fun h16 => ?_) (fun h16 => ?_)
      · refine G_aload_n 21 hC rfl dX11_grid_21 ?_
        refine G_getR 22 hC fl_X11_39_10 (hX.sh) (hX.course) rfl dX11_grid_22 ?_
        refine G_getI 25 hC fl_X11_57_0 (hB 0 _ rfl (by decide)) rfl dX11_grid_25 ?_
        refine G_iconst 28 hC (nI 1) (by decide) dX11_grid_28 ?_
        refine G_icmp_ne 29 35 hC dX11_grid_29 (by decide) (fun h29 => ?_) (fun h29 => ?_)
        · refine G_aload_n 35 hC rfl dX11_grid_35 ?_
          refine G_getR 36 hC fl_X11_30_10 (hX.sh) (hX.plan) rfl dX11_grid_36 ?_
          refine G_getI 39 hC fl_X11_60_4 (hP.sh) rfl dX11_grid_39 ?_
          rw [hng]
          refine G_bipush 42 hC (nI 6) (by decide) dX11_grid_42 ?_
          refine G_icmp_lt 44 50 hC dX11_grid_44 (by decide) (fun h44 => ?_) (fun h44 => ?_)
          · refine G_iload_n 50 hC rfl dX11_grid_50 ?_
            refine G_if_lt 51 58 hC dX11_grid_51 (by decide) (fun h51 => ?_) (fun h51 => ?_)
            · exact absurd h51 (nI_pos (by omega))
            · refine G_iload_n 54 hC rfl dX11_grid_54 ?_
              refine G_if_ge 55 63 hC dX11_grid_55 (by decide) (fun h55 => ?_) (fun h55 => ?_)
              · refine G_new 63 hC (ci := 1) (RX1, TX1, 2) rfl cl_X11_67 it_X1 in_X1 (by decide) (by decide) dX11_grid_63 ?_
                refine G_dup 66 hC rfl dX11_grid_66 ?_
                refine G_iload_n 67 hC rfl dX11_grid_67 ?_
                refine G_iload_n 68 hC rfl dX11_grid_68 ?_
                refine G_callI0 69 hC (g_Grid_init (up_s _ _ _) (Nat.lt_succ_self _) hz) okX1_init lk_X11_69 rfl rfl (Nat.le_of_ble_eq_true rfl) (by decide) (by decide) dX11_grid_69 ?_
                refine G_astore 72 hC (by decide) (ls' := [_, _, _, _, _, _]) rfl dX11_grid_72 ?_
                refine G_iconst 74 hC (nI 0) (by decide) dX11_grid_74 ?_
                refine G_istore 75 hC (by decide) (ls' := [_, _, _, _, _, _]) rfl dX11_grid_75 ?_
                exact loop _ 0 rfl (Nat.zero_le _)
              · exact absurd (Int32.not_lt.mp (nI_pos (by omega))) h55
          · exact absurd ((nI_ltI (by omega) (by omega)).mpr hng3) h44
        · exact absurd h29 hst
      · exact absurd ((nI_leI (by omega) (by omega)).mpr hw) h16
theorem g_way_bad (hX : FixX X P c d e N) {z p f nd bd : Int32} {a : Int64} (hb : ¬ ((nI 1 ≤ p ∧ p ≤ 100000) ∧ ¬ a = -9223372036854775808 ∧ ¬ f < 0 ∧ ((nI 0 ≤ nd ∧ nd ≤ I X 1) ∧ nI 1 ≤ bd ∧ bd ≤ nI 1000))) : Cq l D B mX11_way [vr (some X), vi z, vi p, vl a, vi f, vi nd, vi bd] I L N (some (vi (-1))) I L := by
  refine Ct.of (M := mX11_way) (by decide) (Nat.le_of_ble_eq_true rfl) (fun g (hR : Cr l D B RX11 cX11_way 9 "way" { frames := 3, cells := 0, slots := 0, locals := 70 } (some .int) 0 0 _ g) => ?_)
  have hC := hR.cx
  show g 0 [some (vr (some X)), some (vi z), some (vi p), some (vl a), none, some (vi f), some (vi nd), some (vi bd), none] [] _ _ N 0 0
  refine G_iload_n 0 hC rfl dX11_way_0 ?_
  refine G_iconst 1 hC (nI 1) (by decide) dX11_way_1 ?_
  refine G_icmp_lt 2 24 hC dX11_way_2 (by decide) (fun h2 => ?_) (fun h2 => ?_)
  · refine G_iconst 24 hC (-1) (by decide) dX11_way_24 ?_
    refine R_i 25 hR (by first | rfl | exact narrow_bI _) dX11_way_25 (Nat.le_refl _) (Nat.le_refl _) ?_
    exact ⟨rfl, rfl, rfl, rfl⟩
  · refine G_iload_n 5 hC rfl dX11_way_5 ?_
    refine G_ldc 6 hC kc_X11_111 dX11_way_6 ?_
    refine G_icmp_gt 8 24 hC dX11_way_8 (by decide) (fun h8 => ?_) (fun h8 => ?_)
    · refine G_iconst 24 hC (-1) (by decide) dX11_way_24 ?_
      refine R_i 25 hR (by first | rfl | exact narrow_bI _) dX11_way_25 (Nat.le_refl _) (Nat.le_refl _) ?_
      exact ⟨rfl, rfl, rfl, rfl⟩
    · refine G_lload_n 11 hC rfl dX11_way_11 ?_
      refine G_ldc2 12 hC kc_X11_109 dX11_way_12 ?_
      refine G_lcmp 15 hC dX11_way_15 ?_
      first | refine G_if_eq_b 16 24 hC dX11_way_16 (by decide) (fun h16 => ?_) (fun h16 => ?_) | refine G_if_eq 16 24 hC dX11_way_16 (by decide) (fun h16 => ?_) (fun h16 => ?_)
      · refine G_iconst 24 hC (-1) (by decide) dX11_way_24 ?_
        refine R_i 25 hR (by first | rfl | exact narrow_bI _) dX11_way_25 (Nat.le_refl _) (Nat.le_refl _) ?_
        exact ⟨rfl, rfl, rfl, rfl⟩
      · refine G_iload 19 hC rfl dX11_way_19 ?_
        refine G_if_ge 21 26 hC dX11_way_21 (by decide) (fun h21 => ?_) (fun h21 => ?_)
        · refine G_aload_n 26 hC rfl dX11_way_26 ?_
          refine G_iload 27 hC rfl dX11_way_27 ?_
          refine G_iload 29 hC rfl dX11_way_29 ?_
          refine G_callV1 31 hC (g_isLoad hX) okX11_isLoad lk_X11_112 (hX.sh) rfl rfl rfl rfl (Nat.le_of_ble_eq_true rfl) (by decide) (by decide) dX11_way_31 ?_
          first | refine G_if_ne_b 34 39 hC dX11_way_34 (by decide) (fun h34 => ?_) (fun h34 => ?_) | refine G_if_ne 34 39 hC dX11_way_34 (by decide) (fun h34 => ?_) (fun h34 => ?_)
          · exact absurd ⟨⟨Int32.not_lt.mp h2, Int32.not_lt.mp h8⟩, fun y => h16 ((lg_cmp_eq _ _).mpr y), Int32.not_lt.mpr h21, h34⟩ hb
          · refine G_iconst 37 hC (-1) (by decide) dX11_way_37 ?_
            refine R_i 38 hR (by first | rfl | exact narrow_bI _) dX11_way_38 (Nat.le_refl _) (Nat.le_refl _) ?_
            exact ⟨rfl, rfl, rfl, rfl⟩
        · refine G_iconst 24 hC (-1) (by decide) dX11_way_24 ?_
          refine R_i 25 hR (by first | rfl | exact narrow_bI _) dX11_way_25 (Nat.le_refl _) (Nat.le_refl _) ?_
          exact ⟨rfl, rfl, rfl, rfl⟩
theorem g_way_ref (hX : FixX X P c d e N) (hK : FixC c P N) (hP : FixP c P N) {z p f nd bd : Int32} {a : Int64} (hok : (nI 1 ≤ p ∧ p ≤ 100000) ∧ ¬ a = -9223372036854775808 ∧ ¬ f < 0 ∧ ((nI 0 ≤ nd ∧ nd ≤ I X 1) ∧ nI 1 ≤ bd ∧ bd ≤ nI 1000)) (hr : ¬ F_rt (I (c + 0) 16) (I P 5) = 0) : Cq l D B mX11_way [vr (some X), vi z, vi p, vl a, vi f, vi nd, vi bd] I L N (some (vi (F_rt (I (c + 0) 16) (I P 5)))) I L := by
  refine Ct.of (M := mX11_way) (by decide) (Nat.le_of_ble_eq_true rfl) (fun g (hR : Cr l D B RX11 cX11_way 9 "way" { frames := 3, cells := 0, slots := 0, locals := 70 } (some .int) 0 0 _ g) => ?_)
  have hC := hR.cx
  show g 0 [some (vr (some X)), some (vi z), some (vi p), some (vl a), none, some (vi f), some (vi nd), some (vi bd), none] [] _ _ N 0 0
  refine G_iload_n 0 hC rfl dX11_way_0 ?_
  refine G_iconst 1 hC (nI 1) (by decide) dX11_way_1 ?_
  refine G_icmp_lt 2 24 hC dX11_way_2 (by decide) (fun h2 => ?_) (fun h2 => ?_)
  · exact absurd h2 (Int32.not_lt.mpr hok.1.1)
  · refine G_iload_n 5 hC rfl dX11_way_5 ?_
    refine G_ldc 6 hC kc_X11_111 dX11_way_6 ?_
    refine G_icmp_gt 8 24 hC dX11_way_8 (by decide) (fun h8 => ?_) (fun h8 => ?_)
    · exact absurd h8 (Int32.not_lt.mpr hok.1.2)
    · refine G_lload_n 11 hC rfl dX11_way_11 ?_
      refine G_ldc2 12 hC kc_X11_109 dX11_way_12 ?_
      refine G_lcmp 15 hC dX11_way_15 ?_
      first | refine G_if_eq_b 16 24 hC dX11_way_16 (by decide) (fun h16 => ?_) (fun h16 => ?_) | refine G_if_eq 16 24 hC dX11_way_16 (by decide) (fun h16 => ?_) (fun h16 => ?_)
      · exact absurd ((lg_cmp_eq _ _).mp h16) hok.2.1
      · refine G_iload 19 hC rfl dX11_way_19 ?_
        refine G_if_ge 21 26 hC dX11_way_21 (by decide) (fun h21 => ?_) (fun h21 => ?_)
        · refine G_aload_n 26 hC rfl dX11_way_26 ?_
          refine G_iload 27 hC rfl dX11_way_27 ?_
          refine G_iload 29 hC rfl dX11_way_29 ?_
          refine G_callV1 31 hC (g_isLoad hX) okX11_isLoad lk_X11_112 (hX.sh) rfl rfl rfl rfl (Nat.le_of_ble_eq_true rfl) (by decide) (by decide) dX11_way_31 ?_
          first | refine G_if_ne_b 34 39 hC dX11_way_34 (by decide) (fun h34 => ?_) (fun h34 => ?_) | refine G_if_ne 34 39 hC dX11_way_34 (by decide) (fun h34 => ?_) (fun h34 => ?_)
          · refine G_aload_n 39 hC rfl dX11_way_39 ?_
            refine G_callV1 40 hC (g_refusalOfTask hX hK hP) okX11_refusalOfTask lk_X11_116 (hX.sh) rfl rfl rfl rfl (Nat.le_of_ble_eq_true rfl) (by decide) (by decide) dX11_way_40 ?_
            refine G_istore 43 hC (by decide) (ls' := [_, _, _, _, _, _, _, _, _]) rfl dX11_way_43 ?_
            refine G_iload 45 hC rfl dX11_way_45 ?_
            first | refine G_if_eq_b 47 53 hC dX11_way_47 (by decide) (fun h47 => ?_) (fun h47 => ?_) | refine G_if_eq 47 53 hC dX11_way_47 (by decide) (fun h47 => ?_) (fun h47 => ?_)
            · exact absurd h47 hr
            · refine G_iload 50 hC rfl dX11_way_50 ?_
              refine R_i 52 hR (by first | rfl | exact narrow_bI _) dX11_way_52 (Nat.le_refl _) (Nat.le_refl _) ?_
              exact ⟨rfl, rfl, rfl, rfl⟩
          · exact absurd hok.2.2.2 h34
        · exact absurd (Int32.not_lt.mp hok.2.2.1) h21
theorem g_way_ok (hX : FixX X P c d e N) (hK : FixC c P N) (hP : FixP c P N) {nt : Nat} {z p f nd bd : Int32} {a : Int64} (hok : (nI 1 ≤ p ∧ p ≤ 100000) ∧ ¬ a = -9223372036854775808 ∧ ¬ f < 0 ∧ ((nI 0 ≤ nd ∧ nd ≤ I X 1) ∧ nI 1 ≤ bd ∧ bd ≤ nI 1000)) (hst : ¬ I (c + 0) 16 = nI 1) (hnt : I P 5 = nI nt) (hnt2 : nt < 20) (hPl : P + 5 ≤ N.2.2) : Cn l D B mX11_way [vr (some X), vi z, vi p, vl a, vi f, vi nd, vi bd] I L N 1 6 (some (vi (nI nt))) (upd2 (upd2 (upd2 (T_I I N.2.2 (if z = 0 then nI 0 else nI 1) nd bd) N.2.2 3 p) N.2.2 5 f) P 5 (nI (nt + 1))) (upd2 L N.2.2 4 a) (upd2 N.1 (P + 2) nt (some N.2.2), (up N.2.1 N.2.2 (8, 6), N.2.2 + 1)) := by
  have hr0 : F_rt (I (c + 0) 16) (I P 5) = nI 0 := by unfold F_rt; rw [if_neg hst, hnt, if_pos ((nI_ltI (by omega) (by omega)).mpr hnt2)]
  refine Ct.of (M := mX11_way) (by decide) (Nat.le_of_ble_eq_true rfl) (fun g (hR : Cr l D B RX11 cX11_way 9 "way" { frames := 3, cells := 1, slots := 6, locals := 70 } (some .int) 1 6 _ g) => ?_)
  have hC := hR.cx
  show g 0 [some (vr (some X)), some (vi z), some (vi p), some (vl a), none, some (vi f), some (vi nd), some (vi bd), none] [] _ _ N 0 0
  refine G_iload_n 0 hC rfl dX11_way_0 ?_
  refine G_iconst 1 hC (nI 1) (by decide) dX11_way_1 ?_
  refine G_icmp_lt 2 24 hC dX11_way_2 (by decide) (fun h2 => ?_) (fun h2 => ?_)
  · exact absurd h2 (Int32.not_lt.mpr hok.1.1)
  · refine G_iload_n 5 hC rfl dX11_way_5 ?_
    refine G_ldc 6 hC kc_X11_111 dX11_way_6 ?_
    refine G_icmp_gt 8 24 hC dX11_way_8 (by decide) (fun h8 => ?_) (fun h8 => ?_)
    · exact absurd h8 (Int32.not_lt.mpr hok.1.2)
    · refine G_lload_n 11 hC rfl dX11_way_11 ?_
      refine G_ldc2 12 hC kc_X11_109 dX11_way_12 ?_
      refine G_lcmp 15 hC dX11_way_15 ?_
      first | refine G_if_eq_b 16 24 hC dX11_way_16 (by decide) (fun h16 => ?_) (fun h16 => ?_) | refine G_if_eq 16 24 hC dX11_way_16 (by decide) (fun h16 => ?_) (fun h16 => ?_)
      · exact absurd ((lg_cmp_eq _ _).mp h16) hok.2.1
      · refine G_iload 19 hC rfl dX11_way_19 ?_
        refine G_if_ge 21 26 hC dX11_way_21 (by decide) (fun h21 => ?_) (fun h21 => ?_)
        · refine G_aload_n 26 hC rfl dX11_way_26 ?_
          refine G_iload 27 hC rfl dX11_way_27 ?_
          refine G_iload 29 hC rfl dX11_way_29 ?_
          refine G_callV1 31 hC (g_isLoad hX) okX11_isLoad lk_X11_112 (hX.sh) rfl rfl rfl rfl (Nat.le_of_ble_eq_true rfl) (by decide) (by decide) dX11_way_31 ?_
          first | refine G_if_ne_b 34 39 hC dX11_way_34 (by decide) (fun h34 => ?_) (fun h34 => ?_) | refine G_if_ne 34 39 hC dX11_way_34 (by decide) (fun h34 => ?_) (fun h34 => ?_)
          · refine G_aload_n 39 hC rfl dX11_way_39 ?_
            refine G_callV1 40 hC (g_refusalOfTask hX hK hP) okX11_refusalOfTask lk_X11_116 (hX.sh) rfl rfl rfl rfl (Nat.le_of_ble_eq_true rfl) (by decide) (by decide) dX11_way_40 ?_
            rw [hr0]
            refine G_istore 43 hC (by decide) (ls' := [_, _, _, _, _, _, _, _, _]) rfl dX11_way_43 ?_
            refine G_iload 45 hC rfl dX11_way_45 ?_
            first | refine G_if_eq_b 47 53 hC dX11_way_47 (by decide) (fun h47 => ?_) (fun h47 => ?_) | refine G_if_eq 47 53 hC dX11_way_47 (by decide) (fun h47 => ?_) (fun h47 => ?_)
            · refine G_aload_n 53 hC rfl dX11_way_53 ?_
              refine G_getR 54 hC fl_X11_30_10 (hX.sh) (hX.plan) rfl dX11_way_54 ?_
              refine G_new 57 hC (ci := 8) (RX9, TX9, 6) rfl cl_X11_120 it_X9 in_X9 (by decide) (by decide) dX11_way_57 ?_
              refine G_dup 60 hC rfl dX11_way_60 ?_
              refine G_iload_n 61 hC rfl dX11_way_61 ?_
              refine G_iload_n 62 hC rfl dX11_way_62 ?_
              refine G_lload_n 63 hC rfl dX11_way_63 ?_
              refine G_iload 64 hC rfl dX11_way_64 ?_
              refine G_iload 66 hC rfl dX11_way_66 ?_
              refine G_iload 68 hC rfl dX11_way_68 ?_
              refine G_callI0 70 hC (g_Way_init (up_s _ _ _)) okX9_init lk_X11_122 rfl rfl (Nat.le_of_ble_eq_true rfl) (by decide) (by decide) dX11_way_70 ?_
              have s1 : up N.2.1 N.2.2 (8, 6) P = (4, 8) := by rw [up_ne (by omega)]; exact hP.sh
              have s2 : up N.2.1 N.2.2 (8, 6) (P + 2) = (18, 20) := by rw [up_ne (by omega)]; exact hP.tk
              have s3 : (upd2 (upd2 (T_I I N.2.2 (if z = 0 then nI 0 else nI 1) nd bd) N.2.2 3 p) N.2.2 5 f) P 5 = nI nt := by
                unfold T_I
                simp (disch := omega) only [upd2_ne]
                exact hnt
              refine G_callVn 73 hC (g_addTask s1 hP.rtk s2 s3 hnt2 (Or.inl (up_s _ _ _))) okX4_addTask lk_X11_125 (s1) rfl rfl rfl rfl (Nat.le_of_ble_eq_true rfl) (by decide) (by decide) dX11_way_73 ?_
              refine R_i 76 hR (by first | rfl | exact narrow_bI _) dX11_way_76 (Nat.le_refl _) (Nat.le_refl _) ?_
              exact ⟨rfl, rfl, rfl, rfl⟩
            · exact absurd rfl h47
          · exact absurd hok.2.2.2 h34
        · exact absurd (Int32.not_lt.mp hok.2.2.1) h21
theorem g_reader_bad (hX : FixX X P c d e N) (hP : FixP c P N) {ng : Nat} (hng : I P 4 = nI ng) (hng2 : ng ≤ 6) (hGr : GrP N P ng) {z x kd nd bd : Int32} (hb : ¬ (inR x ng ∧ (nI 0 ≤ kd ∧ kd ≤ nI 5) ∧ ((nI 0 ≤ nd ∧ nd ≤ I X 1) ∧ nI 1 ≤ bd ∧ bd ≤ nI 1000))) : Cq l D B mX11_reader [vr (some X), vi z, vi x, vi kd, vi nd, vi bd] I L N (some (vi (-1))) I L := by
  refine Ct.of (M := mX11_reader) (by decide) (Nat.le_of_ble_eq_true rfl) (fun g (hR : Cr l D B RX11 cX11_reader 8 "reader" { frames := 3, cells := 0, slots := 0, locals := 68 } (some .int) 0 0 _ g) => ?_)
  have hC := hR.cx
  show g 0 [some (vr (some X)), some (vi z), some (vi x), some (vi kd), some (vi nd), some (vi bd), none, none] [] _ _ N 0 0
  refine G_aload_n 0 hC rfl dX11_reader_0 ?_
  refine G_getR 1 hC fl_X11_30_10 (hX.sh) (hX.plan) rfl dX11_reader_1 ?_
  refine G_iload_n 4 hC rfl dX11_reader_4 ?_
  by_cases hx : inR x ng
  · obtain ⟨g0, hg0, rfl⟩ := inR_of hx (by omega)
    obtain ⟨ga, la, zz, hG⟩ := hGr g0 hg0
    refine G_callV1 5 hC (c_gridAt hP.sh hP.rgr hP.gr hng hng2 hg0) okX4_gridAt lk_X11_84 (hP.sh) rfl rfl rfl rfl (Nat.le_of_ble_eq_true rfl) (by decide) (by decide) dX11_reader_5 ?_
    rw [hG.1]
    refine G_astore 8 hC (by decide) (ls' := [_, _, _, _, _, _, _, _]) rfl dX11_reader_8 ?_
    refine G_aload 10 hC rfl dX11_reader_10 ?_
    refine G_ifnull 12 33 hC dX11_reader_12 (by decide) (fun h12 => ?_) (fun a12 h12 => ?_)
    · exact absurd h12 (by simp)
    · refine G_iload_n 15 hC rfl dX11_reader_15 ?_
      refine G_callS1 16 hC (g_isKind) okX11_isKind lk_X11_53 rfl rfl rfl (Nat.le_of_ble_eq_true rfl) (by decide) (by decide) dX11_reader_16 ?_
      first | refine G_if_eq_b 19 33 hC dX11_reader_19 (by decide) (fun h19 => ?_) (fun h19 => ?_) | refine G_if_eq 19 33 hC dX11_reader_19 (by decide) (fun h19 => ?_) (fun h19 => ?_)
      · refine G_iconst 33 hC (-1) (by decide) dX11_reader_33 ?_
        refine R_i 34 hR (by first | rfl | exact narrow_bI _) dX11_reader_34 (Nat.le_refl _) (Nat.le_refl _) ?_
        exact ⟨rfl, rfl, rfl, rfl⟩
      · refine G_aload_n 22 hC rfl dX11_reader_22 ?_
        refine G_iload 23 hC rfl dX11_reader_23 ?_
        refine G_iload 25 hC rfl dX11_reader_25 ?_
        refine G_callV1 27 hC (g_isLoad hX) okX11_isLoad lk_X11_112 (hX.sh) rfl rfl rfl rfl (Nat.le_of_ble_eq_true rfl) (by decide) (by decide) dX11_reader_27 ?_
        first | refine G_if_ne_b 30 35 hC dX11_reader_30 (by decide) (fun h30 => ?_) (fun h30 => ?_) | refine G_if_ne 30 35 hC dX11_reader_30 (by decide) (fun h30 => ?_) (fun h30 => ?_)
        · exact absurd ⟨hx, h19, h30⟩ hb
        · refine G_iconst 33 hC (-1) (by decide) dX11_reader_33 ?_
          refine R_i 34 hR (by first | rfl | exact narrow_bI _) dX11_reader_34 (Nat.le_refl _) (Nat.le_refl _) ?_
          exact ⟨rfl, rfl, rfl, rfl⟩
  · refine G_callV1 5 hC (c_gridAt_no hP.sh hP.rgr hP.gr hng hng2 hx) okX4_gridAt lk_X11_84 (hP.sh) rfl rfl rfl rfl (Nat.le_of_ble_eq_true rfl) (by decide) (by decide) dX11_reader_5 ?_
    refine G_astore 8 hC (by decide) (ls' := [_, _, _, _, _, _, _, _]) rfl dX11_reader_8 ?_
    refine G_aload 10 hC rfl dX11_reader_10 ?_
    refine G_ifnull 12 33 hC dX11_reader_12 (by decide) (fun h12 => ?_) (fun a12 h12 => ?_)
    · refine G_iconst 33 hC (-1) (by decide) dX11_reader_33 ?_
      refine R_i 34 hR (by first | rfl | exact narrow_bI _) dX11_reader_34 (Nat.le_refl _) (Nat.le_refl _) ?_
      exact ⟨rfl, rfl, rfl, rfl⟩
    · cases h12
theorem g_reader_ref (hX : FixX X P c d e N) (hK : FixC c P N) (hP : FixP c P N) {ng : Nat} (hng : I P 4 = nI ng) (hng2 : ng ≤ 6) {g0 ga la zz : Nat} (hg : g0 < ng) (hG : GrA N P g0 ga la zz) {z kd nd bd : Int32} (hok : (nI 0 ≤ kd ∧ kd ≤ nI 5) ∧ ((nI 0 ≤ nd ∧ nd ≤ I X 1) ∧ nI 1 ≤ bd ∧ bd ≤ nI 1000)) (hr : ¬ F_rt (I (c + 0) 16) (I P 5) = 0) : Cq l D B mX11_reader [vr (some X), vi z, vi (nI g0), vi kd, vi nd, vi bd] I L N (some (vi (F_rt (I (c + 0) 16) (I P 5)))) I L := by
  refine Ct.of (M := mX11_reader) (by decide) (Nat.le_of_ble_eq_true rfl) (fun g (hR : Cr l D B RX11 cX11_reader 8 "reader" { frames := 3, cells := 0, slots := 0, locals := 68 } (some .int) 0 0 _ g) => ?_)
  have hC := hR.cx
  show g 0 [some (vr (some X)), some (vi z), some (vi (nI g0)), some (vi kd), some (vi nd), some (vi bd), none, none] [] _ _ N 0 0
  refine G_aload_n 0 hC rfl dX11_reader_0 ?_
  refine G_getR 1 hC fl_X11_30_10 (hX.sh) (hX.plan) rfl dX11_reader_1 ?_
  refine G_iload_n 4 hC rfl dX11_reader_4 ?_
  refine G_callV1 5 hC (c_gridAt hP.sh hP.rgr hP.gr hng hng2 hg) okX4_gridAt lk_X11_84 (hP.sh) rfl rfl rfl rfl (Nat.le_of_ble_eq_true rfl) (by decide) (by decide) dX11_reader_5 ?_
  rw [hG.1]
  refine G_astore 8 hC (by decide) (ls' := [_, _, _, _, _, _, _, _]) rfl dX11_reader_8 ?_
  refine G_aload 10 hC rfl dX11_reader_10 ?_
  refine G_ifnull 12 33 hC dX11_reader_12 (by decide) (fun h12 => ?_) (fun a12 h12 => ?_)
  · exact absurd h12 (by simp)
  · refine G_iload_n 15 hC rfl dX11_reader_15 ?_
    refine G_callS1 16 hC (g_isKind) okX11_isKind lk_X11_53 rfl rfl rfl (Nat.le_of_ble_eq_true rfl) (by decide) (by decide) dX11_reader_16 ?_
    first | refine G_if_eq_b 19 33 hC dX11_reader_19 (by decide) (fun h19 => ?_) (fun h19 => ?_) | refine G_if_eq 19 33 hC dX11_reader_19 (by decide) (fun h19 => ?_) (fun h19 => ?_)
    · exact absurd hok.1 h19
    · refine G_aload_n 22 hC rfl dX11_reader_22 ?_
      refine G_iload 23 hC rfl dX11_reader_23 ?_
      refine G_iload 25 hC rfl dX11_reader_25 ?_
      refine G_callV1 27 hC (g_isLoad hX) okX11_isLoad lk_X11_112 (hX.sh) rfl rfl rfl rfl (Nat.le_of_ble_eq_true rfl) (by decide) (by decide) dX11_reader_27 ?_
      first | refine G_if_ne_b 30 35 hC dX11_reader_30 (by decide) (fun h30 => ?_) (fun h30 => ?_) | refine G_if_ne 30 35 hC dX11_reader_30 (by decide) (fun h30 => ?_) (fun h30 => ?_)
      · refine G_aload_n 35 hC rfl dX11_reader_35 ?_
        refine G_callV1 36 hC (g_refusalOfTask hX hK hP) okX11_refusalOfTask lk_X11_116 (hX.sh) rfl rfl rfl rfl (Nat.le_of_ble_eq_true rfl) (by decide) (by decide) dX11_reader_36 ?_
        refine G_istore 39 hC (by decide) (ls' := [_, _, _, _, _, _, _, _]) rfl dX11_reader_39 ?_
        refine G_iload 41 hC rfl dX11_reader_41 ?_
        first | refine G_if_eq_b 43 49 hC dX11_reader_43 (by decide) (fun h43 => ?_) (fun h43 => ?_) | refine G_if_eq 43 49 hC dX11_reader_43 (by decide) (fun h43 => ?_) (fun h43 => ?_)
        · exact absurd h43 hr
        · refine G_iload 46 hC rfl dX11_reader_46 ?_
          refine R_i 48 hR (by first | rfl | exact narrow_bI _) dX11_reader_48 (Nat.le_refl _) (Nat.le_refl _) ?_
          exact ⟨rfl, rfl, rfl, rfl⟩
      · exact absurd hok.2 h30
theorem g_reader_ok (hX : FixX X P c d e N) (hK : FixC c P N) (hP : FixP c P N) {ng : Nat} (hng : I P 4 = nI ng) (hng2 : ng ≤ 6) {g0 ga la zz nt : Nat} (hg : g0 < ng) (hG : GrA N P g0 ga la zz) {z kd nd bd : Int32} (hok : (nI 0 ≤ kd ∧ kd ≤ nI 5) ∧ ((nI 0 ≤ nd ∧ nd ≤ I X 1) ∧ nI 1 ≤ bd ∧ bd ≤ nI 1000)) (hst : ¬ I (c + 0) 16 = nI 1) (hnt : I P 5 = nI nt) (hnt2 : nt < 20) (hPl : P + 5 ≤ N.2.2) : Cn l D B mX11_reader [vr (some X), vi z, vi (nI g0), vi kd, vi nd, vi bd] I L N 1 5 (some (vi (nI nt))) (upd2 (upd2 (T_I I N.2.2 (if z = 0 then nI 2 else nI 3) nd bd) N.2.2 4 kd) P 5 (nI (nt + 1))) L (upd2 (upd2 N.1 N.2.2 3 (some ga)) (P + 2) nt (some N.2.2), (up N.2.1 N.2.2 (5, 5), N.2.2 + 1)) := by
  have hr0 : F_rt (I (c + 0) 16) (I P 5) = nI 0 := by unfold F_rt; rw [if_neg hst, hnt, if_pos ((nI_ltI (by omega) (by omega)).mpr hnt2)]
  refine Ct.of (M := mX11_reader) (by decide) (Nat.le_of_ble_eq_true rfl) (fun g (hR : Cr l D B RX11 cX11_reader 8 "reader" { frames := 3, cells := 1, slots := 5, locals := 68 } (some .int) 1 5 _ g) => ?_)
  have hC := hR.cx
  show g 0 [some (vr (some X)), some (vi z), some (vi (nI g0)), some (vi kd), some (vi nd), some (vi bd), none, none] [] _ _ N 0 0
  refine G_aload_n 0 hC rfl dX11_reader_0 ?_
  refine G_getR 1 hC fl_X11_30_10 (hX.sh) (hX.plan) rfl dX11_reader_1 ?_
  refine G_iload_n 4 hC rfl dX11_reader_4 ?_
  refine G_callV1 5 hC (c_gridAt hP.sh hP.rgr hP.gr hng hng2 hg) okX4_gridAt lk_X11_84 (hP.sh) rfl rfl rfl rfl (Nat.le_of_ble_eq_true rfl) (by decide) (by decide) dX11_reader_5 ?_
  rw [hG.1]
  refine G_astore 8 hC (by decide) (ls' := [_, _, _, _, _, _, _, _]) rfl dX11_reader_8 ?_
  refine G_aload 10 hC rfl dX11_reader_10 ?_
  refine G_ifnull 12 33 hC dX11_reader_12 (by decide) (fun h12 => ?_) (fun a12 h12 => ?_)
  · exact absurd h12 (by simp)
  · refine G_iload_n 15 hC rfl dX11_reader_15 ?_
    refine G_callS1 16 hC (g_isKind) okX11_isKind lk_X11_53 rfl rfl rfl (Nat.le_of_ble_eq_true rfl) (by decide) (by decide) dX11_reader_16 ?_
    first | refine G_if_eq_b 19 33 hC dX11_reader_19 (by decide) (fun h19 => ?_) (fun h19 => ?_) | refine G_if_eq 19 33 hC dX11_reader_19 (by decide) (fun h19 => ?_) (fun h19 => ?_)
    · exact absurd hok.1 h19
    · refine G_aload_n 22 hC rfl dX11_reader_22 ?_
      refine G_iload 23 hC rfl dX11_reader_23 ?_
      refine G_iload 25 hC rfl dX11_reader_25 ?_
      refine G_callV1 27 hC (g_isLoad hX) okX11_isLoad lk_X11_112 (hX.sh) rfl rfl rfl rfl (Nat.le_of_ble_eq_true rfl) (by decide) (by decide) dX11_reader_27 ?_
      first | refine G_if_ne_b 30 35 hC dX11_reader_30 (by decide) (fun h30 => ?_) (fun h30 => ?_) | refine G_if_ne 30 35 hC dX11_reader_30 (by decide) (fun h30 => ?_) (fun h30 => ?_)
      · refine G_aload_n 35 hC rfl dX11_reader_35 ?_
        refine G_callV1 36 hC (g_refusalOfTask hX hK hP) okX11_refusalOfTask lk_X11_116 (hX.sh) rfl rfl rfl rfl (Nat.le_of_ble_eq_true rfl) (by decide) (by decide) dX11_reader_36 ?_
        rw [hr0]
        refine G_istore 39 hC (by decide) (ls' := [_, _, _, _, _, _, _, _]) rfl dX11_reader_39 ?_
        refine G_iload 41 hC rfl dX11_reader_41 ?_
        first | refine G_if_eq_b 43 49 hC dX11_reader_43 (by decide) (fun h43 => ?_) (fun h43 => ?_) | refine G_if_eq 43 49 hC dX11_reader_43 (by decide) (fun h43 => ?_) (fun h43 => ?_)
        · refine G_aload_n 49 hC rfl dX11_reader_49 ?_
          refine G_getR 50 hC fl_X11_30_10 (hX.sh) (hX.plan) rfl dX11_reader_50 ?_
          refine G_new 53 hC (ci := 5) (RX5, TX5, 5) rfl cl_X11_129 it_X5 in_X5 (by decide) (by decide) dX11_reader_53 ?_
          refine G_dup 56 hC rfl dX11_reader_56 ?_
          refine G_iload_n 57 hC rfl dX11_reader_57 ?_
          refine G_aload 58 hC rfl dX11_reader_58 ?_
          refine G_iload_n 60 hC rfl dX11_reader_60 ?_
          refine G_iload 61 hC rfl dX11_reader_61 ?_
          refine G_iload 63 hC rfl dX11_reader_63 ?_
          refine G_callI0 65 hC (g_Reader_init (up_s _ _ _)) okX5_init lk_X11_131 rfl rfl (Nat.le_of_ble_eq_true rfl) (by decide) (by decide) dX11_reader_65 ?_
          have s1 : up N.2.1 N.2.2 (5, 5) P = (4, 8) := by rw [up_ne (by omega)]; exact hP.sh
          have s2 : up N.2.1 N.2.2 (5, 5) (P + 2) = (18, 20) := by rw [up_ne (by omega)]; exact hP.tk
          have s3 : (upd2 (T_I I N.2.2 (if z = 0 then nI 2 else nI 3) nd bd) N.2.2 4 kd) P 5 = nI nt := by
            unfold T_I
            simp (disch := omega) only [upd2_ne]
            exact hnt
          refine G_callVn 68 hC (g_addTask s1 ((congrFun (upd2_ne (by omega)) 1).trans hP.rtk) s2 s3 hnt2 (Or.inr (Or.inl (up_s _ _ _)))) okX4_addTask lk_X11_125 (s1) rfl rfl rfl rfl (Nat.le_of_ble_eq_true rfl) (by decide) (by decide) dX11_reader_68 ?_
          refine R_i 71 hR (by first | rfl | exact narrow_bI _) dX11_reader_71 (Nat.le_refl _) (Nat.le_refl _) ?_
          exact ⟨rfl, rfl, rfl, rfl⟩
        · exact absurd rfl h43
      · exact absurd hok.2 h30
theorem g_share_bad (hX : FixX X P c d e N) (hP : FixP c P N) {ns : Nat} (hns : I P 6 = nI ns) (hns2 : ns ≤ 8) {s0 fr to nd bd : Int32} (hb : ¬ (inR s0 ns ∧ ¬ fr < 0 ∧ ¬ to < fr ∧ ¬ nI 20 < to ∧ ((nI 0 ≤ nd ∧ nd ≤ I X 1) ∧ nI 1 ≤ bd ∧ bd ≤ nI 1000))) : Cq l D B mX11_share [vr (some X), vi s0, vi fr, vi to, vi nd, vi bd] I L N (some (vi (-1))) I L := by
  refine Ct.of (M := mX11_share) (by decide) (Nat.le_of_ble_eq_true rfl) (fun g (hR : Cr l D B RX11 cX11_share 8 "share" { frames := 3, cells := 0, slots := 0, locals := 69 } (some .int) 0 0 _ g) => ?_)
  have hC := hR.cx
  show g 0 [some (vr (some X)), some (vi s0), some (vi fr), some (vi to), some (vi nd), some (vi bd), none, none] [] _ _ N 0 0
  refine G_iload_n 0 hC rfl dX11_share_0 ?_
  refine G_if_lt 1 15 hC dX11_share_1 (by decide) (fun h1 => ?_) (fun h1 => ?_)
  · refine G_iconst 15 hC (-1) (by decide) dX11_share_15 ?_
    refine R_i 16 hR (by first | rfl | exact narrow_bI _) dX11_share_16 (Nat.le_refl _) (Nat.le_refl _) ?_
    exact ⟨rfl, rfl, rfl, rfl⟩
  · refine G_iload_n 4 hC rfl dX11_share_4 ?_
    refine G_aload_n 5 hC rfl dX11_share_5 ?_
    refine G_getR 6 hC fl_X11_30_10 (hX.sh) (hX.plan) rfl dX11_share_6 ?_
    refine G_getI 9 hC fl_X11_134_4 (hP.sh) rfl dX11_share_9 ?_
    rw [hns]
    refine G_icmp_lt 12 17 hC dX11_share_12 (by decide) (fun h12 => ?_) (fun h12 => ?_)
    · refine G_iload_n 17 hC rfl dX11_share_17 ?_
      refine G_if_lt 18 32 hC dX11_share_18 (by decide) (fun h18 => ?_) (fun h18 => ?_)
      · refine G_iconst 32 hC (-1) (by decide) dX11_share_32 ?_
        refine R_i 33 hR (by first | rfl | exact narrow_bI _) dX11_share_33 (Nat.le_refl _) (Nat.le_refl _) ?_
        exact ⟨rfl, rfl, rfl, rfl⟩
      · refine G_iload_n 21 hC rfl dX11_share_21 ?_
        refine G_iload_n 22 hC rfl dX11_share_22 ?_
        refine G_icmp_gt 23 32 hC dX11_share_23 (by decide) (fun h23 => ?_) (fun h23 => ?_)
        · refine G_iconst 32 hC (-1) (by decide) dX11_share_32 ?_
          refine R_i 33 hR (by first | rfl | exact narrow_bI _) dX11_share_33 (Nat.le_refl _) (Nat.le_refl _) ?_
          exact ⟨rfl, rfl, rfl, rfl⟩
        · refine G_iload_n 26 hC rfl dX11_share_26 ?_
          refine G_bipush 27 hC (nI 20) (by decide) dX11_share_27 ?_
          refine G_icmp_le 29 34 hC dX11_share_29 (by decide) (fun h29 => ?_) (fun h29 => ?_)
          · refine G_aload_n 34 hC rfl dX11_share_34 ?_
            refine G_iload 35 hC rfl dX11_share_35 ?_
            refine G_iload 37 hC rfl dX11_share_37 ?_
            refine G_callV1 39 hC (g_isLoad hX) okX11_isLoad lk_X11_112 (hX.sh) rfl rfl rfl rfl (Nat.le_of_ble_eq_true rfl) (by decide) (by decide) dX11_share_39 ?_
            first | refine G_if_ne_b 42 47 hC dX11_share_42 (by decide) (fun h42 => ?_) (fun h42 => ?_) | refine G_if_ne 42 47 hC dX11_share_42 (by decide) (fun h42 => ?_) (fun h42 => ?_)
            · exact absurd ⟨hasyG (by omega) h1 (Int32.not_le.mpr h12), h18, h23, Int32.not_lt.mpr h29, h42⟩ hb
            · refine G_iconst 45 hC (-1) (by decide) dX11_share_45 ?_
              refine R_i 46 hR (by first | rfl | exact narrow_bI _) dX11_share_46 (Nat.le_refl _) (Nat.le_refl _) ?_
              exact ⟨rfl, rfl, rfl, rfl⟩
          · refine G_iconst 32 hC (-1) (by decide) dX11_share_32 ?_
            refine R_i 33 hR (by first | rfl | exact narrow_bI _) dX11_share_33 (Nat.le_refl _) (Nat.le_refl _) ?_
            exact ⟨rfl, rfl, rfl, rfl⟩
    · refine G_iconst 15 hC (-1) (by decide) dX11_share_15 ?_
      refine R_i 16 hR (by first | rfl | exact narrow_bI _) dX11_share_16 (Nat.le_refl _) (Nat.le_refl _) ?_
      exact ⟨rfl, rfl, rfl, rfl⟩
theorem g_share_ref (hX : FixX X P c d e N) (hK : FixC c P N) (hP : FixP c P N) {ns s : Nat} (hns : I P 6 = nI ns) (hns2 : ns ≤ 8) (hs : s < ns) {fr to nd bd : Int32} (hok : ¬ fr < 0 ∧ ¬ to < fr ∧ ¬ nI 20 < to ∧ ((nI 0 ≤ nd ∧ nd ≤ I X 1) ∧ nI 1 ≤ bd ∧ bd ≤ nI 1000)) (hr : ¬ F_rt (I (c + 0) 16) (I P 5) = 0) : Cq l D B mX11_share [vr (some X), vi (nI s), vi fr, vi to, vi nd, vi bd] I L N (some (vi (F_rt (I (c + 0) 16) (I P 5)))) I L := by
  refine Ct.of (M := mX11_share) (by decide) (Nat.le_of_ble_eq_true rfl) (fun g (hR : Cr l D B RX11 cX11_share 8 "share" { frames := 3, cells := 0, slots := 0, locals := 69 } (some .int) 0 0 _ g) => ?_)
  have hC := hR.cx
  show g 0 [some (vr (some X)), some (vi (nI s)), some (vi fr), some (vi to), some (vi nd), some (vi bd), none, none] [] _ _ N 0 0
  refine G_iload_n 0 hC rfl dX11_share_0 ?_
  refine G_if_lt 1 15 hC dX11_share_1 (by decide) (fun h1 => ?_) (fun h1 => ?_)
  · exact absurd h1 (nI_pos (by omega))
  · refine G_iload_n 4 hC rfl dX11_share_4 ?_
    refine G_aload_n 5 hC rfl dX11_share_5 ?_
    refine G_getR 6 hC fl_X11_30_10 (hX.sh) (hX.plan) rfl dX11_share_6 ?_
    refine G_getI 9 hC fl_X11_134_4 (hP.sh) rfl dX11_share_9 ?_
    rw [hns]
    refine G_icmp_lt 12 17 hC dX11_share_12 (by decide) (fun h12 => ?_) (fun h12 => ?_)
    · refine G_iload_n 17 hC rfl dX11_share_17 ?_
      refine G_if_lt 18 32 hC dX11_share_18 (by decide) (fun h18 => ?_) (fun h18 => ?_)
      · exact absurd h18 hok.1
      · refine G_iload_n 21 hC rfl dX11_share_21 ?_
        refine G_iload_n 22 hC rfl dX11_share_22 ?_
        refine G_icmp_gt 23 32 hC dX11_share_23 (by decide) (fun h23 => ?_) (fun h23 => ?_)
        · exact absurd h23 hok.2.1
        · refine G_iload_n 26 hC rfl dX11_share_26 ?_
          refine G_bipush 27 hC (nI 20) (by decide) dX11_share_27 ?_
          refine G_icmp_le 29 34 hC dX11_share_29 (by decide) (fun h29 => ?_) (fun h29 => ?_)
          · refine G_aload_n 34 hC rfl dX11_share_34 ?_
            refine G_iload 35 hC rfl dX11_share_35 ?_
            refine G_iload 37 hC rfl dX11_share_37 ?_
            refine G_callV1 39 hC (g_isLoad hX) okX11_isLoad lk_X11_112 (hX.sh) rfl rfl rfl rfl (Nat.le_of_ble_eq_true rfl) (by decide) (by decide) dX11_share_39 ?_
            first | refine G_if_ne_b 42 47 hC dX11_share_42 (by decide) (fun h42 => ?_) (fun h42 => ?_) | refine G_if_ne 42 47 hC dX11_share_42 (by decide) (fun h42 => ?_) (fun h42 => ?_)
            · refine G_aload_n 47 hC rfl dX11_share_47 ?_
              refine G_callV1 48 hC (g_refusalOfTask hX hK hP) okX11_refusalOfTask lk_X11_116 (hX.sh) rfl rfl rfl rfl (Nat.le_of_ble_eq_true rfl) (by decide) (by decide) dX11_share_48 ?_
              refine G_istore 51 hC (by decide) (ls' := [_, _, _, _, _, _, _, _]) rfl dX11_share_51 ?_
              refine G_iload 53 hC rfl dX11_share_53 ?_
              first | refine G_if_eq_b 55 61 hC dX11_share_55 (by decide) (fun h55 => ?_) (fun h55 => ?_) | refine G_if_eq 55 61 hC dX11_share_55 (by decide) (fun h55 => ?_) (fun h55 => ?_)
              · exact absurd h55 hr
              · refine G_iload 58 hC rfl dX11_share_58 ?_
                refine R_i 60 hR (by first | rfl | exact narrow_bI _) dX11_share_60 (Nat.le_refl _) (Nat.le_refl _) ?_
                exact ⟨rfl, rfl, rfl, rfl⟩
            · exact absurd hok.2.2.2 h42
          · exact absurd (Int32.not_lt.mp hok.2.2.1) h29
    · exact absurd ((nI_ltI (by omega) (by omega)).mpr hs) h12
theorem g_share_ok (hX : FixX X P c d e N) (hK : FixC c P N) (hP : FixP c P N) {ns s nt : Nat} {sa : Option Nat} (hns : I P 6 = nI ns) (hns2 : ns ≤ 8) (hs : s < ns) (hsr : N.1 (P + 3) s = sa) {fr to nd bd : Int32} (hok : ¬ fr < 0 ∧ ¬ to < fr ∧ ¬ nI 20 < to ∧ ((nI 0 ≤ nd ∧ nd ≤ I X 1) ∧ nI 1 ≤ bd ∧ bd ≤ nI 1000)) (hst : ¬ I (c + 0) 16 = nI 1) (hnt : I P 5 = nI nt) (hnt2 : nt < 20) (hXl : X < N.2.2) (hPl : P + 5 ≤ N.2.2) : Cn l D B mX11_share [vr (some X), vi (nI s), vi fr, vi to, vi nd, vi bd] I L N 1 7 (some (vi (nI nt))) (upd2 (upd2 (upd2 (upd2 (T_I I N.2.2 (nI 4) nd bd) N.2.2 4 (nI s)) N.2.2 5 fr) N.2.2 6 to) P 5 (nI (nt + 1))) L (upd2 (upd2 N.1 N.2.2 3 sa) (P + 2) nt (some N.2.2), (up N.2.1 N.2.2 (7, 7), N.2.2 + 1)) := by
  have hr0 : F_rt (I (c + 0) 16) (I P 5) = nI 0 := by unfold F_rt; rw [if_neg hst, hnt, if_pos ((nI_ltI (by omega) (by omega)).mpr hnt2)]
  refine Ct.of (M := mX11_share) (by decide) (Nat.le_of_ble_eq_true rfl) (fun g (hR : Cr l D B RX11 cX11_share 8 "share" { frames := 3, cells := 1, slots := 7, locals := 69 } (some .int) 1 7 _ g) => ?_)
  have hC := hR.cx
  show g 0 [some (vr (some X)), some (vi (nI s)), some (vi fr), some (vi to), some (vi nd), some (vi bd), none, none] [] _ _ N 0 0
  refine G_iload_n 0 hC rfl dX11_share_0 ?_
  refine G_if_lt 1 15 hC dX11_share_1 (by decide) (fun h1 => ?_) (fun h1 => ?_)
  · exact absurd h1 (nI_pos (by omega))
  · refine G_iload_n 4 hC rfl dX11_share_4 ?_
    refine G_aload_n 5 hC rfl dX11_share_5 ?_
    refine G_getR 6 hC fl_X11_30_10 (hX.sh) (hX.plan) rfl dX11_share_6 ?_
    refine G_getI 9 hC fl_X11_134_4 (hP.sh) rfl dX11_share_9 ?_
    rw [hns]
    refine G_icmp_lt 12 17 hC dX11_share_12 (by decide) (fun h12 => ?_) (fun h12 => ?_)
    · refine G_iload_n 17 hC rfl dX11_share_17 ?_
      refine G_if_lt 18 32 hC dX11_share_18 (by decide) (fun h18 => ?_) (fun h18 => ?_)
      · exact absurd h18 hok.1
      · refine G_iload_n 21 hC rfl dX11_share_21 ?_
        refine G_iload_n 22 hC rfl dX11_share_22 ?_
        refine G_icmp_gt 23 32 hC dX11_share_23 (by decide) (fun h23 => ?_) (fun h23 => ?_)
        · exact absurd h23 hok.2.1
        · refine G_iload_n 26 hC rfl dX11_share_26 ?_
          refine G_bipush 27 hC (nI 20) (by decide) dX11_share_27 ?_
          refine G_icmp_le 29 34 hC dX11_share_29 (by decide) (fun h29 => ?_) (fun h29 => ?_)
          · refine G_aload_n 34 hC rfl dX11_share_34 ?_
            refine G_iload 35 hC rfl dX11_share_35 ?_
            refine G_iload 37 hC rfl dX11_share_37 ?_
            refine G_callV1 39 hC (g_isLoad hX) okX11_isLoad lk_X11_112 (hX.sh) rfl rfl rfl rfl (Nat.le_of_ble_eq_true rfl) (by decide) (by decide) dX11_share_39 ?_
            first | refine G_if_ne_b 42 47 hC dX11_share_42 (by decide) (fun h42 => ?_) (fun h42 => ?_) | refine G_if_ne 42 47 hC dX11_share_42 (by decide) (fun h42 => ?_) (fun h42 => ?_)
            · refine G_aload_n 47 hC rfl dX11_share_47 ?_
              refine G_callV1 48 hC (g_refusalOfTask hX hK hP) okX11_refusalOfTask lk_X11_116 (hX.sh) rfl rfl rfl rfl (Nat.le_of_ble_eq_true rfl) (by decide) (by decide) dX11_share_48 ?_
              rw [hr0]
              refine G_istore 51 hC (by decide) (ls' := [_, _, _, _, _, _, _, _]) rfl dX11_share_51 ?_
              refine G_iload 53 hC rfl dX11_share_53 ?_
              first | refine G_if_eq_b 55 61 hC dX11_share_55 (by decide) (fun h55 => ?_) (fun h55 => ?_) | refine G_if_eq 55 61 hC dX11_share_55 (by decide) (fun h55 => ?_) (fun h55 => ?_)
              · refine G_new 61 hC (ci := 7) (RX7, TX7, 7) rfl cl_X11_155 it_X7 in_X7 (by decide) (by decide) dX11_share_61 ?_
                refine G_dup 64 hC rfl dX11_share_64 ?_
                have sX : up N.2.1 N.2.2 (7, 7) X = (10, 6) := by rw [up_ne (by omega)]; exact hX.sh
                have s5 : up N.2.1 N.2.2 (7, 7) (P + 3) = (17, 8) := by rw [up_ne (by omega)]; exact hP.se
                have s1 : up N.2.1 N.2.2 (7, 7) P = (4, 8) := by rw [up_ne (by omega)]; exact hP.sh
                have s2 : up N.2.1 N.2.2 (7, 7) (P + 2) = (18, 20) := by rw [up_ne (by omega)]; exact hP.tk
                have s3 : (upd2 (upd2 (upd2 (T_I I N.2.2 (nI 4) nd bd) N.2.2 4 (nI s)) N.2.2 5 fr) N.2.2 6 to) P 5 = nI nt := by
                  unfold T_I
                  simp (disch := omega) only [upd2_ne]
                  exact hnt
                refine G_aload_n 65 hC rfl dX11_share_65 ?_
                refine G_getR 66 hC fl_X11_30_10 (sX) (hX.plan) rfl dX11_share_66 ?_
                refine G_getR 69 hC fl_X11_137_4 (s1) (hP.rse) rfl dX11_share_69 ?_
                refine G_iload_n 72 hC rfl dX11_share_72 ?_
                refine G_aald 73 hC (s5) (by decide) (by decide) (rfl) (by omega) (by omega) (hsr) dX11_share_73 ?_
                refine G_iload_n 74 hC rfl dX11_share_74 ?_
                refine G_iload_n 75 hC rfl dX11_share_75 ?_
                refine G_iload_n 76 hC rfl dX11_share_76 ?_
                refine G_iload 77 hC rfl dX11_share_77 ?_
                refine G_iload 79 hC rfl dX11_share_79 ?_
                refine G_callI0 81 hC (g_Share_init (up_s _ _ _)) okX7_init lk_X11_157 rfl rfl (Nat.le_of_ble_eq_true rfl) (by decide) (by decide) dX11_share_81 ?_
                refine G_astore 84 hC (by decide) (ls' := [_, _, _, _, _, _, _, _]) rfl dX11_share_84 ?_
                refine G_aload_n 86 hC rfl dX11_share_86 ?_
                refine G_getR 87 hC fl_X11_30_10 (sX) ((congrFun (upd2_ne (by omega)) 2).trans hX.plan) rfl dX11_share_87 ?_
                refine G_aload 90 hC rfl dX11_share_90 ?_
                refine G_callVn 92 hC (g_addTask s1 ((congrFun (upd2_ne (by omega)) 1).trans hP.rtk) s2 s3 hnt2 (Or.inr (Or.inr (up_s _ _ _)))) okX4_addTask lk_X11_125 (s1) rfl rfl rfl rfl (Nat.le_of_ble_eq_true rfl) (by decide) (by decide) dX11_share_92 ?_
                refine R_i 95 hR (by first | rfl | exact narrow_bI _) dX11_share_95 (Nat.le_refl _) (Nat.le_refl _) ?_
                exact ⟨rfl, rfl, rfl, rfl⟩
              · exact absurd rfl h55
            · exact absurd hok.2.2.2 h42
          · exact absurd (Int32.not_lt.mp hok.2.2.1) h29
    · exact absurd ((nI_ltI (by omega) (by omega)).mpr hs) h12
theorem g_search_bad (hX : FixX X P c d e N) (hP : FixP c P N) {ng : Nat} (hng : I P 4 = nI ng) (hng2 : ng ≤ 6) (hGr : GrP N P ng) {x kd dv : Int32} {lm : Int64} (hb : ¬ (inR x ng ∧ (nI 0 ≤ kd ∧ kd ≤ nI 5) ∧ (nI 0 ≤ dv ∧ dv ≤ nI 100) ∧ ¬ lm < 0)) : Cq l D B mX11_search [vr (some X), vi x, vi kd, vi dv, vl lm] I L N (some (vi (-1))) I L := by
  refine Ct.of (M := mX11_search) (by decide) (Nat.le_of_ble_eq_true rfl) (fun g (hR : Cr l D B RX11 cX11_search 7 "search" { frames := 2, cells := 0, slots := 0, locals := 45 } (some .int) 0 0 _ g) => ?_)
  have hC := hR.cx
  show g 0 [some (vr (some X)), some (vi x), some (vi kd), some (vi dv), some (vl lm), none, none] [] _ _ N 0 0
  refine G_aload_n 0 hC rfl dX11_search_0 ?_
  refine G_getR 1 hC fl_X11_30_10 (hX.sh) (hX.plan) rfl dX11_search_1 ?_
  refine G_iload_n 4 hC rfl dX11_search_4 ?_
  by_cases hx : inR x ng
  · obtain ⟨g0, hg0, rfl⟩ := inR_of hx (by omega)
    obtain ⟨ga, la, zz, hG⟩ := hGr g0 hg0
    refine G_callV1 5 hC (c_gridAt hP.sh hP.rgr hP.gr hng hng2 hg0) okX4_gridAt lk_X11_84 (hP.sh) rfl rfl rfl rfl (Nat.le_of_ble_eq_true rfl) (by decide) (by decide) dX11_search_5 ?_
    rw [hG.1]
    refine G_astore 8 hC (by decide) (ls' := [_, _, _, _, _, _, _]) rfl dX11_search_8 ?_
    refine G_aload 10 hC rfl dX11_search_10 ?_
    refine G_ifnull 12 22 hC dX11_search_12 (by decide) (fun h12 => ?_) (fun a12 h12 => ?_)
    · exact absurd h12 (by simp)
    · refine G_iload_n 15 hC rfl dX11_search_15 ?_
      refine G_callS1 16 hC (g_isKind) okX11_isKind lk_X11_53 rfl rfl rfl (Nat.le_of_ble_eq_true rfl) (by decide) (by decide) dX11_search_16 ?_
      first | refine G_if_ne_b 19 24 hC dX11_search_19 (by decide) (fun h19 => ?_) (fun h19 => ?_) | refine G_if_ne 19 24 hC dX11_search_19 (by decide) (fun h19 => ?_) (fun h19 => ?_)
      · refine G_iload_n 24 hC rfl dX11_search_24 ?_
        refine G_if_lt 25 41 hC dX11_search_25 (by decide) (fun h25 => ?_) (fun h25 => ?_)
        · refine G_iconst 41 hC (-1) (by decide) dX11_search_41 ?_
          refine R_i 42 hR (by first | rfl | exact narrow_bI _) dX11_search_42 (Nat.le_refl _) (Nat.le_refl _) ?_
          exact ⟨rfl, rfl, rfl, rfl⟩
        · refine G_iload_n 28 hC rfl dX11_search_28 ?_
          refine G_bipush 29 hC (nI 100) (by decide) dX11_search_29 ?_
          refine G_icmp_gt 31 41 hC dX11_search_31 (by decide) (fun h31 => ?_) (fun h31 => ?_)
          · refine G_iconst 41 hC (-1) (by decide) dX11_search_41 ?_
            refine R_i 42 hR (by first | rfl | exact narrow_bI _) dX11_search_42 (Nat.le_refl _) (Nat.le_refl _) ?_
            exact ⟨rfl, rfl, rfl, rfl⟩
          · refine G_lload 34 hC rfl dX11_search_34 ?_
            refine G_lconst 36 hC 0 (by decide) dX11_search_36 ?_
            refine G_lcmp 37 hC dX11_search_37 ?_
            refine G_if_ge 38 43 hC dX11_search_38 (by decide) (fun h38 => ?_) (fun h38 => ?_)
            · exact absurd ⟨hx, h19, ⟨Int32.not_lt.mp h25, Int32.not_lt.mp h31⟩, Int64.not_lt.mpr ((lg_cmp_ge _ _).mp h38)⟩ hb
            · refine G_iconst 41 hC (-1) (by decide) dX11_search_41 ?_
              refine R_i 42 hR (by first | rfl | exact narrow_bI _) dX11_search_42 (Nat.le_refl _) (Nat.le_refl _) ?_
              exact ⟨rfl, rfl, rfl, rfl⟩
      · refine G_iconst 22 hC (-1) (by decide) dX11_search_22 ?_
        refine R_i 23 hR (by first | rfl | exact narrow_bI _) dX11_search_23 (Nat.le_refl _) (Nat.le_refl _) ?_
        exact ⟨rfl, rfl, rfl, rfl⟩
  · refine G_callV1 5 hC (c_gridAt_no hP.sh hP.rgr hP.gr hng hng2 hx) okX4_gridAt lk_X11_84 (hP.sh) rfl rfl rfl rfl (Nat.le_of_ble_eq_true rfl) (by decide) (by decide) dX11_search_5 ?_
    refine G_astore 8 hC (by decide) (ls' := [_, _, _, _, _, _, _]) rfl dX11_search_8 ?_
    refine G_aload 10 hC rfl dX11_search_10 ?_
    refine G_ifnull 12 22 hC dX11_search_12 (by decide) (fun h12 => ?_) (fun a12 h12 => ?_)
    · refine G_iconst 22 hC (-1) (by decide) dX11_search_22 ?_
      refine R_i 23 hR (by first | rfl | exact narrow_bI _) dX11_search_23 (Nat.le_refl _) (Nat.le_refl _) ?_
      exact ⟨rfl, rfl, rfl, rfl⟩
    · cases h12
theorem g_search_state (hX : FixX X P c d e N) (hK : FixC c P N) (hP : FixP c P N) {ng : Nat} (hng : I P 4 = nI ng) (hng2 : ng ≤ 6) {g0 ga la zz : Nat} (hg : g0 < ng) (hG : GrA N P g0 ga la zz) {kd dv : Int32} {lm : Int64} (hok : (nI 0 ≤ kd ∧ kd ≤ nI 5) ∧ (nI 0 ≤ dv ∧ dv ≤ nI 100) ∧ ¬ lm < 0) (hst : I (c + 0) 16 = nI 1) : Cq l D B mX11_search [vr (some X), vi (nI g0), vi kd, vi dv, vl lm] I L N (some (vi (-2))) I L := by
  have hB := hK.b
  refine Ct.of (M := mX11_search) (by decide) (Nat.le_of_ble_eq_true rfl) (fun g (hR : Cr l D B RX11 cX11_search 7 "search" { frames := 2, cells := 0, slots := 0, locals := 45 } (some .int) 0 0 _ g) => ?_)
  have hC := hR.cx
  show g 0 [some (vr (some X)), some (vi (nI g0)), some (vi kd), some (vi dv), some (vl lm), none, none] [] _ _ N 0 0
  refine G_aload_n 0 hC rfl dX11_search_0 ?_
  refine G_getR 1 hC fl_X11_30_10 (hX.sh) (hX.plan) rfl dX11_search_1 ?_
  refine G_iload_n 4 hC rfl dX11_search_4 ?_
  refine G_callV1 5 hC (c_gridAt hP.sh hP.rgr hP.gr hng hng2 hg) okX4_gridAt lk_X11_84 (hP.sh) rfl rfl rfl rfl (Nat.le_of_ble_eq_true rfl) (by decide) (by decide) dX11_search_5 ?_
  rw [hG.1]
  refine G_astore 8 hC (by decide) (ls' := [_, _, _, _, _, _, _]) rfl dX11_search_8 ?_
  refine G_aload 10 hC rfl dX11_search_10 ?_
  refine G_ifnull 12 22 hC dX11_search_12 (by decide) (fun h12 => ?_) (fun a12 h12 => ?_)
  · exact absurd h12 (by simp)
  · refine G_iload_n 15 hC rfl dX11_search_15 ?_
    refine G_callS1 16 hC (g_isKind) okX11_isKind lk_X11_53 rfl rfl rfl (Nat.le_of_ble_eq_true rfl) (by decide) (by decide) dX11_search_16 ?_
    first | refine G_if_ne_b 19 24 hC dX11_search_19 (by decide) (fun h19 => ?_) (fun h19 => ?_) | refine G_if_ne 19 24 hC dX11_search_19 (by decide) (fun h19 => ?_) (fun h19 => ?_)
    · refine G_iload_n 24 hC rfl dX11_search_24 ?_
      refine G_if_lt 25 41 hC dX11_search_25 (by decide) (fun h25 => ?_) (fun h25 => ?_)
      · exact absurd h25 (Int32.not_lt.mpr hok.2.1.1)
      · refine G_iload_n 28 hC rfl dX11_search_28 ?_
        refine G_bipush 29 hC (nI 100) (by decide) dX11_search_29 ?_
        refine G_icmp_gt 31 41 hC dX11_search_31 (by decide) (fun h31 => ?_) (fun h31 => ?_)
        · exact absurd h31 (Int32.not_lt.mpr hok.2.1.2)
        · refine G_lload 34 hC rfl dX11_search_34 ?_
          refine G_lconst 36 hC 0 (by decide) dX11_search_36 ?_
          refine G_lcmp 37 hC dX11_search_37 ?_
          refine G_if_ge 38 43 hC dX11_search_38 (by decide) (fun h38 => ?_) (fun h38 => ?_)
          · refine G_aload_n 43 hC rfl dX11_search_43 ?_
            refine G_getR 44 hC fl_X11_39_10 (hX.sh) (hX.course) rfl dX11_search_44 ?_
            refine G_getI 47 hC fl_X11_57_0 (hB 0 _ rfl (by decide)) rfl dX11_search_47 ?_
            refine G_iconst 50 hC (nI 1) (by decide) dX11_search_50 ?_
            refine G_icmp_ne 51 57 hC dX11_search_51 (by decide) (fun h51 => ?_) (fun h51 => ?_)
            · exact absurd hst h51
            · refine G_bipush 54 hC (-2) (by decide) dX11_search_54 ?_
              refine R_i 56 hR (by first | rfl | exact narrow_bI _) dX11_search_56 (Nat.le_refl _) (Nat.le_refl _) ?_
              exact ⟨rfl, rfl, rfl, rfl⟩
          · exact absurd ((lg_cmp_ge _ _).mpr (Int64.not_lt.mp hok.2.2)) h38
    · exact absurd hok.1 h19
theorem g_search_full (hX : FixX X P c d e N) (hK : FixC c P N) (hP : FixP c P N) {ng : Nat} (hng : I P 4 = nI ng) (hng2 : ng ≤ 6) {g0 ga la zz : Nat} (hg : g0 < ng) (hG : GrA N P g0 ga la zz) {kd dv : Int32} {lm : Int64} (hok : (nI 0 ≤ kd ∧ kd ≤ nI 5) ∧ (nI 0 ≤ dv ∧ dv ≤ nI 100) ∧ ¬ lm < 0) (hst : ¬ I (c + 0) 16 = nI 1) (hns : I P 6 = nI 8) : Cq l D B mX11_search [vr (some X), vi (nI g0), vi kd, vi dv, vl lm] I L N (some (vi (-3))) I L := by
  have hB := hK.b
  refine Ct.of (M := mX11_search) (by decide) (Nat.le_of_ble_eq_true rfl) (fun g (hR : Cr l D B RX11 cX11_search 7 "search" { frames := 2, cells := 0, slots := 0, locals := 45 } (some .int) 0 0 _ g) => ?_)
  have hC := hR.cx
  show g 0 [some (vr (some X)), some (vi (nI g0)), some (vi kd), some (vi dv), some (vl lm), none, none] [] _ _ N 0 0
  refine G_aload_n 0 hC rfl dX11_search_0 ?_
  refine G_getR 1 hC fl_X11_30_10 (hX.sh) (hX.plan) rfl dX11_search_1 ?_
  refine G_iload_n 4 hC rfl dX11_search_4 ?_
  refine G_callV1 5 hC (c_gridAt hP.sh hP.rgr hP.gr hng hng2 hg) okX4_gridAt lk_X11_84 (hP.sh) rfl rfl rfl rfl (Nat.le_of_ble_eq_true rfl) (by decide) (by decide) dX11_search_5 ?_
  rw [hG.1]
  refine G_astore 8 hC (by decide) (ls' := [_, _, _, _, _, _, _]) rfl dX11_search_8 ?_
  refine G_aload 10 hC rfl dX11_search_10 ?_
  refine G_ifnull 12 22 hC dX11_search_12 (by decide) (fun h12 => ?_) (fun a12 h12 => ?_)
  · exact absurd h12 (by simp)
  · refine G_iload_n 15 hC rfl dX11_search_15 ?_
    refine G_callS1 16 hC (g_isKind) okX11_isKind lk_X11_53 rfl rfl rfl (Nat.le_of_ble_eq_true rfl) (by decide) (by decide) dX11_search_16 ?_
    first | refine G_if_ne_b 19 24 hC dX11_search_19 (by decide) (fun h19 => ?_) (fun h19 => ?_) | refine G_if_ne 19 24 hC dX11_search_19 (by decide) (fun h19 => ?_) (fun h19 => ?_)
    · refine G_iload_n 24 hC rfl dX11_search_24 ?_
      refine G_if_lt 25 41 hC dX11_search_25 (by decide) (fun h25 => ?_) (fun h25 => ?_)
      · exact absurd h25 (Int32.not_lt.mpr hok.2.1.1)
      · refine G_iload_n 28 hC rfl dX11_search_28 ?_
        refine G_bipush 29 hC (nI 100) (by decide) dX11_search_29 ?_
        refine G_icmp_gt 31 41 hC dX11_search_31 (by decide) (fun h31 => ?_) (fun h31 => ?_)
        · exact absurd h31 (Int32.not_lt.mpr hok.2.1.2)
        · refine G_lload 34 hC rfl dX11_search_34 ?_
          refine G_lconst 36 hC 0 (by decide) dX11_search_36 ?_
          refine G_lcmp 37 hC dX11_search_37 ?_
          refine G_if_ge 38 43 hC dX11_search_38 (by decide) (fun h38 => ?_) (fun h38 => ?_)
          · refine G_aload_n 43 hC rfl dX11_search_43 ?_
            refine G_getR 44 hC fl_X11_39_10 (hX.sh) (hX.course) rfl dX11_search_44 ?_
            refine G_getI 47 hC fl_X11_57_0 (hB 0 _ rfl (by decide)) rfl dX11_search_47 ?_
            refine G_iconst 50 hC (nI 1) (by decide) dX11_search_50 ?_
            refine G_icmp_ne 51 57 hC dX11_search_51 (by decide) (fun h51 => ?_) (fun h51 => ?_)
            · refine G_aload_n 57 hC rfl dX11_search_57 ?_
              refine G_getR 58 hC fl_X11_30_10 (hX.sh) (hX.plan) rfl dX11_search_58 ?_
              refine G_getI 61 hC fl_X11_134_4 (hP.sh) rfl dX11_search_61 ?_
              rw [hns]
              refine G_bipush 64 hC (nI 8) (by decide) dX11_search_64 ?_
              refine G_icmp_lt 66 72 hC dX11_search_66 (by decide) (fun h66 => ?_) (fun h66 => ?_)
              · exact absurd h66 (by decide)
              · refine G_bipush 69 hC (-3) (by decide) dX11_search_69 ?_
                refine R_i 71 hR (by first | rfl | exact narrow_bI _) dX11_search_71 (Nat.le_refl _) (Nat.le_refl _) ?_
                exact ⟨rfl, rfl, rfl, rfl⟩
            · exact absurd h51 hst
          · exact absurd ((lg_cmp_ge _ _).mpr (Int64.not_lt.mp hok.2.2)) h38
    · exact absurd hok.1 h19
theorem g_search_ok (hX : FixX X P c d e N) (hK : FixC c P N) (hP : FixP c P N) {ng : Nat} (hng : I P 4 = nI ng) (hng2 : ng ≤ 6) {g0 ga la zz ns : Nat} (hg : g0 < ng) (hG : GrA N P g0 ga la zz) {kd dv : Int32} {lm : Int64} (hok : (nI 0 ≤ kd ∧ kd ≤ nI 5) ∧ (nI 0 ≤ dv ∧ dv ≤ nI 100) ∧ ¬ lm < 0) (hst : ¬ I (c + 0) 16 = nI 1) (hns : I P 6 = nI ns) (hns2 : ns < 8) (hXl : X < N.2.2) (hPl : P + 5 ≤ N.2.2) (hcl : c + 35 ≤ N.2.2) : Cn l D B mX11_search [vr (some X), vi (nI g0), vi kd, vi dv, vl lm] I L N 1 4 (some (vi (nI ns))) (upd2 (upd2 (upd2 (upd2 I N.2.2 1 kd) N.2.2 2 dv) (c + (27 + ns)) 1 (-9)) P 6 (nI (ns + 1))) (upd2 (upd2 (upd2 L N.2.2 3 lm) (c + (27 + ns)) 0 0) (c + (27 + ns)) 2 lm) (upd2 (upd2 N.1 N.2.2 0 (some ga)) (P + 3) ns (some N.2.2), (up N.2.1 N.2.2 (6, 4), N.2.2 + 1)) := by
  have hB := hK.b
  have hPc := hP.2.2.2.2.2.2.2.2.2
  have hXP3 : X ≠ P + 3 := fun h => by
    have q := hX.sh
    rw [h, hP.se] at q
    cases q
  refine Ct.of (M := mX11_search) (by decide) (Nat.le_of_ble_eq_true rfl) (fun g (hR : Cr l D B RX11 cX11_search 7 "search" { frames := 2, cells := 1, slots := 4, locals := 45 } (some .int) 1 4 _ g) => ?_)
  have hC := hR.cx
  show g 0 [some (vr (some X)), some (vi (nI g0)), some (vi kd), some (vi dv), some (vl lm), none, none] [] _ _ N 0 0
  refine G_aload_n 0 hC rfl dX11_search_0 ?_
  refine G_getR 1 hC fl_X11_30_10 (hX.sh) (hX.plan) rfl dX11_search_1 ?_
  refine G_iload_n 4 hC rfl dX11_search_4 ?_
  refine G_callV1 5 hC (c_gridAt hP.sh hP.rgr hP.gr hng hng2 hg) okX4_gridAt lk_X11_84 (hP.sh) rfl rfl rfl rfl (Nat.le_of_ble_eq_true rfl) (by decide) (by decide) dX11_search_5 ?_
  rw [hG.1]
  refine G_astore 8 hC (by decide) (ls' := [_, _, _, _, _, _, _]) rfl dX11_search_8 ?_
  refine G_aload 10 hC rfl dX11_search_10 ?_
  refine G_ifnull 12 22 hC dX11_search_12 (by decide) (fun h12 => ?_) (fun a12 h12 => ?_)
  · exact absurd h12 (by simp)
  · refine G_iload_n 15 hC rfl dX11_search_15 ?_
    refine G_callS1 16 hC (g_isKind) okX11_isKind lk_X11_53 rfl rfl rfl (Nat.le_of_ble_eq_true rfl) (by decide) (by decide) dX11_search_16 ?_
    first | refine G_if_ne_b 19 24 hC dX11_search_19 (by decide) (fun h19 => ?_) (fun h19 => ?_) | refine G_if_ne 19 24 hC dX11_search_19 (by decide) (fun h19 => ?_) (fun h19 => ?_)
    · refine G_iload_n 24 hC rfl dX11_search_24 ?_
      refine G_if_lt 25 41 hC dX11_search_25 (by decide) (fun h25 => ?_) (fun h25 => ?_)
      · exact absurd h25 (Int32.not_lt.mpr hok.2.1.1)
      · refine G_iload_n 28 hC rfl dX11_search_28 ?_
        refine G_bipush 29 hC (nI 100) (by decide) dX11_search_29 ?_
        refine G_icmp_gt 31 41 hC dX11_search_31 (by decide) (fun h31 => ?_) (fun h31 => ?_)
        · exact absurd h31 (Int32.not_lt.mpr hok.2.1.2)
        · refine G_lload 34 hC rfl dX11_search_34 ?_
          refine G_lconst 36 hC 0 (by decide) dX11_search_36 ?_
          refine G_lcmp 37 hC dX11_search_37 ?_
          refine G_if_ge 38 43 hC dX11_search_38 (by decide) (fun h38 => ?_) (fun h38 => ?_)
          · refine G_aload_n 43 hC rfl dX11_search_43 ?_
            refine G_getR 44 hC fl_X11_39_10 (hX.sh) (hX.course) rfl dX11_search_44 ?_
            refine G_getI 47 hC fl_X11_57_0 (hB 0 _ rfl (by decide)) rfl dX11_search_47 ?_
            refine G_iconst 50 hC (nI 1) (by decide) dX11_search_50 ?_
            refine G_icmp_ne 51 57 hC dX11_search_51 (by decide) (fun h51 => ?_) (fun h51 => ?_)
            · refine G_aload_n 57 hC rfl dX11_search_57 ?_
              refine G_getR 58 hC fl_X11_30_10 (hX.sh) (hX.plan) rfl dX11_search_58 ?_
              refine G_getI 61 hC fl_X11_134_4 (hP.sh) rfl dX11_search_61 ?_
              rw [hns]
              refine G_bipush 64 hC (nI 8) (by decide) dX11_search_64 ?_
              refine G_icmp_lt 66 72 hC dX11_search_66 (by decide) (fun h66 => ?_) (fun h66 => ?_)
              · refine G_aload_n 72 hC rfl dX11_search_72 ?_
                refine G_getR 73 hC fl_X11_30_10 (hX.sh) (hX.plan) rfl dX11_search_73 ?_
                refine G_getR 76 hC fl_X11_137_4 (hP.sh) (hP.rse) rfl dX11_search_76 ?_
                refine G_aload_n 79 hC rfl dX11_search_79 ?_
                refine G_getR 80 hC fl_X11_30_10 (hX.sh) (hX.plan) rfl dX11_search_80 ?_
                refine G_getI 83 hC fl_X11_134_4 (hP.sh) rfl dX11_search_83 ?_
                rw [hns]
                refine G_new 86 hC (ci := 6) (RX6, TX6, 4) rfl cl_X11_141 it_X6 in_X6 (by decide) (by decide) dX11_search_86 ?_
                refine G_dup 89 hC rfl dX11_search_89 ?_
                refine G_aload 90 hC rfl dX11_search_90 ?_
                refine G_iload_n 92 hC rfl dX11_search_92 ?_
                refine G_iload_n 93 hC rfl dX11_search_93 ?_
                refine G_lload 94 hC rfl dX11_search_94 ?_
                refine G_callI0 96 hC (g_Search_init (up_s _ _ _)) okX6_init lk_X11_143 rfl rfl (Nat.le_of_ble_eq_true rfl) (by decide) (by decide) dX11_search_96 ?_
                have sX : up N.2.1 N.2.2 (6, 4) X = (10, 6) := by rw [up_ne (by omega)]; exact hX.sh
                have sP : up N.2.1 N.2.2 (6, 4) P = (4, 8) := by rw [up_ne (by omega)]; exact hP.sh
                have s5 : up N.2.1 N.2.2 (6, 4) (P + 3) = (17, 8) := by rw [up_ne (by omega)]; exact hP.se
                have sc0 : up N.2.1 N.2.2 (6, 4) (c + 0) = (0, 19) := by rw [up_ne (by omega)]; exact hB 0 _ rfl (by decide)
                have sc2 : up N.2.1 N.2.2 (6, 4) (c + 2) = (15, 8) := by rw [up_ne (by omega)]; exact hB 2 _ rfl (by decide)
                have sh : up N.2.1 N.2.2 (6, 4) (c + (27 + ns)) = (2, 3) := by rw [up_ne (by omega)]; exact hB _ _ (shC_h (by omega)) (by decide)
                have rO : ∀ a j, a ≠ N.2.2 → a ≠ P + 3 → upd2 (upd2 N.1 N.2.2 0 (some ga)) (P + 3) ns (some N.2.2) a j = N.1 a j := fun a j h1 h2 => by rw [upd2_ne h2, upd2_ne h1]
                have iP : upd2 (upd2 I N.2.2 1 kd) N.2.2 2 dv P 6 = nI ns := by rw [upd2_ne (by omega), upd2_ne (by omega)]; exact hns
                refine G_aast 99 hC ((RX6, TX6, 4)) (s5) (by decide) (by decide) (up_s _ _ _) rfl (Or.inl rfl) (rfl) (by omega) (by omega) dX11_search_99 ?_
                refine G_aload_n 100 hC rfl dX11_search_100 ?_
                refine G_getR 101 hC fl_X11_39_10 (sX) ((rO X 3 (by omega) hXP3).trans hX.course) rfl dX11_search_101 ?_
                refine G_getR 104 hC fl_X11_146_0 (sc0) ((rO (c + 0) 4 (by omega) (by omega)).trans hK.hunts) rfl dX11_search_104 ?_
                refine G_aload_n 107 hC rfl dX11_search_107 ?_
                refine G_getR 108 hC fl_X11_30_10 (sX) ((rO X 2 (by omega) hXP3).trans hX.plan) rfl dX11_search_108 ?_
                refine G_getI 111 hC fl_X11_134_4 (sP) rfl dX11_search_111 ?_
                rw [iP]
                refine G_aald 114 hC (sc2) (by decide) (by decide) (rfl) (by omega) (by omega) ((rO (c + 2) ns (by omega) (by omega)).trans (hK.hu (by omega))) dX11_search_114 ?_
                refine G_lload 115 hC rfl dX11_search_115 ?_
                refine G_callV0 117 hC (g_Hunt_begin sh) okX2_begin lk_X11_150 (sh) rfl rfl rfl rfl (Nat.le_of_ble_eq_true rfl) (by decide) (by decide) dX11_search_117 ?_
                refine G_aload_n 120 hC rfl dX11_search_120 ?_
                refine G_getR 121 hC fl_X11_30_10 (sX) ((rO X 2 (by omega) hXP3).trans hX.plan) rfl dX11_search_121 ?_
                refine G_dup 124 hC rfl dX11_search_124 ?_
                refine G_getI 125 hC fl_X11_134_4 (sP) rfl dX11_search_125 ?_
                rw [show upd2 (upd2 (upd2 I N.2.2 1 kd) N.2.2 2 dv) (c + (27 + ns)) 1 (-9) P 6 = nI ns by rw [upd2_ne (by omega)]; exact iP]
                refine G_dup_x1 128 hC rfl rfl dX11_search_128 ?_
                refine G_iconst 129 hC (nI 1) (by decide) dX11_search_129 ?_
                refine G_iaddN 130 hC dX11_search_130 ?_
                refine G_putI 131 hC (fp_X11_134_4 _) (sP) rfl rfl rfl dX11_search_131 ?_
                refine R_i 134 hR (by first | rfl | exact narrow_bI _) dX11_search_134 (Nat.le_refl _) (Nat.le_refl _) ?_
                exact ⟨rfl, rfl, rfl, rfl⟩
              · exact absurd ((nI_ltI (by omega) (by omega)).mpr hns2) h66
            · exact absurd h51 hst
          · exact absurd ((lg_cmp_ge _ _).mpr (Int64.not_lt.mp hok.2.2)) h38
    · exact absurd hok.1 h19
end G4

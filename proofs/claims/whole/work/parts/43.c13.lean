/-! ===== the class: a run goes on ===== -/
section C13
variable {l : Launch} {D : va_G} {B c P : Nat} {N : NT} {k G k2 : MI} {kl GL kl2 : ML}
theorem c_goOn_open (hX : FixC c P N) (hP : FixP c P N) {n m : Nat} {Km : Nat → MI} {Kl : Nat → ML} {th : Nat → Nat} (hn : n < 2 ^ 31) (hm : m ≤ n) (hk0 : (k 0 16 = 0 → Km 0 = upd2 (upd2 k 0 16 (nI 1)) 0 17 (G P 5)) ∧ (¬ k 0 16 = 0 → Km 0 = k)) (hl0 : Kl 0 = kl) (hTn : ∀ i, i < m → Cq l D B mX0_nextThread [vr (some (c + 0))] (pt c 35 (Km i) G) (pt c 35 (Kl i) GL) N (some (vi (nI (th i)))) (pt c 35 (Km i) G) (pt c 35 (Kl i) GL)) (hTg : ∀ i, i < m → Cq l D B mX0_giveTurn [vr (some (c + 0)), vi (nI (th i))] (pt c 35 (Km i) G) (pt c 35 (Kl i) GL) N none (pt c 35 (Km (i + 1)) G) (pt c 35 (Kl (i + 1)) GL)) (hL : ∀ i, i < m → 0 < Km i 0 17) (hend : m = n ∨ Km m 0 17 ≤ 0) (hleft : 0 < Km m 0 17) : Cq l D B mX0_goOn [vr (some (c + 0)), vi (nI n)] (pt c 35 k G) (pt c 35 kl GL) N (some (vi (nI 0))) (pt c 35 (Km m) G) (pt c 35 (Kl m) GL) := by
  have hB := hX.b
  refine Ct.of (M := mX0_goOn) (by decide) (Nat.le_of_ble_eq_true rfl) (fun g (hR : Cr l D B RX0 cX0_goOn 3 "goOn" { frames := 6, cells := 0, slots := 0, locals := 138 } (some .int) 0 0 _ g) => ?_)
  have hC := hR.cx
  have loop : ∀ (f i : Nat), m - i = f → i ≤ m → g 25 [some (vr (some (c + 0))), some (vi (nI n)), some (vi (nI i))] [] (pt c 35 (Km i) G) (pt c 35 (Kl i) GL) N 0 0 := by
    intro f
    induction f using Nat.strongRecOn with
    | _ f ih =>
      intro i hf hi
      refine G_iload_n 25 hC rfl dX0_goOn_25 ?_
      refine G_iload_n 26 hC rfl dX0_goOn_26 ?_
      refine G_icmp_ge 27 51 hC dX0_goOn_27 (by decide) (fun h27 => ?_) (fun h27 => ?_)
      · have ei : i = m := by
          rcases Nat.lt_or_ge i m with y | y
          · first
              | exact absurd ((nI_leI (by omega) (by omega)).mp h27) (by omega)
              | exact absurd h34 (Int32.not_le.mpr (hL i y))
          · omega
        subst ei
        refine G_aload_n 51 hC rfl dX0_goOn_51 ?_
        refine B_getI 52 hC hB (rfl) fl_X0_96_0 rfl dX0_goOn_52 ?_
        refine G_if_le 55 60 hC dX0_goOn_55 (by decide) (fun h55 => ?_) (fun h55 => ?_)
        · exact absurd h55 (Int32.not_le.mpr hleft)
        · refine G_iconst 58 hC (nI 0) (by decide) dX0_goOn_58 ?_
          refine R_i 59 hR (by first | rfl | exact narrow_bI _) dX0_goOn_59 (Nat.le_refl _) (Nat.le_refl _) ?_
          exact ⟨rfl, rfl, rfl, rfl⟩
      · refine G_aload_n 30 hC rfl dX0_goOn_30 ?_
        refine B_getI 31 hC hB (rfl) fl_X0_96_0 rfl dX0_goOn_31 ?_
        refine G_if_le 34 51 hC dX0_goOn_34 (by decide) (fun h34 => ?_) (fun h34 => ?_)
        · have ei : i = m := by
            rcases Nat.lt_or_ge i m with y | y
            · first
                | exact absurd ((nI_leI (by omega) (by omega)).mp h27) (by omega)
                | exact absurd h34 (Int32.not_le.mpr (hL i y))
            · omega
          subst ei
          refine G_aload_n 51 hC rfl dX0_goOn_51 ?_
          refine B_getI 52 hC hB (rfl) fl_X0_96_0 rfl dX0_goOn_52 ?_
          refine G_if_le 55 60 hC dX0_goOn_55 (by decide) (fun h55 => ?_) (fun h55 => ?_)
          · exact absurd h55 (Int32.not_le.mpr hleft)
          · refine G_iconst 58 hC (nI 0) (by decide) dX0_goOn_58 ?_
            refine R_i 59 hR (by first | rfl | exact narrow_bI _) dX0_goOn_59 (Nat.le_refl _) (Nat.le_refl _) ?_
            exact ⟨rfl, rfl, rfl, rfl⟩
        · have ai : i < m := by
            rcases Nat.lt_or_ge i m with y | y
            · exact y
            · have e : i = m := by omega
              subst e
              rcases hend with e | e
              · exact absurd ((nI_leI (by omega) (by omega)).mpr (by omega)) h27
              · exact absurd e h34
          refine G_aload_n 37 hC rfl dX0_goOn_37 ?_
          refine G_aload_n 38 hC rfl dX0_goOn_38 ?_
          refine G_callV1 39 hC (hTn i ai) okX0_nextThread lk_X0_105 (hB _ _ (rfl) (by decide)) rfl rfl rfl rfl (Nat.le_of_ble_eq_true rfl) (by decide) (by decide) dX0_goOn_39 ?_
          refine G_callV0 42 hC (hTg i ai) okX0_giveTurn lk_X0_109 (hB _ _ (rfl) (by decide)) rfl rfl rfl rfl (Nat.le_of_ble_eq_true rfl) (by decide) (by decide) dX0_goOn_42 ?_
          first | refine G_iincN 45 hC (by decide) rfl (ls' := [_, _, _]) rfl dX0_goOn_45 ?_ | refine G_iinc 45 hC _ rfl (by decide) rfl (ls' := [_, _, _]) rfl dX0_goOn_45 ?_
          refine G_goto 48 25 hC dX0_goOn_48 (by decide) ?_
          exact ih (m - (i + 1)) (by omega) (i + 1) rfl (by omega)
  show g 0 [some (vr (some (c + 0))), some (vi (nI n)), none] [] _ _ N 0 0
  refine G_aload_n 0 hC rfl dX0_goOn_0 ?_
  refine B_getI 1 hC hB (rfl) fl_X0_93_0 rfl dX0_goOn_1 ?_
  first | refine G_if_ne_b 4 23 hC dX0_goOn_4 (by decide) (fun h4 => ?_) (fun h4 => ?_) | refine G_if_ne 4 23 hC dX0_goOn_4 (by decide) (fun h4 => ?_) (fun h4 => ?_)
  · refine G_iconst 23 hC (nI 0) (by decide) dX0_goOn_23 ?_
    refine G_istore_n 24 hC 2 rfl (by decide) (ls' := [_, _, _]) rfl dX0_goOn_24 ?_
    first | (have y := loop _ 0 rfl (Nat.zero_le _); rw [hk0.1 h4, hl0] at y; exact y) | (have y := loop _ 0 rfl (Nat.zero_le _); rw [hk0.2 h4, hl0] at y; exact y)
  · refine G_aload_n 7 hC rfl dX0_goOn_7 ?_
    refine G_iconst 8 hC (nI 1) (by decide) dX0_goOn_8 ?_
    refine B_putI 9 hC hB (rfl) (fp_X0_93_0 _) rfl rfl rfl dX0_goOn_9 ?_
    refine G_aload_n 12 hC rfl dX0_goOn_12 ?_
    refine G_aload_n 13 hC rfl dX0_goOn_13 ?_
    refine G_getR 14 hC fl_X0_42_0 (hB _ _ (rfl) (by decide)) (hX.plan) rfl dX0_goOn_14 ?_
    refine O_getI 17 hC (hP.sh) (hP.out) fl_X0_102_4 rfl dX0_goOn_17 ?_
    refine B_putI 20 hC hB (rfl) (fp_X0_96_0 _) rfl rfl rfl dX0_goOn_20 ?_
    refine G_iconst 23 hC (nI 0) (by decide) dX0_goOn_23 ?_
    refine G_istore_n 24 hC 2 rfl (by decide) (ls' := [_, _, _]) rfl dX0_goOn_24 ?_
    first | (have y := loop _ 0 rfl (Nat.zero_le _); rw [hk0.1 h4, hl0] at y; exact y) | (have y := loop _ 0 rfl (Nat.zero_le _); rw [hk0.2 h4, hl0] at y; exact y)
theorem c_goOn_over (hX : FixC c P N) (hP : FixP c P N) {n m : Nat} {Km : Nat → MI} {Kl : Nat → ML} {th : Nat → Nat} (hn : n < 2 ^ 31) (hm : m ≤ n) (hk0 : (k 0 16 = 0 → Km 0 = upd2 (upd2 k 0 16 (nI 1)) 0 17 (G P 5)) ∧ (¬ k 0 16 = 0 → Km 0 = k)) (hl0 : Kl 0 = kl) (hTn : ∀ i, i < m → Cq l D B mX0_nextThread [vr (some (c + 0))] (pt c 35 (Km i) G) (pt c 35 (Kl i) GL) N (some (vi (nI (th i)))) (pt c 35 (Km i) G) (pt c 35 (Kl i) GL)) (hTg : ∀ i, i < m → Cq l D B mX0_giveTurn [vr (some (c + 0)), vi (nI (th i))] (pt c 35 (Km i) G) (pt c 35 (Kl i) GL) N none (pt c 35 (Km (i + 1)) G) (pt c 35 (Kl (i + 1)) GL)) (hL : ∀ i, i < m → 0 < Km i 0 17) (hend : m = n ∨ Km m 0 17 ≤ 0) (hleft : Km m 0 17 ≤ 0) (hMa : Cq l D B mX0_doFailedSharesAgain [vr (some (c + 0))] (pt c 35 (Km m) G) (pt c 35 (Kl m) GL) N none (pt c 35 k2 G) (pt c 35 kl2 GL)) : Cq l D B mX0_goOn [vr (some (c + 0)), vi (nI n)] (pt c 35 k G) (pt c 35 kl GL) N (some (vi (if k2 0 15 = -9 then nI 2 else nI 1))) (pt c 35 (upd2 k2 0 16 (nI 2)) G) (pt c 35 kl2 GL) := by
  have hB := hX.b
  refine Ct.of (M := mX0_goOn) (by decide) (Nat.le_of_ble_eq_true rfl) (fun g (hR : Cr l D B RX0 cX0_goOn 3 "goOn" { frames := 6, cells := 0, slots := 0, locals := 138 } (some .int) 0 0 _ g) => ?_)
  have hC := hR.cx
  have loop : ∀ (f i : Nat), m - i = f → i ≤ m → g 25 [some (vr (some (c + 0))), some (vi (nI n)), some (vi (nI i))] [] (pt c 35 (Km i) G) (pt c 35 (Kl i) GL) N 0 0 := by
    intro f
    induction f using Nat.strongRecOn with
    | _ f ih =>
      intro i hf hi
      refine G_iload_n 25 hC rfl dX0_goOn_25 ?_
      refine G_iload_n 26 hC rfl dX0_goOn_26 ?_
      refine G_icmp_ge 27 51 hC dX0_goOn_27 (by decide) (fun h27 => ?_) (fun h27 => ?_)
      · have ei : i = m := by
          rcases Nat.lt_or_ge i m with y | y
          · first
              | exact absurd ((nI_leI (by omega) (by omega)).mp h27) (by omega)
              | exact absurd h34 (Int32.not_le.mpr (hL i y))
          · omega
        subst ei
        refine G_aload_n 51 hC rfl dX0_goOn_51 ?_
        refine B_getI 52 hC hB (rfl) fl_X0_96_0 rfl dX0_goOn_52 ?_
        refine G_if_le 55 60 hC dX0_goOn_55 (by decide) (fun h55 => ?_) (fun h55 => ?_)
        · refine G_aload_n 60 hC rfl dX0_goOn_60 ?_
          refine G_callV0 61 hC (hMa) okX0_doFailedSharesAgain lk_X0_113 (hB _ _ (rfl) (by decide)) rfl rfl rfl rfl (Nat.le_of_ble_eq_true rfl) (by decide) (by decide) dX0_goOn_61 ?_
          refine G_aload_n 64 hC rfl dX0_goOn_64 ?_
          refine G_iconst 65 hC (nI 2) (by decide) dX0_goOn_65 ?_
          refine B_putI 66 hC hB (rfl) (fp_X0_93_0 _) rfl rfl rfl dX0_goOn_66 ?_
          refine G_aload_n 69 hC rfl dX0_goOn_69 ?_
          refine B_getI 70 hC hB (rfl) fl_X0_90_0 rfl dX0_goOn_70 ?_
          refine G_bipush 73 hC (-9) (by decide) dX0_goOn_73 ?_
          refine G_icmp_ne 75 82 hC dX0_goOn_75 (by decide) (fun h75 => ?_) (fun h75 => ?_)
          · refine G_iconst 82 hC (nI 1) (by decide) dX0_goOn_82 ?_
            refine R_i 83 hR (by first | rfl | exact narrow_bI _) dX0_goOn_83 (Nat.le_refl _) (Nat.le_refl _) ?_
            refine ⟨?_, rfl, rfl, rfl⟩
            first | (rw [if_pos (show k2 0 15 = -9 from h75)]; done) | (rw [if_neg (show ¬ k2 0 15 = -9 from h75)]; done)
          · refine G_iconst 78 hC (nI 2) (by decide) dX0_goOn_78 ?_
            refine G_goto 79 83 hC dX0_goOn_79 (by decide) ?_
            refine R_i 83 hR (by first | rfl | exact narrow_bI _) dX0_goOn_83 (Nat.le_refl _) (Nat.le_refl _) ?_
            refine ⟨?_, rfl, rfl, rfl⟩
            first | (rw [if_pos (show k2 0 15 = -9 from h75)]; done) | (rw [if_neg (show ¬ k2 0 15 = -9 from h75)]; done)
        · exact absurd hleft h55
      · refine G_aload_n 30 hC rfl dX0_goOn_30 ?_
        refine B_getI 31 hC hB (rfl) fl_X0_96_0 rfl dX0_goOn_31 ?_
        refine G_if_le 34 51 hC dX0_goOn_34 (by decide) (fun h34 => ?_) (fun h34 => ?_)
        · have ei : i = m := by
            rcases Nat.lt_or_ge i m with y | y
            · first
                | exact absurd ((nI_leI (by omega) (by omega)).mp h27) (by omega)
                | exact absurd h34 (Int32.not_le.mpr (hL i y))
            · omega
          subst ei
          refine G_aload_n 51 hC rfl dX0_goOn_51 ?_
          refine B_getI 52 hC hB (rfl) fl_X0_96_0 rfl dX0_goOn_52 ?_
          refine G_if_le 55 60 hC dX0_goOn_55 (by decide) (fun h55 => ?_) (fun h55 => ?_)
          · refine G_aload_n 60 hC rfl dX0_goOn_60 ?_
            refine G_callV0 61 hC (hMa) okX0_doFailedSharesAgain lk_X0_113 (hB _ _ (rfl) (by decide)) rfl rfl rfl rfl (Nat.le_of_ble_eq_true rfl) (by decide) (by decide) dX0_goOn_61 ?_
            refine G_aload_n 64 hC rfl dX0_goOn_64 ?_
            refine G_iconst 65 hC (nI 2) (by decide) dX0_goOn_65 ?_
            refine B_putI 66 hC hB (rfl) (fp_X0_93_0 _) rfl rfl rfl dX0_goOn_66 ?_
            refine G_aload_n 69 hC rfl dX0_goOn_69 ?_
            refine B_getI 70 hC hB (rfl) fl_X0_90_0 rfl dX0_goOn_70 ?_
            refine G_bipush 73 hC (-9) (by decide) dX0_goOn_73 ?_
            refine G_icmp_ne 75 82 hC dX0_goOn_75 (by decide) (fun h75 => ?_) (fun h75 => ?_)
            · refine G_iconst 82 hC (nI 1) (by decide) dX0_goOn_82 ?_
              refine R_i 83 hR (by first | rfl | exact narrow_bI _) dX0_goOn_83 (Nat.le_refl _) (Nat.le_refl _) ?_
              refine ⟨?_, rfl, rfl, rfl⟩
              first | (rw [if_pos (show k2 0 15 = -9 from h75)]; done) | (rw [if_neg (show ¬ k2 0 15 = -9 from h75)]; done)
            · refine G_iconst 78 hC (nI 2) (by decide) dX0_goOn_78 ?_
              refine G_goto 79 83 hC dX0_goOn_79 (by decide) ?_
              refine R_i 83 hR (by first | rfl | exact narrow_bI _) dX0_goOn_83 (Nat.le_refl _) (Nat.le_refl _) ?_
              refine ⟨?_, rfl, rfl, rfl⟩
              first | (rw [if_pos (show k2 0 15 = -9 from h75)]; done) | (rw [if_neg (show ¬ k2 0 15 = -9 from h75)]; done)
          · exact absurd hleft h55
        · have ai : i < m := by
            rcases Nat.lt_or_ge i m with y | y
            · exact y
            · have e : i = m := by omega
              subst e
              rcases hend with e | e
              · exact absurd ((nI_leI (by omega) (by omega)).mpr (by omega)) h27
              · exact absurd e h34
          refine G_aload_n 37 hC rfl dX0_goOn_37 ?_
          refine G_aload_n 38 hC rfl dX0_goOn_38 ?_
          refine G_callV1 39 hC (hTn i ai) okX0_nextThread lk_X0_105 (hB _ _ (rfl) (by decide)) rfl rfl rfl rfl (Nat.le_of_ble_eq_true rfl) (by decide) (by decide) dX0_goOn_39 ?_
          refine G_callV0 42 hC (hTg i ai) okX0_giveTurn lk_X0_109 (hB _ _ (rfl) (by decide)) rfl rfl rfl rfl (Nat.le_of_ble_eq_true rfl) (by decide) (by decide) dX0_goOn_42 ?_
          first | refine G_iincN 45 hC (by decide) rfl (ls' := [_, _, _]) rfl dX0_goOn_45 ?_ | refine G_iinc 45 hC _ rfl (by decide) rfl (ls' := [_, _, _]) rfl dX0_goOn_45 ?_
          refine G_goto 48 25 hC dX0_goOn_48 (by decide) ?_
          exact ih (m - (i + 1)) (by omega) (i + 1) rfl (by omega)
  show g 0 [some (vr (some (c + 0))), some (vi (nI n)), none] [] _ _ N 0 0
  refine G_aload_n 0 hC rfl dX0_goOn_0 ?_
  refine B_getI 1 hC hB (rfl) fl_X0_93_0 rfl dX0_goOn_1 ?_
  first | refine G_if_ne_b 4 23 hC dX0_goOn_4 (by decide) (fun h4 => ?_) (fun h4 => ?_) | refine G_if_ne 4 23 hC dX0_goOn_4 (by decide) (fun h4 => ?_) (fun h4 => ?_)
  · refine G_iconst 23 hC (nI 0) (by decide) dX0_goOn_23 ?_
    refine G_istore_n 24 hC 2 rfl (by decide) (ls' := [_, _, _]) rfl dX0_goOn_24 ?_
    first | (have y := loop _ 0 rfl (Nat.zero_le _); rw [hk0.1 h4, hl0] at y; exact y) | (have y := loop _ 0 rfl (Nat.zero_le _); rw [hk0.2 h4, hl0] at y; exact y)
  · refine G_aload_n 7 hC rfl dX0_goOn_7 ?_
    refine G_iconst 8 hC (nI 1) (by decide) dX0_goOn_8 ?_
    refine B_putI 9 hC hB (rfl) (fp_X0_93_0 _) rfl rfl rfl dX0_goOn_9 ?_
    refine G_aload_n 12 hC rfl dX0_goOn_12 ?_
    refine G_aload_n 13 hC rfl dX0_goOn_13 ?_
    refine G_getR 14 hC fl_X0_42_0 (hB _ _ (rfl) (by decide)) (hX.plan) rfl dX0_goOn_14 ?_
    refine O_getI 17 hC (hP.sh) (hP.out) fl_X0_102_4 rfl dX0_goOn_17 ?_
    refine B_putI 20 hC hB (rfl) (fp_X0_96_0 _) rfl rfl rfl dX0_goOn_20 ?_
    refine G_iconst 23 hC (nI 0) (by decide) dX0_goOn_23 ?_
    refine G_istore_n 24 hC 2 rfl (by decide) (ls' := [_, _, _]) rfl dX0_goOn_24 ?_
    first | (have y := loop _ 0 rfl (Nat.zero_le _); rw [hk0.1 h4, hl0] at y; exact y) | (have y := loop _ 0 rfl (Nat.zero_le _); rw [hk0.2 h4, hl0] at y; exact y)
end C13

/-! ===== a step, a taking, a look, a turn of the reference ===== -/
def F_stV (v used bud : Int32) : Int32 := if v = nI 1 ∧ bud ≤ used then nI 4 else v
section M7
variable {l : Launch} {D : va_G} {B b : Nat} {N : NT} {r G : MI} {rl GL : ML} {n n1 : Nat → Int32} {q q1 : Nat → Int64} {S S1 : Int64} {I : MI} {L : ML}
theorem n_step_P (hF : FixR b N) {t so : Nat} {v : Int32} (ht : t < 20) (hso : r 6 t = nI so) (hso2 : so = 0 ∨ so = 1) (hM : Cq l D B mX12_plain [vr (some (b + 0)), vi (nI t)] (RI b r (up n (12 * t + 2) (n (12 * t + 2) + nI 1)) G) (RLg b rl S q GL) N (some (vi v)) (RI b r n1 G) (RLg b rl S1 q1 GL)) : Cq l D B mX12_step [vr (some (b + 0)), vi (nI t)] (RI b r n G) (RLg b rl S q GL) N (some (vi (F_stV v (n1 (12 * t + 2)) (r 11 t)))) (RI b r n1 G) (RLg b rl S1 q1 GL) := by
  refine Ct.of (M := mX12_step) (by decide) (Nat.le_of_ble_eq_true rfl) (fun g (hR : Cr l D B RX12 cX12_step 4 "step" { frames := 4, cells := 0, slots := 0, locals := 92 } (some .int) 0 0 _ g) => ?_)
  have hC := hR.cx
  show g 0 [some (vr (some (b + 0))), some (vi (nI t)), none, none] [] _ _ N 0 0
  refine G_aload_n 0 hC rfl dX12_step_0 ?_
  refine G_iload_n 1 hC rfl dX12_step_1 ?_
  refine G_iconst 2 hC (nI 2) (by decide) dX12_step_2 ?_
  refine G_callV0 3 hC (n_more hF (by omega) (by omega)) okX12_more lk_X12_160 ((hF.sh (o := 0) rfl (by decide)).1) rfl rfl rfl rfl (Nat.le_of_ble_eq_true rfl) (by decide) (by decide) dX12_step_3 ?_
  refine G_aload_n 6 hC rfl dX12_step_6 ?_
  refine M_getR 7 hC hF fl_X12_26_11 rfl rfl dX12_step_7 ?_
  refine G_iload_n 10 hC rfl dX12_step_10 ?_
  refine N_ialdO 11 hC hF rfl (by decide) (by decide) rfl (by omega) dX12_step_11 ?_
  refine G_iconst 12 hC (nI 2) (by decide) dX12_step_12 ?_
  refine G_icmp_ge 13 24 hC dX12_step_13 (by decide) (fun h13 => ?_) (fun h13 => ?_)
  · exact absurd (hso ▸ h13) (by rcases hso2 with rfl | rfl <;> decide)
  · refine G_aload_n 16 hC rfl dX12_step_16 ?_
    refine G_iload_n 17 hC rfl dX12_step_17 ?_
    refine G_callV1 18 hC (hM) okX12_plain lk_X12_164 ((hF.sh (o := 0) rfl (by decide)).1) rfl rfl rfl rfl (Nat.le_of_ble_eq_true rfl) (by decide) (by decide) dX12_step_18 ?_
    refine G_goto 21 47 hC dX12_step_21 (by decide) ?_
    refine G_istore_n 47 hC 2 rfl (by decide) (ls' := [_, _, _, _]) rfl dX12_step_47 ?_
    refine G_aload_n 48 hC rfl dX12_step_48 ?_
    refine M_getR 49 hC hF fl_X12_26_11 rfl rfl dX12_step_49 ?_
    refine G_iload_n 52 hC rfl dX12_step_52 ?_
    refine N_ialdO 53 hC hF rfl (by decide) (by decide) rfl (by omega) dX12_step_53 ?_
    refine G_iconst 54 hC (nI 4) (by decide) dX12_step_54 ?_
    refine G_icmp_ne 55 68 hC dX12_step_55 (by decide) (fun h55 => ?_) (fun h55 => ?_)
    · refine G_aload_n 68 hC rfl dX12_step_68 ?_
      refine G_iload_n 69 hC rfl dX12_step_69 ?_
      refine G_iconst 70 hC (nI 2) (by decide) dX12_step_70 ?_
      refine G_callV1 71 hC (n_at hF (by omega) (by omega)) okX12_at lk_X12_173 ((hF.sh (o := 0) rfl (by decide)).1) rfl rfl rfl rfl (Nat.le_of_ble_eq_true rfl) (by decide) (by decide) dX12_step_71 ?_
      refine G_aload_n 74 hC rfl dX12_step_74 ?_
      refine M_getR 75 hC hF fl_X12_41_11 rfl rfl dX12_step_75 ?_
      refine G_iload_n 78 hC rfl dX12_step_78 ?_
      refine N_ialdO 79 hC hF rfl (by decide) (by decide) rfl (by omega) dX12_step_79 ?_
      refine G_icmp_lt 80 87 hC dX12_step_80 (by decide) (fun h80 => ?_) (fun h80 => ?_)
      · have h80' : ¬ r 11 t ≤ n1 (12 * t + 2) := Int32.not_le.mpr h80
        refine G_iconst 87 hC (nI 0) (by decide) dX12_step_87 ?_
        refine G_istore_n 88 hC 3 rfl (by decide) (ls' := [_, _, _, _]) rfl dX12_step_88 ?_
        refine G_iload_n 89 hC rfl dX12_step_89 ?_
        refine G_iconst 90 hC (nI 1) (by decide) dX12_step_90 ?_
        refine G_icmp_ne 91 102 hC dX12_step_91 (by decide) (fun h91 => ?_) (fun h91 => ?_)
        · refine G_iload_n 102 hC rfl dX12_step_102 ?_
          refine R_i 103 hR (by first | rfl | exact narrow_bI _) dX12_step_103 (Nat.le_refl _) (Nat.le_refl _) ?_
          refine ⟨?_, rfl, rfl, rfl⟩
          unfold F_stV
          first
            | exact absurd h95 (by decide)
            | (rw [if_pos ⟨h91, h80'⟩]; done)
            | (rw [if_neg (fun z => h91 z.1)]; done)
            | (rw [if_neg (fun z => absurd z.2 h80')]; done)
        · refine G_iload_n 94 hC rfl dX12_step_94 ?_
          first | refine G_if_eq_b 95 102 hC dX12_step_95 (by decide) (fun h95 => ?_) (fun h95 => ?_) | refine G_if_eq 95 102 hC dX12_step_95 (by decide) (fun h95 => ?_) (fun h95 => ?_)
          · refine G_iload_n 102 hC rfl dX12_step_102 ?_
            refine R_i 103 hR (by first | rfl | exact narrow_bI _) dX12_step_103 (Nat.le_refl _) (Nat.le_refl _) ?_
            refine ⟨?_, rfl, rfl, rfl⟩
            unfold F_stV
            first
              | exact absurd h95 (by decide)
              | (rw [if_pos ⟨h91, h80'⟩]; done)
              | (rw [if_neg (fun z => h91 z.1)]; done)
              | (rw [if_neg (fun z => absurd z.2 h80')]; done)
          · refine G_iconst 98 hC (nI 4) (by decide) dX12_step_98 ?_
            refine G_goto 99 103 hC dX12_step_99 (by decide) ?_
            refine R_i 103 hR (by first | rfl | exact narrow_bI _) dX12_step_103 (Nat.le_refl _) (Nat.le_refl _) ?_
            refine ⟨?_, rfl, rfl, rfl⟩
            unfold F_stV
            first
              | exact absurd h95 (by decide)
              | (rw [if_pos ⟨h91, h80'⟩]; done)
              | (rw [if_neg (fun z => h91 z.1)]; done)
              | (rw [if_neg (fun z => absurd z.2 h80')]; done)
      · have h80' := Int32.not_lt.mp h80
        refine G_iconst 83 hC (nI 1) (by decide) dX12_step_83 ?_
        refine G_goto 84 88 hC dX12_step_84 (by decide) ?_
        refine G_istore_n 88 hC 3 rfl (by decide) (ls' := [_, _, _, _]) rfl dX12_step_88 ?_
        refine G_iload_n 89 hC rfl dX12_step_89 ?_
        refine G_iconst 90 hC (nI 1) (by decide) dX12_step_90 ?_
        refine G_icmp_ne 91 102 hC dX12_step_91 (by decide) (fun h91 => ?_) (fun h91 => ?_)
        · refine G_iload_n 102 hC rfl dX12_step_102 ?_
          refine R_i 103 hR (by first | rfl | exact narrow_bI _) dX12_step_103 (Nat.le_refl _) (Nat.le_refl _) ?_
          refine ⟨?_, rfl, rfl, rfl⟩
          unfold F_stV
          first
            | exact absurd h95 (by decide)
            | (rw [if_pos ⟨h91, h80'⟩]; done)
            | (rw [if_neg (fun z => h91 z.1)]; done)
            | (rw [if_neg (fun z => absurd z.2 h80')]; done)
        · refine G_iload_n 94 hC rfl dX12_step_94 ?_
          first | refine G_if_eq_b 95 102 hC dX12_step_95 (by decide) (fun h95 => ?_) (fun h95 => ?_) | refine G_if_eq 95 102 hC dX12_step_95 (by decide) (fun h95 => ?_) (fun h95 => ?_)
          · refine G_iload_n 102 hC rfl dX12_step_102 ?_
            refine R_i 103 hR (by first | rfl | exact narrow_bI _) dX12_step_103 (Nat.le_refl _) (Nat.le_refl _) ?_
            refine ⟨?_, rfl, rfl, rfl⟩
            unfold F_stV
            first
              | exact absurd h95 (by decide)
              | (rw [if_pos ⟨h91, h80'⟩]; done)
              | (rw [if_neg (fun z => h91 z.1)]; done)
              | (rw [if_neg (fun z => absurd z.2 h80')]; done)
          · refine G_iconst 98 hC (nI 4) (by decide) dX12_step_98 ?_
            refine G_goto 99 103 hC dX12_step_99 (by decide) ?_
            refine R_i 103 hR (by first | rfl | exact narrow_bI _) dX12_step_103 (Nat.le_refl _) (Nat.le_refl _) ?_
            refine ⟨?_, rfl, rfl, rfl⟩
            unfold F_stV
            first
              | exact absurd h95 (by decide)
              | (rw [if_pos ⟨h91, h80'⟩]; done)
              | (rw [if_neg (fun z => h91 z.1)]; done)
              | (rw [if_neg (fun z => absurd z.2 h80')]; done)
    · exact absurd (hso ▸ h55) (by rcases hso2 with rfl | rfl <;> decide)
theorem n_step_S (hF : FixR b N) {t : Nat} {v : Int32} (ht : t < 20) (hso : r 6 t = nI 4) (hM : Cq l D B mX12_shared [vr (some (b + 0)), vi (nI t)] (RI b r (up n (12 * t + 2) (n (12 * t + 2) + nI 1)) G) (RLg b rl S q GL) N (some (vi v)) (RI b r n1 G) (RLg b rl S1 q1 GL)) : Cq l D B mX12_step [vr (some (b + 0)), vi (nI t)] (RI b r n G) (RLg b rl S q GL) N (some (vi (F_stV v (n1 (12 * t + 9)) (r 11 t)))) (RI b r n1 G) (RLg b rl S1 q1 GL) := by
  refine Ct.of (M := mX12_step) (by decide) (Nat.le_of_ble_eq_true rfl) (fun g (hR : Cr l D B RX12 cX12_step 4 "step" { frames := 4, cells := 0, slots := 0, locals := 92 } (some .int) 0 0 _ g) => ?_)
  have hC := hR.cx
  show g 0 [some (vr (some (b + 0))), some (vi (nI t)), none, none] [] _ _ N 0 0
  refine G_aload_n 0 hC rfl dX12_step_0 ?_
  refine G_iload_n 1 hC rfl dX12_step_1 ?_
  refine G_iconst 2 hC (nI 2) (by decide) dX12_step_2 ?_
  refine G_callV0 3 hC (n_more hF (by omega) (by omega)) okX12_more lk_X12_160 ((hF.sh (o := 0) rfl (by decide)).1) rfl rfl rfl rfl (Nat.le_of_ble_eq_true rfl) (by decide) (by decide) dX12_step_3 ?_
  refine G_aload_n 6 hC rfl dX12_step_6 ?_
  refine M_getR 7 hC hF fl_X12_26_11 rfl rfl dX12_step_7 ?_
  refine G_iload_n 10 hC rfl dX12_step_10 ?_
  refine N_ialdO 11 hC hF rfl (by decide) (by decide) rfl (by omega) dX12_step_11 ?_
  refine G_iconst 12 hC (nI 2) (by decide) dX12_step_12 ?_
  refine G_icmp_ge 13 24 hC dX12_step_13 (by decide) (fun h13 => ?_) (fun h13 => ?_)
  · refine G_aload_n 24 hC rfl dX12_step_24 ?_
    refine M_getR 25 hC hF fl_X12_26_11 rfl rfl dX12_step_25 ?_
    refine G_iload_n 28 hC rfl dX12_step_28 ?_
    refine N_ialdO 29 hC hF rfl (by decide) (by decide) rfl (by omega) dX12_step_29 ?_
    refine G_iconst 30 hC (nI 4) (by decide) dX12_step_30 ?_
    refine G_icmp_ne 31 42 hC dX12_step_31 (by decide) (fun h31 => ?_) (fun h31 => ?_)
    · exact absurd hso h31
    · refine G_aload_n 34 hC rfl dX12_step_34 ?_
      refine G_iload_n 35 hC rfl dX12_step_35 ?_
      refine G_callV1 36 hC (hM) okX12_shared lk_X12_167 ((hF.sh (o := 0) rfl (by decide)).1) rfl rfl rfl rfl (Nat.le_of_ble_eq_true rfl) (by decide) (by decide) dX12_step_36 ?_
      refine G_goto 39 47 hC dX12_step_39 (by decide) ?_
      refine G_istore_n 47 hC 2 rfl (by decide) (ls' := [_, _, _, _]) rfl dX12_step_47 ?_
      refine G_aload_n 48 hC rfl dX12_step_48 ?_
      refine M_getR 49 hC hF fl_X12_26_11 rfl rfl dX12_step_49 ?_
      refine G_iload_n 52 hC rfl dX12_step_52 ?_
      refine N_ialdO 53 hC hF rfl (by decide) (by decide) rfl (by omega) dX12_step_53 ?_
      refine G_iconst 54 hC (nI 4) (by decide) dX12_step_54 ?_
      refine G_icmp_ne 55 68 hC dX12_step_55 (by decide) (fun h55 => ?_) (fun h55 => ?_)
      · exact absurd hso h55
      · refine G_aload_n 58 hC rfl dX12_step_58 ?_
        refine G_iload_n 59 hC rfl dX12_step_59 ?_
        refine G_bipush 60 hC (nI 9) (by decide) dX12_step_60 ?_
        refine G_callV1 62 hC (n_at hF (by omega) (by omega)) okX12_at lk_X12_173 ((hF.sh (o := 0) rfl (by decide)).1) rfl rfl rfl rfl (Nat.le_of_ble_eq_true rfl) (by decide) (by decide) dX12_step_62 ?_
        refine G_goto 65 74 hC dX12_step_65 (by decide) ?_
        refine G_aload_n 74 hC rfl dX12_step_74 ?_
        refine M_getR 75 hC hF fl_X12_41_11 rfl rfl dX12_step_75 ?_
        refine G_iload_n 78 hC rfl dX12_step_78 ?_
        refine N_ialdO 79 hC hF rfl (by decide) (by decide) rfl (by omega) dX12_step_79 ?_
        refine G_icmp_lt 80 87 hC dX12_step_80 (by decide) (fun h80 => ?_) (fun h80 => ?_)
        · have h80' : ¬ r 11 t ≤ n1 (12 * t + 9) := Int32.not_le.mpr h80
          refine G_iconst 87 hC (nI 0) (by decide) dX12_step_87 ?_
          refine G_istore_n 88 hC 3 rfl (by decide) (ls' := [_, _, _, _]) rfl dX12_step_88 ?_
          refine G_iload_n 89 hC rfl dX12_step_89 ?_
          refine G_iconst 90 hC (nI 1) (by decide) dX12_step_90 ?_
          refine G_icmp_ne 91 102 hC dX12_step_91 (by decide) (fun h91 => ?_) (fun h91 => ?_)
          · refine G_iload_n 102 hC rfl dX12_step_102 ?_
            refine R_i 103 hR (by first | rfl | exact narrow_bI _) dX12_step_103 (Nat.le_refl _) (Nat.le_refl _) ?_
            refine ⟨?_, rfl, rfl, rfl⟩
            unfold F_stV
            first
              | exact absurd h95 (by decide)
              | (rw [if_pos ⟨h91, h80'⟩]; done)
              | (rw [if_neg (fun z => h91 z.1)]; done)
              | (rw [if_neg (fun z => absurd z.2 h80')]; done)
          · refine G_iload_n 94 hC rfl dX12_step_94 ?_
            first | refine G_if_eq_b 95 102 hC dX12_step_95 (by decide) (fun h95 => ?_) (fun h95 => ?_) | refine G_if_eq 95 102 hC dX12_step_95 (by decide) (fun h95 => ?_) (fun h95 => ?_)
            · refine G_iload_n 102 hC rfl dX12_step_102 ?_
              refine R_i 103 hR (by first | rfl | exact narrow_bI _) dX12_step_103 (Nat.le_refl _) (Nat.le_refl _) ?_
              refine ⟨?_, rfl, rfl, rfl⟩
              unfold F_stV
              first
                | exact absurd h95 (by decide)
                | (rw [if_pos ⟨h91, h80'⟩]; done)
                | (rw [if_neg (fun z => h91 z.1)]; done)
                | (rw [if_neg (fun z => absurd z.2 h80')]; done)
            · refine G_iconst 98 hC (nI 4) (by decide) dX12_step_98 ?_
              refine G_goto 99 103 hC dX12_step_99 (by decide) ?_
              refine R_i 103 hR (by first | rfl | exact narrow_bI _) dX12_step_103 (Nat.le_refl _) (Nat.le_refl _) ?_
              refine ⟨?_, rfl, rfl, rfl⟩
              unfold F_stV
              first
                | exact absurd h95 (by decide)
                | (rw [if_pos ⟨h91, h80'⟩]; done)
                | (rw [if_neg (fun z => h91 z.1)]; done)
                | (rw [if_neg (fun z => absurd z.2 h80')]; done)
        · have h80' := Int32.not_lt.mp h80
          refine G_iconst 83 hC (nI 1) (by decide) dX12_step_83 ?_
          refine G_goto 84 88 hC dX12_step_84 (by decide) ?_
          refine G_istore_n 88 hC 3 rfl (by decide) (ls' := [_, _, _, _]) rfl dX12_step_88 ?_
          refine G_iload_n 89 hC rfl dX12_step_89 ?_
          refine G_iconst 90 hC (nI 1) (by decide) dX12_step_90 ?_
          refine G_icmp_ne 91 102 hC dX12_step_91 (by decide) (fun h91 => ?_) (fun h91 => ?_)
          · refine G_iload_n 102 hC rfl dX12_step_102 ?_
            refine R_i 103 hR (by first | rfl | exact narrow_bI _) dX12_step_103 (Nat.le_refl _) (Nat.le_refl _) ?_
            refine ⟨?_, rfl, rfl, rfl⟩
            unfold F_stV
            first
              | exact absurd h95 (by decide)
              | (rw [if_pos ⟨h91, h80'⟩]; done)
              | (rw [if_neg (fun z => h91 z.1)]; done)
              | (rw [if_neg (fun z => absurd z.2 h80')]; done)
          · refine G_iload_n 94 hC rfl dX12_step_94 ?_
            first | refine G_if_eq_b 95 102 hC dX12_step_95 (by decide) (fun h95 => ?_) (fun h95 => ?_) | refine G_if_eq 95 102 hC dX12_step_95 (by decide) (fun h95 => ?_) (fun h95 => ?_)
            · refine G_iload_n 102 hC rfl dX12_step_102 ?_
              refine R_i 103 hR (by first | rfl | exact narrow_bI _) dX12_step_103 (Nat.le_refl _) (Nat.le_refl _) ?_
              refine ⟨?_, rfl, rfl, rfl⟩
              unfold F_stV
              first
                | exact absurd h95 (by decide)
                | (rw [if_pos ⟨h91, h80'⟩]; done)
                | (rw [if_neg (fun z => h91 z.1)]; done)
                | (rw [if_neg (fun z => absurd z.2 h80')]; done)
            · refine G_iconst 98 hC (nI 4) (by decide) dX12_step_98 ?_
              refine G_goto 99 103 hC dX12_step_99 (by decide) ?_
              refine R_i 103 hR (by first | rfl | exact narrow_bI _) dX12_step_103 (Nat.le_refl _) (Nat.le_refl _) ?_
              refine ⟨?_, rfl, rfl, rfl⟩
              unfold F_stV
              first
                | exact absurd h95 (by decide)
                | (rw [if_pos ⟨h91, h80'⟩]; done)
                | (rw [if_neg (fun z => h91 z.1)]; done)
                | (rw [if_neg (fun z => absurd z.2 h80')]; done)
  · exact absurd (by rw [hso]; decide) h13
theorem n_step_R (hF : FixR b N) {t : Nat} {v : Int32} (ht : t < 20) (hso : r 6 t = nI 2 ∨ r 6 t = nI 3) (hM : Cq l D B mX12_read [vr (some (b + 0)), vi (nI t)] (RI b r (up n (12 * t + 2) (n (12 * t + 2) + nI 1)) G) (RLg b rl S q GL) N (some (vi v)) (RI b r n1 G) (RLg b rl S1 q1 GL)) : Cq l D B mX12_step [vr (some (b + 0)), vi (nI t)] (RI b r n G) (RLg b rl S q GL) N (some (vi (F_stV v (n1 (12 * t + 2)) (r 11 t)))) (RI b r n1 G) (RLg b rl S1 q1 GL) := by
  refine Ct.of (M := mX12_step) (by decide) (Nat.le_of_ble_eq_true rfl) (fun g (hR : Cr l D B RX12 cX12_step 4 "step" { frames := 4, cells := 0, slots := 0, locals := 92 } (some .int) 0 0 _ g) => ?_)
  have hC := hR.cx
  show g 0 [some (vr (some (b + 0))), some (vi (nI t)), none, none] [] _ _ N 0 0
  refine G_aload_n 0 hC rfl dX12_step_0 ?_
  refine G_iload_n 1 hC rfl dX12_step_1 ?_
  refine G_iconst 2 hC (nI 2) (by decide) dX12_step_2 ?_
  refine G_callV0 3 hC (n_more hF (by omega) (by omega)) okX12_more lk_X12_160 ((hF.sh (o := 0) rfl (by decide)).1) rfl rfl rfl rfl (Nat.le_of_ble_eq_true rfl) (by decide) (by decide) dX12_step_3 ?_
  refine G_aload_n 6 hC rfl dX12_step_6 ?_
  refine M_getR 7 hC hF fl_X12_26_11 rfl rfl dX12_step_7 ?_
  refine G_iload_n 10 hC rfl dX12_step_10 ?_
  refine N_ialdO 11 hC hF rfl (by decide) (by decide) rfl (by omega) dX12_step_11 ?_
  refine G_iconst 12 hC (nI 2) (by decide) dX12_step_12 ?_
  refine G_icmp_ge 13 24 hC dX12_step_13 (by decide) (fun h13 => ?_) (fun h13 => ?_)
  · refine G_aload_n 24 hC rfl dX12_step_24 ?_
    refine M_getR 25 hC hF fl_X12_26_11 rfl rfl dX12_step_25 ?_
    refine G_iload_n 28 hC rfl dX12_step_28 ?_
    refine N_ialdO 29 hC hF rfl (by decide) (by decide) rfl (by omega) dX12_step_29 ?_
    refine G_iconst 30 hC (nI 4) (by decide) dX12_step_30 ?_
    refine G_icmp_ne 31 42 hC dX12_step_31 (by decide) (fun h31 => ?_) (fun h31 => ?_)
    · refine G_aload_n 42 hC rfl dX12_step_42 ?_
      refine G_iload_n 43 hC rfl dX12_step_43 ?_
      refine G_callV1 44 hC (hM) okX12_read lk_X12_170 ((hF.sh (o := 0) rfl (by decide)).1) rfl rfl rfl rfl (Nat.le_of_ble_eq_true rfl) (by decide) (by decide) dX12_step_44 ?_
      refine G_istore_n 47 hC 2 rfl (by decide) (ls' := [_, _, _, _]) rfl dX12_step_47 ?_
      refine G_aload_n 48 hC rfl dX12_step_48 ?_
      refine M_getR 49 hC hF fl_X12_26_11 rfl rfl dX12_step_49 ?_
      refine G_iload_n 52 hC rfl dX12_step_52 ?_
      refine N_ialdO 53 hC hF rfl (by decide) (by decide) rfl (by omega) dX12_step_53 ?_
      refine G_iconst 54 hC (nI 4) (by decide) dX12_step_54 ?_
      refine G_icmp_ne 55 68 hC dX12_step_55 (by decide) (fun h55 => ?_) (fun h55 => ?_)
      · refine G_aload_n 68 hC rfl dX12_step_68 ?_
        refine G_iload_n 69 hC rfl dX12_step_69 ?_
        refine G_iconst 70 hC (nI 2) (by decide) dX12_step_70 ?_
        refine G_callV1 71 hC (n_at hF (by omega) (by omega)) okX12_at lk_X12_173 ((hF.sh (o := 0) rfl (by decide)).1) rfl rfl rfl rfl (Nat.le_of_ble_eq_true rfl) (by decide) (by decide) dX12_step_71 ?_
        refine G_aload_n 74 hC rfl dX12_step_74 ?_
        refine M_getR 75 hC hF fl_X12_41_11 rfl rfl dX12_step_75 ?_
        refine G_iload_n 78 hC rfl dX12_step_78 ?_
        refine N_ialdO 79 hC hF rfl (by decide) (by decide) rfl (by omega) dX12_step_79 ?_
        refine G_icmp_lt 80 87 hC dX12_step_80 (by decide) (fun h80 => ?_) (fun h80 => ?_)
        · have h80' : ¬ r 11 t ≤ n1 (12 * t + 2) := Int32.not_le.mpr h80
          refine G_iconst 87 hC (nI 0) (by decide) dX12_step_87 ?_
          refine G_istore_n 88 hC 3 rfl (by decide) (ls' := [_, _, _, _]) rfl dX12_step_88 ?_
          refine G_iload_n 89 hC rfl dX12_step_89 ?_
          refine G_iconst 90 hC (nI 1) (by decide) dX12_step_90 ?_
          refine G_icmp_ne 91 102 hC dX12_step_91 (by decide) (fun h91 => ?_) (fun h91 => ?_)
          · refine G_iload_n 102 hC rfl dX12_step_102 ?_
            refine R_i 103 hR (by first | rfl | exact narrow_bI _) dX12_step_103 (Nat.le_refl _) (Nat.le_refl _) ?_
            refine ⟨?_, rfl, rfl, rfl⟩
            unfold F_stV
            first
              | exact absurd h95 (by decide)
              | (rw [if_pos ⟨h91, h80'⟩]; done)
              | (rw [if_neg (fun z => h91 z.1)]; done)
              | (rw [if_neg (fun z => absurd z.2 h80')]; done)
          · refine G_iload_n 94 hC rfl dX12_step_94 ?_
            first | refine G_if_eq_b 95 102 hC dX12_step_95 (by decide) (fun h95 => ?_) (fun h95 => ?_) | refine G_if_eq 95 102 hC dX12_step_95 (by decide) (fun h95 => ?_) (fun h95 => ?_)
            · refine G_iload_n 102 hC rfl dX12_step_102 ?_
              refine R_i 103 hR (by first | rfl | exact narrow_bI _) dX12_step_103 (Nat.le_refl _) (Nat.le_refl _) ?_
              refine ⟨?_, rfl, rfl, rfl⟩
              unfold F_stV
              first
                | exact absurd h95 (by decide)
                | (rw [if_pos ⟨h91, h80'⟩]; done)
                | (rw [if_neg (fun z => h91 z.1)]; done)
                | (rw [if_neg (fun z => absurd z.2 h80')]; done)
            · refine G_iconst 98 hC (nI 4) (by decide) dX12_step_98 ?_
              refine G_goto 99 103 hC dX12_step_99 (by decide) ?_
              refine R_i 103 hR (by first | rfl | exact narrow_bI _) dX12_step_103 (Nat.le_refl _) (Nat.le_refl _) ?_
              refine ⟨?_, rfl, rfl, rfl⟩
              unfold F_stV
              first
                | exact absurd h95 (by decide)
                | (rw [if_pos ⟨h91, h80'⟩]; done)
                | (rw [if_neg (fun z => h91 z.1)]; done)
                | (rw [if_neg (fun z => absurd z.2 h80')]; done)
        · have h80' := Int32.not_lt.mp h80
          refine G_iconst 83 hC (nI 1) (by decide) dX12_step_83 ?_
          refine G_goto 84 88 hC dX12_step_84 (by decide) ?_
          refine G_istore_n 88 hC 3 rfl (by decide) (ls' := [_, _, _, _]) rfl dX12_step_88 ?_
          refine G_iload_n 89 hC rfl dX12_step_89 ?_
          refine G_iconst 90 hC (nI 1) (by decide) dX12_step_90 ?_
          refine G_icmp_ne 91 102 hC dX12_step_91 (by decide) (fun h91 => ?_) (fun h91 => ?_)
          · refine G_iload_n 102 hC rfl dX12_step_102 ?_
            refine R_i 103 hR (by first | rfl | exact narrow_bI _) dX12_step_103 (Nat.le_refl _) (Nat.le_refl _) ?_
            refine ⟨?_, rfl, rfl, rfl⟩
            unfold F_stV
            first
              | exact absurd h95 (by decide)
              | (rw [if_pos ⟨h91, h80'⟩]; done)
              | (rw [if_neg (fun z => h91 z.1)]; done)
              | (rw [if_neg (fun z => absurd z.2 h80')]; done)
          · refine G_iload_n 94 hC rfl dX12_step_94 ?_
            first | refine G_if_eq_b 95 102 hC dX12_step_95 (by decide) (fun h95 => ?_) (fun h95 => ?_) | refine G_if_eq 95 102 hC dX12_step_95 (by decide) (fun h95 => ?_) (fun h95 => ?_)
            · refine G_iload_n 102 hC rfl dX12_step_102 ?_
              refine R_i 103 hR (by first | rfl | exact narrow_bI _) dX12_step_103 (Nat.le_refl _) (Nat.le_refl _) ?_
              refine ⟨?_, rfl, rfl, rfl⟩
              unfold F_stV
              first
                | exact absurd h95 (by decide)
                | (rw [if_pos ⟨h91, h80'⟩]; done)
                | (rw [if_neg (fun z => h91 z.1)]; done)
                | (rw [if_neg (fun z => absurd z.2 h80')]; done)
            · refine G_iconst 98 hC (nI 4) (by decide) dX12_step_98 ?_
              refine G_goto 99 103 hC dX12_step_99 (by decide) ?_
              refine R_i 103 hR (by first | rfl | exact narrow_bI _) dX12_step_103 (Nat.le_refl _) (Nat.le_refl _) ?_
              refine ⟨?_, rfl, rfl, rfl⟩
              unfold F_stV
              first
                | exact absurd h95 (by decide)
                | (rw [if_pos ⟨h91, h80'⟩]; done)
                | (rw [if_neg (fun z => h91 z.1)]; done)
                | (rw [if_neg (fun z => absurd z.2 h80')]; done)
      · exact absurd h55 (by rcases hso with z | z <;> rw [z] <;> decide)
    · exact absurd h31 (by rcases hso with z | z <;> rw [z] <;> decide)
  · exact absurd (by rcases hso with z | z <;> rw [z] <;> decide) h13
end M7

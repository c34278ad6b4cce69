/-! ===== through, run, interrupt ===== -/
section M13
variable {l : Launch} {D : va_G} {B b : Nat} {N : NT} {r G : MI} {rl GL : ML} {n n1 n2 n3 : Nat → Int32} {q q1 : Nat → Int64} {S S1 : Int64} {I : MI} {L L1 : ML}
theorem n_isOpen (hF : FixR b N) : Cq l D B mX12_isOpen [vr (some (b + 0))] (RI b r n G) L N (some (vi (bI (n 246 = 1)))) (RI b r n G) L := ref_isOpen (r := up r 20 n) hF
theorem n_isTask (hF : FixR b N) {x : Int32} {nt : Nat} (h : r 0 10 = nI nt) (hn : nt ≤ 20) : Cq l D B mX12_isTask [vr (some (b + 0)), vi x] (RI b r n G) L N (some (vi (bI (inR x nt)))) (RI b r n G) L := ref_isTask (r := up r 20 n) hF h hn
theorem n_through (hF : FixR b N) {many m : Nat} {nn : Nat → Nat → Int32} {qq : Nat → Nat → Int64} {SS : Nat → Int64} (hmany : 1 ≤ many) (hmany2 : many ≤ 6) (hm : m < 2 ^ 30) (hMb : Cq l D B mX12_begins [vr (some (b + 0))] (RI b r n G) (RLg b rl S q GL) N none (RI b r (nn 0) G) (RLg b rl (SS 0) (qq 0) GL))
    (hT : ∀ i, i < m → Cq l D B mX12_turns [vr (some (b + 0)), vi (nI (i % many))] (RI b r (nn i) G) (RLg b rl (SS i) (qq i) GL) N none (RI b r (nn (i + 1)) G) (RLg b rl (SS (i + 1)) (qq (i + 1)) GL)) (h240 : ∀ i, i ≤ m → nn i 240 = nI i) (hL : ∀ i, i < m → 0 < nn i 247) (hLm : nn m 247 ≤ 0) (hMa : Cq l D B mX12_again [vr (some (b + 0))] (RI b r (nn m) G) (RLg b rl (SS m) (qq m) GL) N none (RI b r n1 G) L1) : Cq l D B mX12_through [vr (some (b + 0)), vi (nI many)] (RI b r n G) (RLg b rl S q GL) N none (RI b r n1 G) L1 := by
  refine Ct.of (M := mX12_through) (by decide) (Nat.le_of_ble_eq_true rfl) (fun g (hR : Cr l D B RX12 cX12_through 2 "through" { frames := 6, cells := 0, slots := 0, locals := 138 } none 0 0 _ g) => ?_)
  have hC := hR.cx
  have loop : ∀ (k i : Nat), m - i < k → i ≤ m → g 4 [some (vr (some (b + 0))), some (vi (nI many))] [] (RI b r (nn i) G) (RLg b rl (SS i) (qq i) GL) N 0 0 := by
    intro k
    induction k with
    | zero => intro i h1; omega
    | succ k ih =>
      intro i hk1 hi
      refine G_aload_n 4 hC rfl dX12_through_4 ?_
      refine M_getR 5 hC hF fl_X12_68_11 rfl rfl dX12_through_5 ?_
      refine G_sipush 8 hC (nI 247) (by decide) dX12_through_8 ?_
      refine N_iald 11 hC hF rfl (by omega) dX12_through_11 ?_
      refine G_if_le 12 32 hC dX12_through_12 (by decide) (fun h12 => ?_) (fun h12 => ?_)
      · have ei : i = m := by
          rcases Nat.lt_or_ge i m with z | z
          · exact absurd h12 (Int32.not_le.mpr (hL i z))
          · omega
        subst ei
        refine G_aload_n 32 hC rfl dX12_through_32 ?_
        refine G_callV0 33 hC (hMa) okX12_again lk_X12_223 ((hF.sh (o := 0) rfl (by decide)).1) rfl rfl rfl rfl (Nat.le_of_ble_eq_true rfl) (by decide) (by decide) dX12_through_33 ?_
        refine R_v 36 hR dX12_through_36 (Nat.le_refl _) (Nat.le_refl _) ?_
        exact ⟨rfl, rfl, rfl, rfl⟩
      · have ai : i < m := by
          rcases Nat.lt_or_ge i m with z | z
          · exact z
          · exact absurd (show nn i 247 ≤ 0 by rw [show i = m by omega]; exact hLm) h12
        refine G_aload_n 15 hC rfl dX12_through_15 ?_
        refine G_aload_n 16 hC rfl dX12_through_16 ?_
        refine M_getR 17 hC hF fl_X12_68_11 rfl rfl dX12_through_17 ?_
        refine G_sipush 20 hC (nI 240) (by decide) dX12_through_20 ?_
        refine N_iald 23 hC hF rfl (by omega) dX12_through_23 ?_
        rw [h240 i (by omega)]
        refine G_iload_n 24 hC rfl dX12_through_24 ?_
        refine G_irem 25 hC (nI_ne0 (by omega) (by omega)) dX12_through_25 ?_
        rw [pk_rem (by omega) (by omega) (by omega)]
        refine G_callV0 26 hC (hT i ai) okX12_turns lk_X12_220 ((hF.sh (o := 0) rfl (by decide)).1) rfl rfl rfl rfl (Nat.le_of_ble_eq_true rfl) (by decide) (by decide) dX12_through_26 ?_
        refine G_goto 29 4 hC dX12_through_29 (by decide) ?_
        exact ih (i + 1) (by omega) (by omega)
  show g 0 [some (vr (some (b + 0))), some (vi (nI many))] [] _ _ N 0 0
  refine G_aload_n 0 hC rfl dX12_through_0 ?_
  refine G_callV0 1 hC (hMb) okX12_begins lk_X12_93 ((hF.sh (o := 0) rfl (by decide)).1) rfl rfl rfl rfl (Nat.le_of_ble_eq_true rfl) (by decide) (by decide) dX12_through_1 ?_
  exact loop _ 0 (Nat.lt_succ_self _) (Nat.zero_le _)
theorem n_run_bad (hF : FixR b N) (h0 : r 0 0 = nI 0) {x : Int32} (hx : ¬ (nI 1 ≤ x ∧ x ≤ nI 1000)) : Cq l D B mX12_run [vr (some (b + 0)), vi x] (RI b r n G) L N (some (vi (-1))) (RI b r n G) L := by
  refine Ct.of (M := mX12_run) (by decide) (Nat.le_of_ble_eq_true rfl) (fun g (hR : Cr l D B RX12 cX12_run 4 "run" { frames := 6, cells := 0, slots := 0, locals := 138 } (some .int) 0 0 _ g) => ?_)
  have hC := hR.cx
  show g 0 [some (vr (some (b + 0))), some (vi x), none, none] [] _ _ N 0 0
  refine G_aload_n 0 hC rfl dX12_run_0 ?_
  refine G_iconst 1 hC (nI 0) (by decide) dX12_run_1 ?_
  refine N_thr 2 hC hF h0 (fp_X12_96_11 _) dX12_run_2 ?_
  refine G_iload_n 5 hC rfl dX12_run_5 ?_
  refine G_iconst 6 hC (nI 1) (by decide) dX12_run_6 ?_
  refine G_sipush 7 hC (nI 1000) (by decide) dX12_run_7 ?_
  refine G_callS1 10 hC (ref_in) okX12_in lk_X12_107 rfl rfl rfl (Nat.le_of_ble_eq_true rfl) (by decide) (by decide) dX12_run_10 ?_
  first | refine G_if_ne_b 13 18 hC dX12_run_13 (by decide) (fun h13 => ?_) (fun h13 => ?_) | refine G_if_ne 13 18 hC dX12_run_13 (by decide) (fun h13 => ?_) (fun h13 => ?_)
  · exact absurd h13 hx
  · refine G_iconst 16 hC (-1) (by decide) dX12_run_16 ?_
    refine R_i 17 hR (by first | rfl | exact narrow_bI _) dX12_run_17 (Nat.le_refl _) (Nat.le_refl _) ?_
    exact ⟨rfl, rfl, rfl, rfl⟩
theorem n_run_state (hF : FixR b N) (h0 : r 0 0 = nI 0) {x : Int32} (hx : nI 1 ≤ x ∧ x ≤ nI 1000) (hst : nI 1 < n 246) : Cq l D B mX12_run [vr (some (b + 0)), vi x] (RI b r n G) L N (some (vi (-2))) (RI b r n G) L := by
  refine Ct.of (M := mX12_run) (by decide) (Nat.le_of_ble_eq_true rfl) (fun g (hR : Cr l D B RX12 cX12_run 4 "run" { frames := 6, cells := 0, slots := 0, locals := 138 } (some .int) 0 0 _ g) => ?_)
  have hC := hR.cx
  show g 0 [some (vr (some (b + 0))), some (vi x), none, none] [] _ _ N 0 0
  refine G_aload_n 0 hC rfl dX12_run_0 ?_
  refine G_iconst 1 hC (nI 0) (by decide) dX12_run_1 ?_
  refine N_thr 2 hC hF h0 (fp_X12_96_11 _) dX12_run_2 ?_
  refine G_iload_n 5 hC rfl dX12_run_5 ?_
  refine G_iconst 6 hC (nI 1) (by decide) dX12_run_6 ?_
  refine G_sipush 7 hC (nI 1000) (by decide) dX12_run_7 ?_
  refine G_callS1 10 hC (ref_in) okX12_in lk_X12_107 rfl rfl rfl (Nat.le_of_ble_eq_true rfl) (by decide) (by decide) dX12_run_10 ?_
  first | refine G_if_ne_b 13 18 hC dX12_run_13 (by decide) (fun h13 => ?_) (fun h13 => ?_) | refine G_if_ne 13 18 hC dX12_run_13 (by decide) (fun h13 => ?_) (fun h13 => ?_)
  · refine G_aload_n 18 hC rfl dX12_run_18 ?_
    refine M_getR 19 hC hF fl_X12_68_11 rfl rfl dX12_run_19 ?_
    refine G_sipush 22 hC (nI 246) (by decide) dX12_run_22 ?_
    refine N_iald 25 hC hF rfl (by omega) dX12_run_25 ?_
    refine G_iconst 26 hC (nI 1) (by decide) dX12_run_26 ?_
    refine G_icmp_le 27 33 hC dX12_run_27 (by decide) (fun h27 => ?_) (fun h27 => ?_)
    · exact absurd h27 (Int32.not_le.mpr hst)
    · refine G_bipush 30 hC (-2) (by decide) dX12_run_30 ?_
      refine R_i 32 hR (by first | rfl | exact narrow_bI _) dX12_run_32 (Nat.le_refl _) (Nat.le_refl _) ?_
      exact ⟨rfl, rfl, rfl, rfl⟩
  · exact absurd hx h13
theorem n_run_open (hF : FixR b N) (h0 : r 0 0 = nI 0) {z m c0 sc nth : Nat} {hs : Nat → Nat} {nn : Nat → Nat → Int32} {qq : Nat → Nat → Int64} {SS : Nat → Int64} (hx : nI 1 ≤ nI z ∧ nI z ≤ nI 1000) (hz : z ≤ 1000) (hst : n 246 ≤ nI 1) (hmz : m ≤ z) (hn0 : nn 0 = up n 246 (nI 1)) (hq0 : qq 0 = q) (hS0 : SS 0 = S) (hsc : r 0 25 = nI sc) (hsc2 : sc ≤ 400) (hth : r 0 1 = nI nth) (hth0 : 1 ≤ nth) (hth6 : nth ≤ 6) (hc0 : c0 < 2 ^ 29)
    (hT : ∀ i, i < m → Cq l D B mX12_turns [vr (some (b + 0)), vi (nI (hs i))] (RI b r (nn i) G) (RLg b rl (SS i) (qq i) GL) N none (RI b r (nn (i + 1)) G) (RLg b rl (SS (i + 1)) (qq (i + 1)) GL)) (hth1 : ∀ i, i < m → c0 + i < sc → r 19 (c0 + i) = nI (hs i)) (hth2 : ∀ i, i < m → sc ≤ c0 + i → (c0 + i - sc) % nth = hs i) (h240 : ∀ i, i ≤ m → nn i 240 = nI (c0 + i)) (hL : ∀ i, i < m → 0 < nn i 247) (hend : m = z ∨ nn m 247 ≤ 0) (hleft : 0 < nn m 247) : Cq l D B mX12_run [vr (some (b + 0)), vi (nI z)] (RI b r n G) (RLg b rl S q GL) N (some (vi (nI 0))) (RI b r (nn m) G) (RLg b rl (SS m) (qq m) GL) := by
  refine Ct.of (M := mX12_run) (by decide) (Nat.le_of_ble_eq_true rfl) (fun g (hR : Cr l D B RX12 cX12_run 4 "run" { frames := 6, cells := 0, slots := 0, locals := 138 } (some .int) 0 0 _ g) => ?_)
  have hC := hR.cx
  have loop : ∀ (k i : Nat) (x3 : Option MV), m - i < k → i ≤ m → g 44 [some (vr (some (b + 0))), some (vi (nI z)), some (vi (nI i)), x3] [] (RI b r (nn i) G) (RLg b rl (SS i) (qq i) GL) N 0 0 := by
    intro k
    induction k with
    | zero => intro i x3 h1; omega
    | succ k ih =>
      intro i x3 hk1 hi
      refine G_iload_n 44 hC rfl dX12_run_44 ?_
      refine G_iload_n 45 hC rfl dX12_run_45 ?_
      refine G_icmp_ge 46 107 hC dX12_run_46 (by decide) (fun h46 => ?_) (fun h46 => ?_)
      · have ei : i = m := by
          rcases Nat.lt_or_ge i m with y | y
          · first
              | exact absurd ((nI_leI (by omega) (by omega)).mp h46) (by omega)
              | exact absurd h57 (Int32.not_le.mpr (hL i y))
          · omega
        subst ei
        refine G_aload_n 107 hC rfl dX12_run_107 ?_
        refine M_getR 108 hC hF fl_X12_68_11 rfl rfl dX12_run_108 ?_
        refine G_sipush 111 hC (nI 247) (by decide) dX12_run_111 ?_
        refine N_iald 114 hC hF rfl (by omega) dX12_run_114 ?_
        refine G_if_le 115 120 hC dX12_run_115 (by decide) (fun h115 => ?_) (fun h115 => ?_)
        · exact absurd h115 (Int32.not_le.mpr hleft)
        · refine G_iconst 118 hC (nI 0) (by decide) dX12_run_118 ?_
          refine R_i 119 hR (by first | rfl | exact narrow_bI _) dX12_run_119 (Nat.le_refl _) (Nat.le_refl _) ?_
          exact ⟨rfl, rfl, rfl, rfl⟩
      · refine G_aload_n 49 hC rfl dX12_run_49 ?_
        refine M_getR 50 hC hF fl_X12_68_11 rfl rfl dX12_run_50 ?_
        refine G_sipush 53 hC (nI 247) (by decide) dX12_run_53 ?_
        refine N_iald 56 hC hF rfl (by omega) dX12_run_56 ?_
        refine G_if_le 57 107 hC dX12_run_57 (by decide) (fun h57 => ?_) (fun h57 => ?_)
        · have ei : i = m := by
            rcases Nat.lt_or_ge i m with y | y
            · first
                | exact absurd ((nI_leI (by omega) (by omega)).mp h46) (by omega)
                | exact absurd h57 (Int32.not_le.mpr (hL i y))
            · omega
          subst ei
          refine G_aload_n 107 hC rfl dX12_run_107 ?_
          refine M_getR 108 hC hF fl_X12_68_11 rfl rfl dX12_run_108 ?_
          refine G_sipush 111 hC (nI 247) (by decide) dX12_run_111 ?_
          refine N_iald 114 hC hF rfl (by omega) dX12_run_114 ?_
          refine G_if_le 115 120 hC dX12_run_115 (by decide) (fun h115 => ?_) (fun h115 => ?_)
          · exact absurd h115 (Int32.not_le.mpr hleft)
          · refine G_iconst 118 hC (nI 0) (by decide) dX12_run_118 ?_
            refine R_i 119 hR (by first | rfl | exact narrow_bI _) dX12_run_119 (Nat.le_refl _) (Nat.le_refl _) ?_
            exact ⟨rfl, rfl, rfl, rfl⟩
        · have ai : i < m := by
            rcases Nat.lt_or_ge i m with y | y
            · exact y
            · have e : i = m := by omega
              subst e
              rcases hend with e | e
              · exact absurd ((nI_leI (by omega) (by omega)).mpr (by omega)) h46
              · exact absurd e h57
          refine G_aload_n 60 hC rfl dX12_run_60 ?_
          refine M_getR 61 hC hF fl_X12_68_11 rfl rfl dX12_run_61 ?_
          refine G_sipush 64 hC (nI 240) (by decide) dX12_run_64 ?_
          refine N_iald 67 hC hF rfl (by omega) dX12_run_67 ?_
          rw [h240 i (by omega)]
          refine G_istore_n 68 hC 3 rfl (by decide) (ls' := [_, _, _, _]) rfl dX12_run_68 ?_
          refine G_aload_n 69 hC rfl dX12_run_69 ?_
          refine G_iload_n 70 hC rfl dX12_run_70 ?_
          refine G_aload_n 71 hC rfl dX12_run_71 ?_
          refine N_getI 72 hC hF fl_X12_151_11 rfl dX12_run_72 ?_
          rw [hsc]
          refine G_icmp_ge 75 87 hC dX12_run_75 (by decide) (fun h75 => ?_) (fun h75 => ?_)
          · have a75 : sc ≤ c0 + i := (nI_leI (by omega) (by omega)).mp h75
            refine G_iload_n 87 hC rfl dX12_run_87 ?_
            refine G_aload_n 88 hC rfl dX12_run_88 ?_
            refine N_getI 89 hC hF fl_X12_151_11 rfl dX12_run_89 ?_
            rw [hsc]
            refine G_isubN 92 hC (by omega) dX12_run_92 ?_
            refine G_aload_n 93 hC rfl dX12_run_93 ?_
            refine N_getI 94 hC hF fl_X12_86_11 rfl dX12_run_94 ?_
            rw [hth]
            refine G_irem 97 hC (nI_ne0 (by omega) (by omega)) dX12_run_97 ?_
            first | (rw [pk_rem (by omega) (by omega) (by omega), hth2 i ai a75]) | skip
            refine G_callV0 98 hC (hT i ai) okX12_turns lk_X12_220 ((hF.sh (o := 0) rfl (by decide)).1) rfl rfl rfl rfl (Nat.le_of_ble_eq_true rfl) (by decide) (by decide) dX12_run_98 ?_
            first | refine G_iincN 101 hC (by decide) rfl (ls' := [_, _, _, _]) rfl dX12_run_101 ?_ | refine G_iinc 101 hC _ rfl (by decide) rfl (ls' := [_, _, _, _]) rfl dX12_run_101 ?_
            refine G_goto 104 44 hC dX12_run_104 (by decide) ?_
            exact ih (i + 1) _ (by omega) (by omega)
          · have a75 : c0 + i < sc := by
              rcases Nat.lt_or_ge (c0 + i) sc with y | y
              · exact y
              · exact absurd ((nI_leI (by omega) (by omega)).mpr y) h75
            refine G_aload_n 78 hC rfl dX12_run_78 ?_
            refine M_getR 79 hC hF fl_X12_65_11 rfl rfl dX12_run_79 ?_
            refine G_iload_n 82 hC rfl dX12_run_82 ?_
            refine N_ialdO 83 hC hF rfl (by decide) (by decide) rfl (by omega) dX12_run_83 ?_
            rw [hth1 i ai a75]
            refine G_goto 84 98 hC dX12_run_84 (by decide) ?_
            first | (rw [pk_rem (by omega) (by omega) (by omega), hth2 i ai a75]) | skip
            refine G_callV0 98 hC (hT i ai) okX12_turns lk_X12_220 ((hF.sh (o := 0) rfl (by decide)).1) rfl rfl rfl rfl (Nat.le_of_ble_eq_true rfl) (by decide) (by decide) dX12_run_98 ?_
            first | refine G_iincN 101 hC (by decide) rfl (ls' := [_, _, _, _]) rfl dX12_run_101 ?_ | refine G_iinc 101 hC _ rfl (by decide) rfl (ls' := [_, _, _, _]) rfl dX12_run_101 ?_
            refine G_goto 104 44 hC dX12_run_104 (by decide) ?_
            exact ih (i + 1) _ (by omega) (by omega)
  show g 0 [some (vr (some (b + 0))), some (vi (nI z)), none, none] [] _ _ N 0 0
  refine G_aload_n 0 hC rfl dX12_run_0 ?_
  refine G_iconst 1 hC (nI 0) (by decide) dX12_run_1 ?_
  refine N_thr 2 hC hF h0 (fp_X12_96_11 _) dX12_run_2 ?_
  refine G_iload_n 5 hC rfl dX12_run_5 ?_
  refine G_iconst 6 hC (nI 1) (by decide) dX12_run_6 ?_
  refine G_sipush 7 hC (nI 1000) (by decide) dX12_run_7 ?_
  refine G_callS1 10 hC (ref_in) okX12_in lk_X12_107 rfl rfl rfl (Nat.le_of_ble_eq_true rfl) (by decide) (by decide) dX12_run_10 ?_
  first | refine G_if_ne_b 13 18 hC dX12_run_13 (by decide) (fun h13 => ?_) (fun h13 => ?_) | refine G_if_ne 13 18 hC dX12_run_13 (by decide) (fun h13 => ?_) (fun h13 => ?_)
  · refine G_aload_n 18 hC rfl dX12_run_18 ?_
    refine M_getR 19 hC hF fl_X12_68_11 rfl rfl dX12_run_19 ?_
    refine G_sipush 22 hC (nI 246) (by decide) dX12_run_22 ?_
    refine N_iald 25 hC hF rfl (by omega) dX12_run_25 ?_
    refine G_iconst 26 hC (nI 1) (by decide) dX12_run_26 ?_
    refine G_icmp_le 27 33 hC dX12_run_27 (by decide) (fun h27 => ?_) (fun h27 => ?_)
    · refine G_aload_n 33 hC rfl dX12_run_33 ?_
      refine M_getR 34 hC hF fl_X12_68_11 rfl rfl dX12_run_34 ?_
      refine G_sipush 37 hC (nI 246) (by decide) dX12_run_37 ?_
      refine G_iconst 40 hC (nI 1) (by decide) dX12_run_40 ?_
      refine N_iast 41 hC hF rfl (by omega) dX12_run_41 ?_
      refine G_iconst 42 hC (nI 0) (by decide) dX12_run_42 ?_
      refine G_istore_n 43 hC 2 rfl (by decide) (ls' := [_, _, _, _]) rfl dX12_run_43 ?_
      have y := loop _ 0 none (Nat.lt_succ_self _) (Nat.zero_le _)
      rw [hn0, hq0, hS0] at y
      exact y
    · exact absurd hst h27
  · exact absurd hx h13
theorem n_run_over (hF : FixR b N) (h0 : r 0 0 = nI 0) {z m c0 sc nth : Nat} {hs : Nat → Nat} {nn : Nat → Nat → Int32} {qq : Nat → Nat → Int64} {SS : Nat → Int64} (hx : nI 1 ≤ nI z ∧ nI z ≤ nI 1000) (hz : z ≤ 1000) (hst : n 246 ≤ nI 1) (hmz : m ≤ z) (hn0 : nn 0 = up n 246 (nI 1)) (hq0 : qq 0 = q) (hS0 : SS 0 = S) (hsc : r 0 25 = nI sc) (hsc2 : sc ≤ 400) (hth : r 0 1 = nI nth) (hth0 : 1 ≤ nth) (hth6 : nth ≤ 6) (hc0 : c0 < 2 ^ 29)
    (hT : ∀ i, i < m → Cq l D B mX12_turns [vr (some (b + 0)), vi (nI (hs i))] (RI b r (nn i) G) (RLg b rl (SS i) (qq i) GL) N none (RI b r (nn (i + 1)) G) (RLg b rl (SS (i + 1)) (qq (i + 1)) GL)) (hth1 : ∀ i, i < m → c0 + i < sc → r 19 (c0 + i) = nI (hs i)) (hth2 : ∀ i, i < m → sc ≤ c0 + i → (c0 + i - sc) % nth = hs i) (h240 : ∀ i, i ≤ m → nn i 240 = nI (c0 + i)) (hL : ∀ i, i < m → 0 < nn i 247) (hend : m = z ∨ nn m 247 ≤ 0) (hleft : nn m 247 ≤ 0) (hMa : Cq l D B mX12_again [vr (some (b + 0))] (RI b r (nn m) G) (RLg b rl (SS m) (qq m) GL) N none (RI b r n1 G) L1) : Cq l D B mX12_run [vr (some (b + 0)), vi (nI z)] (RI b r n G) (RLg b rl S q GL) N (some (vi (if n1 245 = -9 then nI 2 else nI 1))) (RI b r (up n1 246 (nI 2)) G) L1 := by
  refine Ct.of (M := mX12_run) (by decide) (Nat.le_of_ble_eq_true rfl) (fun g (hR : Cr l D B RX12 cX12_run 4 "run" { frames := 6, cells := 0, slots := 0, locals := 138 } (some .int) 0 0 _ g) => ?_)
  have hC := hR.cx
  have loop : ∀ (k i : Nat) (x3 : Option MV), m - i < k → i ≤ m → g 44 [some (vr (some (b + 0))), some (vi (nI z)), some (vi (nI i)), x3] [] (RI b r (nn i) G) (RLg b rl (SS i) (qq i) GL) N 0 0 := by
    intro k
    induction k with
    | zero => intro i x3 h1; omega
    | succ k ih =>
      intro i x3 hk1 hi
      refine G_iload_n 44 hC rfl dX12_run_44 ?_
      refine G_iload_n 45 hC rfl dX12_run_45 ?_
      refine G_icmp_ge 46 107 hC dX12_run_46 (by decide) (fun h46 => ?_) (fun h46 => ?_)
      · have ei : i = m := by
          rcases Nat.lt_or_ge i m with y | y
          · first
              | exact absurd ((nI_leI (by omega) (by omega)).mp h46) (by omega)
              | exact absurd h57 (Int32.not_le.mpr (hL i y))
          · omega
        subst ei
        refine G_aload_n 107 hC rfl dX12_run_107 ?_
        refine M_getR 108 hC hF fl_X12_68_11 rfl rfl dX12_run_108 ?_
        refine G_sipush 111 hC (nI 247) (by decide) dX12_run_111 ?_
        refine N_iald 114 hC hF rfl (by omega) dX12_run_114 ?_
        refine G_if_le 115 120 hC dX12_run_115 (by decide) (fun h115 => ?_) (fun h115 => ?_)
        · refine G_aload_n 120 hC rfl dX12_run_120 ?_
          refine G_callV0 121 hC (hMa) okX12_again lk_X12_223 ((hF.sh (o := 0) rfl (by decide)).1) rfl rfl rfl rfl (Nat.le_of_ble_eq_true rfl) (by decide) (by decide) dX12_run_121 ?_
          refine G_aload_n 124 hC rfl dX12_run_124 ?_
          refine M_getR 125 hC hF fl_X12_68_11 rfl rfl dX12_run_125 ?_
          refine G_sipush 128 hC (nI 246) (by decide) dX12_run_128 ?_
          refine G_iconst 131 hC (nI 2) (by decide) dX12_run_131 ?_
          refine N_iast 132 hC hF rfl (by omega) dX12_run_132 ?_
          refine G_aload_n 133 hC rfl dX12_run_133 ?_
          refine M_getR 134 hC hF fl_X12_68_11 rfl rfl dX12_run_134 ?_
          refine G_sipush 137 hC (nI 245) (by decide) dX12_run_137 ?_
          refine N_iald 140 hC hF rfl (by omega) dX12_run_140 ?_
          refine G_bipush 141 hC (-9) (by decide) dX12_run_141 ?_
          refine G_icmp_eq 143 150 hC dX12_run_143 (by decide) (fun h143 => ?_) (fun h143 => ?_)
          · refine G_iconst 150 hC (nI 2) (by decide) dX12_run_150 ?_
            refine R_i 151 hR (by first | rfl | exact narrow_bI _) dX12_run_151 (Nat.le_refl _) (Nat.le_refl _) ?_
            refine ⟨?_, rfl, rfl, rfl⟩
            first | (rw [if_pos (by rw [up_ne (by decide)] at h143; exact h143)]; done) | (rw [if_neg (by rw [up_ne (by decide)] at h143; exact h143)]; done)
          · refine G_iconst 146 hC (nI 1) (by decide) dX12_run_146 ?_
            refine G_goto 147 151 hC dX12_run_147 (by decide) ?_
            refine R_i 151 hR (by first | rfl | exact narrow_bI _) dX12_run_151 (Nat.le_refl _) (Nat.le_refl _) ?_
            refine ⟨?_, rfl, rfl, rfl⟩
            first | (rw [if_pos (by rw [up_ne (by decide)] at h143; exact h143)]; done) | (rw [if_neg (by rw [up_ne (by decide)] at h143; exact h143)]; done)
        · exact absurd hleft h115
      · refine G_aload_n 49 hC rfl dX12_run_49 ?_
        refine M_getR 50 hC hF fl_X12_68_11 rfl rfl dX12_run_50 ?_
        refine G_sipush 53 hC (nI 247) (by decide) dX12_run_53 ?_
        refine N_iald 56 hC hF rfl (by omega) dX12_run_56 ?_
        refine G_if_le 57 107 hC dX12_run_57 (by decide) (fun h57 => ?_) (fun h57 => ?_)
        · have ei : i = m := by
            rcases Nat.lt_or_ge i m with y | y
            · first
                | exact absurd ((nI_leI (by omega) (by omega)).mp h46) (by omega)
                | exact absurd h57 (Int32.not_le.mpr (hL i y))
            · omega
          subst ei
          refine G_aload_n 107 hC rfl dX12_run_107 ?_
          refine M_getR 108 hC hF fl_X12_68_11 rfl rfl dX12_run_108 ?_
          refine G_sipush 111 hC (nI 247) (by decide) dX12_run_111 ?_
          refine N_iald 114 hC hF rfl (by omega) dX12_run_114 ?_
          refine G_if_le 115 120 hC dX12_run_115 (by decide) (fun h115 => ?_) (fun h115 => ?_)
          · refine G_aload_n 120 hC rfl dX12_run_120 ?_
            refine G_callV0 121 hC (hMa) okX12_again lk_X12_223 ((hF.sh (o := 0) rfl (by decide)).1) rfl rfl rfl rfl (Nat.le_of_ble_eq_true rfl) (by decide) (by decide) dX12_run_121 ?_
            refine G_aload_n 124 hC rfl dX12_run_124 ?_
            refine M_getR 125 hC hF fl_X12_68_11 rfl rfl dX12_run_125 ?_
            refine G_sipush 128 hC (nI 246) (by decide) dX12_run_128 ?_
            refine G_iconst 131 hC (nI 2) (by decide) dX12_run_131 ?_
            refine N_iast 132 hC hF rfl (by omega) dX12_run_132 ?_
            refine G_aload_n 133 hC rfl dX12_run_133 ?_
            refine M_getR 134 hC hF fl_X12_68_11 rfl rfl dX12_run_134 ?_
            refine G_sipush 137 hC (nI 245) (by decide) dX12_run_137 ?_
            refine N_iald 140 hC hF rfl (by omega) dX12_run_140 ?_
            refine G_bipush 141 hC (-9) (by decide) dX12_run_141 ?_
            refine G_icmp_eq 143 150 hC dX12_run_143 (by decide) (fun h143 => ?_) (fun h143 => ?_)
            · refine G_iconst 150 hC (nI 2) (by decide) dX12_run_150 ?_
              refine R_i 151 hR (by first | rfl | exact narrow_bI _) dX12_run_151 (Nat.le_refl _) (Nat.le_refl _) ?_
              refine ⟨?_, rfl, rfl, rfl⟩
              first | (rw [if_pos (by rw [up_ne (by decide)] at h143; exact h143)]; done) | (rw [if_neg (by rw [up_ne (by decide)] at h143; exact h143)]; done)
            · refine G_iconst 146 hC (nI 1) (by decide) dX12_run_146 ?_
              refine G_goto 147 151 hC dX12_run_147 (by decide) ?_
              refine R_i 151 hR (by first | rfl | exact narrow_bI _) dX12_run_151 (Nat.le_refl _) (Nat.le_refl _) ?_
              refine ⟨?_, rfl, rfl, rfl⟩
              first | (rw [if_pos (by rw [up_ne (by decide)] at h143; exact h143)]; done) | (rw [if_neg (by rw [up_ne (by decide)] at h143; exact h143)]; done)
          · exact absurd hleft h115
        · have ai : i < m := by
            rcases Nat.lt_or_ge i m with y | y
            · exact y
            · have e : i = m := by omega
              subst e
              rcases hend with e | e
              · exact absurd ((nI_leI (by omega) (by omega)).mpr (by omega)) h46
              · exact absurd e h57
          refine G_aload_n 60 hC rfl dX12_run_60 ?_
          refine M_getR 61 hC hF fl_X12_68_11 rfl rfl dX12_run_61 ?_
          refine G_sipush 64 hC (nI 240) (by decide) dX12_run_64 ?_
          refine N_iald 67 hC hF rfl (by omega) dX12_run_67 ?_
          rw [h240 i (by omega)]
          refine G_istore_n 68 hC 3 rfl (by decide) (ls' := [_, _, _, _]) rfl dX12_run_68 ?_
          refine G_aload_n 69 hC rfl dX12_run_69 ?_
          refine G_iload_n 70 hC rfl dX12_run_70 ?_
          refine G_aload_n 71 hC rfl dX12_run_71 ?_
          refine N_getI 72 hC hF fl_X12_151_11 rfl dX12_run_72 ?_
          rw [hsc]
          refine G_icmp_ge 75 87 hC dX12_run_75 (by decide) (fun h75 => ?_) (fun h75 => ?_)
          · have a75 : sc ≤ c0 + i := (nI_leI (by omega) (by omega)).mp h75
            refine G_iload_n 87 hC rfl dX12_run_87 ?_
            refine G_aload_n 88 hC rfl dX12_run_88 ?_
            refine N_getI 89 hC hF fl_X12_151_11 rfl dX12_run_89 ?_
            rw [hsc]
            refine G_isubN 92 hC (by omega) dX12_run_92 ?_
            refine G_aload_n 93 hC rfl dX12_run_93 ?_
            refine N_getI 94 hC hF fl_X12_86_11 rfl dX12_run_94 ?_
            rw [hth]
            refine G_irem 97 hC (nI_ne0 (by omega) (by omega)) dX12_run_97 ?_
            first | (rw [pk_rem (by omega) (by omega) (by omega), hth2 i ai a75]) | skip
            refine G_callV0 98 hC (hT i ai) okX12_turns lk_X12_220 ((hF.sh (o := 0) rfl (by decide)).1) rfl rfl rfl rfl (Nat.le_of_ble_eq_true rfl) (by decide) (by decide) dX12_run_98 ?_
            first | refine G_iincN 101 hC (by decide) rfl (ls' := [_, _, _, _]) rfl dX12_run_101 ?_ | refine G_iinc 101 hC _ rfl (by decide) rfl (ls' := [_, _, _, _]) rfl dX12_run_101 ?_
            refine G_goto 104 44 hC dX12_run_104 (by decide) ?_
            exact ih (i + 1) _ (by omega) (by omega)
          · have a75 : c0 + i < sc := by
              rcases Nat.lt_or_ge (c0 + i) sc with y | y
              · exact y
              · exact absurd ((nI_leI (by omega) (by omega)).mpr y) h75
            refine G_aload_n 78 hC rfl dX12_run_78 ?_
            refine M_getR 79 hC hF fl_X12_65_11 rfl rfl dX12_run_79 ?_
            refine G_iload_n 82 hC rfl dX12_run_82 ?_
            refine N_ialdO 83 hC hF rfl (by decide) (by decide) rfl (by omega) dX12_run_83 ?_
            rw [hth1 i ai a75]
            refine G_goto 84 98 hC dX12_run_84 (by decide) ?_
            first | (rw [pk_rem (by omega) (by omega) (by omega), hth2 i ai a75]) | skip
            refine G_callV0 98 hC (hT i ai) okX12_turns lk_X12_220 ((hF.sh (o := 0) rfl (by decide)).1) rfl rfl rfl rfl (Nat.le_of_ble_eq_true rfl) (by decide) (by decide) dX12_run_98 ?_
            first | refine G_iincN 101 hC (by decide) rfl (ls' := [_, _, _, _]) rfl dX12_run_101 ?_ | refine G_iinc 101 hC _ rfl (by decide) rfl (ls' := [_, _, _, _]) rfl dX12_run_101 ?_
            refine G_goto 104 44 hC dX12_run_104 (by decide) ?_
            exact ih (i + 1) _ (by omega) (by omega)
  show g 0 [some (vr (some (b + 0))), some (vi (nI z)), none, none] [] _ _ N 0 0
  refine G_aload_n 0 hC rfl dX12_run_0 ?_
  refine G_iconst 1 hC (nI 0) (by decide) dX12_run_1 ?_
  refine N_thr 2 hC hF h0 (fp_X12_96_11 _) dX12_run_2 ?_
  refine G_iload_n 5 hC rfl dX12_run_5 ?_
  refine G_iconst 6 hC (nI 1) (by decide) dX12_run_6 ?_
  refine G_sipush 7 hC (nI 1000) (by decide) dX12_run_7 ?_
  refine G_callS1 10 hC (ref_in) okX12_in lk_X12_107 rfl rfl rfl (Nat.le_of_ble_eq_true rfl) (by decide) (by decide) dX12_run_10 ?_
  first | refine G_if_ne_b 13 18 hC dX12_run_13 (by decide) (fun h13 => ?_) (fun h13 => ?_) | refine G_if_ne 13 18 hC dX12_run_13 (by decide) (fun h13 => ?_) (fun h13 => ?_)
  · refine G_aload_n 18 hC rfl dX12_run_18 ?_
    refine M_getR 19 hC hF fl_X12_68_11 rfl rfl dX12_run_19 ?_
    refine G_sipush 22 hC (nI 246) (by decide) dX12_run_22 ?_
    refine N_iald 25 hC hF rfl (by omega) dX12_run_25 ?_
    refine G_iconst 26 hC (nI 1) (by decide) dX12_run_26 ?_
    refine G_icmp_le 27 33 hC dX12_run_27 (by decide) (fun h27 => ?_) (fun h27 => ?_)
    · refine G_aload_n 33 hC rfl dX12_run_33 ?_
      refine M_getR 34 hC hF fl_X12_68_11 rfl rfl dX12_run_34 ?_
      refine G_sipush 37 hC (nI 246) (by decide) dX12_run_37 ?_
      refine G_iconst 40 hC (nI 1) (by decide) dX12_run_40 ?_
      refine N_iast 41 hC hF rfl (by omega) dX12_run_41 ?_
      refine G_iconst 42 hC (nI 0) (by decide) dX12_run_42 ?_
      refine G_istore_n 43 hC 2 rfl (by decide) (ls' := [_, _, _, _]) rfl dX12_run_43 ?_
      have y := loop _ 0 none (Nat.lt_succ_self _) (Nat.zero_le _)
      rw [hn0, hq0, hS0] at y
      exact y
    · exact absurd hst h27
  · exact absurd hx h13
theorem n_int_bad (hF : FixR b N) (h0 : r 0 0 = nI 0) {nt : Nat} (hnt : r 0 10 = nI nt) (hnt2 : nt ≤ 20) {x : Int32} (hx : ¬ inR x nt) : Cq l D B mX12_interrupt [vr (some (b + 0)), vi x] (RI b r n G) L N (some (vi (-1))) (RI b r n G) L := by
  refine Ct.of (M := mX12_interrupt) (by decide) (Nat.le_of_ble_eq_true rfl) (fun g (hR : Cr l D B RX12 cX12_interrupt 2 "interrupt" { frames := 3, cells := 0, slots := 0, locals := 67 } (some .int) 0 0 _ g) => ?_)
  have hC := hR.cx
  show g 0 [some (vr (some (b + 0))), some (vi x)] [] _ _ N 0 0
  refine G_aload_n 0 hC rfl dX12_interrupt_0 ?_
  refine G_iconst 1 hC (nI 0) (by decide) dX12_interrupt_1 ?_
  refine N_thr 2 hC hF h0 (fp_X12_96_11 _) dX12_interrupt_2 ?_
  refine G_aload_n 5 hC rfl dX12_interrupt_5 ?_
  refine G_iload_n 6 hC rfl dX12_interrupt_6 ?_
  refine G_callV1 7 hC (n_isTask hF hnt hnt2) okX12_isTask lk_X12_226 ((hF.sh (o := 0) rfl (by decide)).1) rfl rfl rfl rfl (Nat.le_of_ble_eq_true rfl) (by decide) (by decide) dX12_interrupt_7 ?_
  first | refine G_if_ne_b 10 15 hC dX12_interrupt_10 (by decide) (fun h10 => ?_) (fun h10 => ?_) | refine G_if_ne 10 15 hC dX12_interrupt_10 (by decide) (fun h10 => ?_) (fun h10 => ?_)
  · exact absurd h10 hx
  · refine G_iconst 13 hC (-1) (by decide) dX12_interrupt_13 ?_
    refine R_i 14 hR (by first | rfl | exact narrow_bI _) dX12_interrupt_14 (Nat.le_refl _) (Nat.le_refl _) ?_
    exact ⟨rfl, rfl, rfl, rfl⟩
theorem n_int_state (hF : FixR b N) (h0 : r 0 0 = nI 0) {nt : Nat} (hnt : r 0 10 = nI nt) (hnt2 : nt ≤ 20) {x : Int32} (hx : inR x nt) (hst : ¬ n 246 = 1) : Cq l D B mX12_interrupt [vr (some (b + 0)), vi x] (RI b r n G) L N (some (vi (-2))) (RI b r n G) L := by
  refine Ct.of (M := mX12_interrupt) (by decide) (Nat.le_of_ble_eq_true rfl) (fun g (hR : Cr l D B RX12 cX12_interrupt 2 "interrupt" { frames := 3, cells := 0, slots := 0, locals := 67 } (some .int) 0 0 _ g) => ?_)
  have hC := hR.cx
  show g 0 [some (vr (some (b + 0))), some (vi x)] [] _ _ N 0 0
  refine G_aload_n 0 hC rfl dX12_interrupt_0 ?_
  refine G_iconst 1 hC (nI 0) (by decide) dX12_interrupt_1 ?_
  refine N_thr 2 hC hF h0 (fp_X12_96_11 _) dX12_interrupt_2 ?_
  refine G_aload_n 5 hC rfl dX12_interrupt_5 ?_
  refine G_iload_n 6 hC rfl dX12_interrupt_6 ?_
  refine G_callV1 7 hC (n_isTask hF hnt hnt2) okX12_isTask lk_X12_226 ((hF.sh (o := 0) rfl (by decide)).1) rfl rfl rfl rfl (Nat.le_of_ble_eq_true rfl) (by decide) (by decide) dX12_interrupt_7 ?_
  first | refine G_if_ne_b 10 15 hC dX12_interrupt_10 (by decide) (fun h10 => ?_) (fun h10 => ?_) | refine G_if_ne 10 15 hC dX12_interrupt_10 (by decide) (fun h10 => ?_) (fun h10 => ?_)
  · refine G_aload_n 15 hC rfl dX12_interrupt_15 ?_
    refine G_callV1 16 hC (n_isOpen hF) okX12_isOpen lk_X12_114 ((hF.sh (o := 0) rfl (by decide)).1) rfl rfl rfl rfl (Nat.le_of_ble_eq_true rfl) (by decide) (by decide) dX12_interrupt_16 ?_
    first | refine G_if_ne_b 19 25 hC dX12_interrupt_19 (by decide) (fun h19 => ?_) (fun h19 => ?_) | refine G_if_ne 19 25 hC dX12_interrupt_19 (by decide) (fun h19 => ?_) (fun h19 => ?_)
    · exact absurd h19 hst
    · refine G_bipush 22 hC (-2) (by decide) dX12_interrupt_22 ?_
      refine R_i 24 hR (by first | rfl | exact narrow_bI _) dX12_interrupt_24 (Nat.le_refl _) (Nat.le_refl _) ?_
      exact ⟨rfl, rfl, rfl, rfl⟩
  · exact absurd hx h10
theorem n_int_wait (hF : FixR b N) (h0 : r 0 0 = nI 0) {nt t : Nat} (hnt : r 0 10 = nI nt) (hnt2 : nt ≤ 20) (ht : t < nt) (hst : n 246 = 1) (hs : n (12 * t + 0) = 0) (hM : Cq l D B mX12_looks [vr (some (b + 0))] (RI b r (F_falls n t (nI 6)) G) L N none (RI b r n1 G) L) : Cq l D B mX12_interrupt [vr (some (b + 0)), vi (nI t)] (RI b r n G) L N (some (vi (nI 1))) (RI b r n1 G) L := by
  refine Ct.of (M := mX12_interrupt) (by decide) (Nat.le_of_ble_eq_true rfl) (fun g (hR : Cr l D B RX12 cX12_interrupt 2 "interrupt" { frames := 3, cells := 0, slots := 0, locals := 67 } (some .int) 0 0 _ g) => ?_)
  have hC := hR.cx
  show g 0 [some (vr (some (b + 0))), some (vi (nI t))] [] _ _ N 0 0
  refine G_aload_n 0 hC rfl dX12_interrupt_0 ?_
  refine G_iconst 1 hC (nI 0) (by decide) dX12_interrupt_1 ?_
  refine N_thr 2 hC hF h0 (fp_X12_96_11 _) dX12_interrupt_2 ?_
  refine G_aload_n 5 hC rfl dX12_interrupt_5 ?_
  refine G_iload_n 6 hC rfl dX12_interrupt_6 ?_
  refine G_callV1 7 hC (n_isTask hF hnt hnt2) okX12_isTask lk_X12_226 ((hF.sh (o := 0) rfl (by decide)).1) rfl rfl rfl rfl (Nat.le_of_ble_eq_true rfl) (by decide) (by decide) dX12_interrupt_7 ?_
  first | refine G_if_ne_b 10 15 hC dX12_interrupt_10 (by decide) (fun h10 => ?_) (fun h10 => ?_) | refine G_if_ne 10 15 hC dX12_interrupt_10 (by decide) (fun h10 => ?_) (fun h10 => ?_)
  · refine G_aload_n 15 hC rfl dX12_interrupt_15 ?_
    refine G_callV1 16 hC (n_isOpen hF) okX12_isOpen lk_X12_114 ((hF.sh (o := 0) rfl (by decide)).1) rfl rfl rfl rfl (Nat.le_of_ble_eq_true rfl) (by decide) (by decide) dX12_interrupt_16 ?_
    first | refine G_if_ne_b 19 25 hC dX12_interrupt_19 (by decide) (fun h19 => ?_) (fun h19 => ?_) | refine G_if_ne 19 25 hC dX12_interrupt_19 (by decide) (fun h19 => ?_) (fun h19 => ?_)
    · refine G_aload_n 25 hC rfl dX12_interrupt_25 ?_
      refine G_iload_n 26 hC rfl dX12_interrupt_26 ?_
      refine G_iconst 27 hC (nI 0) (by decide) dX12_interrupt_27 ?_
      refine G_callV1 28 hC (n_at hF (by omega) (by omega)) okX12_at lk_X12_173 ((hF.sh (o := 0) rfl (by decide)).1) rfl rfl rfl rfl (Nat.le_of_ble_eq_true rfl) (by decide) (by decide) dX12_interrupt_28 ?_
      first | refine G_if_ne_b 31 47 hC dX12_interrupt_31 (by decide) (fun h31 => ?_) (fun h31 => ?_) | refine G_if_ne 31 47 hC dX12_interrupt_31 (by decide) (fun h31 => ?_) (fun h31 => ?_)
      · exact absurd hs h31
      · refine G_aload_n 34 hC rfl dX12_interrupt_34 ?_
        refine G_iload_n 35 hC rfl dX12_interrupt_35 ?_
        refine G_bipush 36 hC (nI 6) (by decide) dX12_interrupt_36 ?_
        refine G_callV0 38 hC (n_falls hF (by omega)) okX12_falls lk_X12_202 ((hF.sh (o := 0) rfl (by decide)).1) rfl rfl rfl rfl (Nat.le_of_ble_eq_true rfl) (by decide) (by decide) dX12_interrupt_38 ?_
        refine G_aload_n 41 hC rfl dX12_interrupt_41 ?_
        refine G_callV0 42 hC (hM) okX12_looks lk_X12_214 ((hF.sh (o := 0) rfl (by decide)).1) rfl rfl rfl rfl (Nat.le_of_ble_eq_true rfl) (by decide) (by decide) dX12_interrupt_42 ?_
        refine G_iconst 45 hC (nI 1) (by decide) dX12_interrupt_45 ?_
        refine R_i 46 hR (by first | rfl | exact narrow_bI _) dX12_interrupt_46 (Nat.le_refl _) (Nat.le_refl _) ?_
        exact ⟨rfl, rfl, rfl, rfl⟩
    · exact absurd hst h19
  · exact absurd (inR_nI ht (by omega)) h10
theorem n_int_go (hF : FixR b N) (h0 : r 0 0 = nI 0) {nt t : Nat} (hnt : r 0 10 = nI nt) (hnt2 : nt ≤ 20) (ht : t < nt) (hst : n 246 = 1) (hs : n (12 * t + 0) = nI 1) : Cq l D B mX12_interrupt [vr (some (b + 0)), vi (nI t)] (RI b r n G) L N (some (vi (nI 1))) (RI b r (up n (12 * t + 11) (nI 1)) G) L := by
  refine Ct.of (M := mX12_interrupt) (by decide) (Nat.le_of_ble_eq_true rfl) (fun g (hR : Cr l D B RX12 cX12_interrupt 2 "interrupt" { frames := 3, cells := 0, slots := 0, locals := 67 } (some .int) 0 0 _ g) => ?_)
  have hC := hR.cx
  show g 0 [some (vr (some (b + 0))), some (vi (nI t))] [] _ _ N 0 0
  refine G_aload_n 0 hC rfl dX12_interrupt_0 ?_
  refine G_iconst 1 hC (nI 0) (by decide) dX12_interrupt_1 ?_
  refine N_thr 2 hC hF h0 (fp_X12_96_11 _) dX12_interrupt_2 ?_
  refine G_aload_n 5 hC rfl dX12_interrupt_5 ?_
  refine G_iload_n 6 hC rfl dX12_interrupt_6 ?_
  refine G_callV1 7 hC (n_isTask hF hnt hnt2) okX12_isTask lk_X12_226 ((hF.sh (o := 0) rfl (by decide)).1) rfl rfl rfl rfl (Nat.le_of_ble_eq_true rfl) (by decide) (by decide) dX12_interrupt_7 ?_
  first | refine G_if_ne_b 10 15 hC dX12_interrupt_10 (by decide) (fun h10 => ?_) (fun h10 => ?_) | refine G_if_ne 10 15 hC dX12_interrupt_10 (by decide) (fun h10 => ?_) (fun h10 => ?_)
  · refine G_aload_n 15 hC rfl dX12_interrupt_15 ?_
    refine G_callV1 16 hC (n_isOpen hF) okX12_isOpen lk_X12_114 ((hF.sh (o := 0) rfl (by decide)).1) rfl rfl rfl rfl (Nat.le_of_ble_eq_true rfl) (by decide) (by decide) dX12_interrupt_16 ?_
    first | refine G_if_ne_b 19 25 hC dX12_interrupt_19 (by decide) (fun h19 => ?_) (fun h19 => ?_) | refine G_if_ne 19 25 hC dX12_interrupt_19 (by decide) (fun h19 => ?_) (fun h19 => ?_)
    · refine G_aload_n 25 hC rfl dX12_interrupt_25 ?_
      refine G_iload_n 26 hC rfl dX12_interrupt_26 ?_
      refine G_iconst 27 hC (nI 0) (by decide) dX12_interrupt_27 ?_
      refine G_callV1 28 hC (n_at hF (by omega) (by omega)) okX12_at lk_X12_173 ((hF.sh (o := 0) rfl (by decide)).1) rfl rfl rfl rfl (Nat.le_of_ble_eq_true rfl) (by decide) (by decide) dX12_interrupt_28 ?_
      first | refine G_if_ne_b 31 47 hC dX12_interrupt_31 (by decide) (fun h31 => ?_) (fun h31 => ?_) | refine G_if_ne 31 47 hC dX12_interrupt_31 (by decide) (fun h31 => ?_) (fun h31 => ?_)
      · refine G_aload_n 47 hC rfl dX12_interrupt_47 ?_
        refine G_iload_n 48 hC rfl dX12_interrupt_48 ?_
        refine G_iconst 49 hC (nI 0) (by decide) dX12_interrupt_49 ?_
        refine G_callV1 50 hC (n_at hF (by omega) (by omega)) okX12_at lk_X12_173 ((hF.sh (o := 0) rfl (by decide)).1) rfl rfl rfl rfl (Nat.le_of_ble_eq_true rfl) (by decide) (by decide) dX12_interrupt_50 ?_
        refine G_iconst 53 hC (nI 1) (by decide) dX12_interrupt_53 ?_
        refine G_icmp_ne 54 67 hC dX12_interrupt_54 (by decide) (fun h54 => ?_) (fun h54 => ?_)
        · exact absurd hs h54
        · refine G_aload_n 57 hC rfl dX12_interrupt_57 ?_
          refine G_iload_n 58 hC rfl dX12_interrupt_58 ?_
          refine G_bipush 59 hC (nI 11) (by decide) dX12_interrupt_59 ?_
          refine G_iconst 61 hC (nI 1) (by decide) dX12_interrupt_61 ?_
          refine G_callV0 62 hC (n_set hF (by omega) (by omega)) okX12_set lk_X12_154 ((hF.sh (o := 0) rfl (by decide)).1) rfl rfl rfl rfl (Nat.le_of_ble_eq_true rfl) (by decide) (by decide) dX12_interrupt_62 ?_
          refine G_iconst 65 hC (nI 1) (by decide) dX12_interrupt_65 ?_
          refine R_i 66 hR (by first | rfl | exact narrow_bI _) dX12_interrupt_66 (Nat.le_refl _) (Nat.le_refl _) ?_
          exact ⟨rfl, rfl, rfl, rfl⟩
      · exact absurd (hs.symm.trans h31) (by decide)
    · exact absurd hst h19
  · exact absurd (inR_nI ht (by omega)) h10
theorem n_int_end (hF : FixR b N) (h0 : r 0 0 = nI 0) {nt t : Nat} (hnt : r 0 10 = nI nt) (hnt2 : nt ≤ 20) (ht : t < nt) (hst : n 246 = 1) (hs : ¬ n (12 * t + 0) = 0 ∧ ¬ n (12 * t + 0) = nI 1) : Cq l D B mX12_interrupt [vr (some (b + 0)), vi (nI t)] (RI b r n G) L N (some (vi (nI 0))) (RI b r n G) L := by
  refine Ct.of (M := mX12_interrupt) (by decide) (Nat.le_of_ble_eq_true rfl) (fun g (hR : Cr l D B RX12 cX12_interrupt 2 "interrupt" { frames := 3, cells := 0, slots := 0, locals := 67 } (some .int) 0 0 _ g) => ?_)
  have hC := hR.cx
  show g 0 [some (vr (some (b + 0))), some (vi (nI t))] [] _ _ N 0 0
  refine G_aload_n 0 hC rfl dX12_interrupt_0 ?_
  refine G_iconst 1 hC (nI 0) (by decide) dX12_interrupt_1 ?_
  refine N_thr 2 hC hF h0 (fp_X12_96_11 _) dX12_interrupt_2 ?_
  refine G_aload_n 5 hC rfl dX12_interrupt_5 ?_
  refine G_iload_n 6 hC rfl dX12_interrupt_6 ?_
  refine G_callV1 7 hC (n_isTask hF hnt hnt2) okX12_isTask lk_X12_226 ((hF.sh (o := 0) rfl (by decide)).1) rfl rfl rfl rfl (Nat.le_of_ble_eq_true rfl) (by decide) (by decide) dX12_interrupt_7 ?_
  first | refine G_if_ne_b 10 15 hC dX12_interrupt_10 (by decide) (fun h10 => ?_) (fun h10 => ?_) | refine G_if_ne 10 15 hC dX12_interrupt_10 (by decide) (fun h10 => ?_) (fun h10 => ?_)
  · refine G_aload_n 15 hC rfl dX12_interrupt_15 ?_
    refine G_callV1 16 hC (n_isOpen hF) okX12_isOpen lk_X12_114 ((hF.sh (o := 0) rfl (by decide)).1) rfl rfl rfl rfl (Nat.le_of_ble_eq_true rfl) (by decide) (by decide) dX12_interrupt_16 ?_
    first | refine G_if_ne_b 19 25 hC dX12_interrupt_19 (by decide) (fun h19 => ?_) (fun h19 => ?_) | refine G_if_ne 19 25 hC dX12_interrupt_19 (by decide) (fun h19 => ?_) (fun h19 => ?_)
    · refine G_aload_n 25 hC rfl dX12_interrupt_25 ?_
      refine G_iload_n 26 hC rfl dX12_interrupt_26 ?_
      refine G_iconst 27 hC (nI 0) (by decide) dX12_interrupt_27 ?_
      refine G_callV1 28 hC (n_at hF (by omega) (by omega)) okX12_at lk_X12_173 ((hF.sh (o := 0) rfl (by decide)).1) rfl rfl rfl rfl (Nat.le_of_ble_eq_true rfl) (by decide) (by decide) dX12_interrupt_28 ?_
      first | refine G_if_ne_b 31 47 hC dX12_interrupt_31 (by decide) (fun h31 => ?_) (fun h31 => ?_) | refine G_if_ne 31 47 hC dX12_interrupt_31 (by decide) (fun h31 => ?_) (fun h31 => ?_)
      · refine G_aload_n 47 hC rfl dX12_interrupt_47 ?_
        refine G_iload_n 48 hC rfl dX12_interrupt_48 ?_
        refine G_iconst 49 hC (nI 0) (by decide) dX12_interrupt_49 ?_
        refine G_callV1 50 hC (n_at hF (by omega) (by omega)) okX12_at lk_X12_173 ((hF.sh (o := 0) rfl (by decide)).1) rfl rfl rfl rfl (Nat.le_of_ble_eq_true rfl) (by decide) (by decide) dX12_interrupt_50 ?_
        refine G_iconst 53 hC (nI 1) (by decide) dX12_interrupt_53 ?_
        refine G_icmp_ne 54 67 hC dX12_interrupt_54 (by decide) (fun h54 => ?_) (fun h54 => ?_)
        · refine G_iconst 67 hC (nI 0) (by decide) dX12_interrupt_67 ?_
          refine R_i 68 hR (by first | rfl | exact narrow_bI _) dX12_interrupt_68 (Nat.le_refl _) (Nat.le_refl _) ?_
          exact ⟨rfl, rfl, rfl, rfl⟩
        · exact absurd h54 hs.2
      · exact absurd h31 hs.1
    · exact absurd hst h19
  · exact absurd (inR_nI ht (by omega)) h10
end M13

/-! ===== the reference's tasks ===== -/
/-- a task more: its sort, need and budget -/
def F_cm (r : MI) (nt : Nat) (kd nd bd : Int32) : MI := upd2 (upd2 (upd2 (upd2 r 6 nt kd) 10 nt nd) 11 nt bd) 0 10 (nI (nt + 1))
def F_cmN (n : Nat → Int32) : Nat → Int32 := up (up n 247 (n 247 + nI 1)) 248 (n 248 + nI 1)
/-- a need and a budget as told -/
def NbOk (r : MI) (nd bd : Int32) : Prop := (nI 0 ≤ nd ∧ nd ≤ r 0 2) ∧ nI 1 ≤ bd ∧ bd ≤ nI 1000
section M17
variable {l : Launch} {D : va_G} {B b : Nat} {N : NT} {r G : MI} {rl GL : ML} {n n1 n2 n3 : Nat → Int32} {q q1 q2 : Nat → Int64} {S S1 S2 : Int64} {L : ML}
theorem n_isGrid (hF : FixR b N) {x : Int32} {ng : Nat} (h : r 0 3 = nI ng) (hn : ng ≤ 6) : Cq l D B mX12_isGrid [vr (some (b + 0)), vi x] (RI b r n G) L N (some (vi (bI (inR x ng)))) (RI b r n G) L := ref_isGrid (r := up r 20 n) hF h hn
theorem n_mayNeed (hF : FixR b N) {x y : Int32} : Cq l D B mX12_mayNeed [vr (some (b + 0)), vi x, vi y] (RI b r n G) L N (some (vi (bI ((nI 0 ≤ x ∧ x ≤ r 0 2) ∧ nI 1 ≤ y ∧ y ≤ nI 1000)))) (RI b r n G) L := ref_mayNeed (r := up r 20 n) hF
theorem n_comes (hF : FixR b N) {nt : Nat} {kd nd bd : Int32} (hnt : r 0 10 = nI nt) (hnt2 : nt < 20) : Cq l D B mX12_comes [vr (some (b + 0)), vi kd, vi nd, vi bd] (RI b r n G) L N (some (vi (nI nt))) (RI b (F_cm r nt kd nd bd) (F_cmN n) G) L := by
  refine Ct.of (M := mX12_comes) (by decide) (Nat.le_of_ble_eq_true rfl) (fun g (hR : Cr l D B RX12 cX12_comes 4 "comes" { frames := 0, cells := 0, slots := 0, locals := 0 } (some .int) 0 0 _ g) => ?_)
  have hC := hR.cx
  show g 0 [some (vr (some (b + 0))), some (vi kd), some (vi nd), some (vi bd)] [] _ _ N 0 0
  refine G_aload_n 0 hC rfl dX12_comes_0 ?_
  refine M_getR 1 hC hF fl_X12_26_11 rfl rfl dX12_comes_1 ?_
  refine G_aload_n 4 hC rfl dX12_comes_4 ?_
  refine N_getI 5 hC hF fl_X12_101_11 rfl dX12_comes_5 ?_
  refine G_iload_n 8 hC rfl dX12_comes_8 ?_
  refine N_iastO 9 hC hF rfl (by decide) (by decide) (hnt) (by omega) dX12_comes_9 ?_
  refine G_aload_n 10 hC rfl dX12_comes_10 ?_
  refine M_getR 11 hC hF fl_X12_38_11 rfl rfl dX12_comes_11 ?_
  refine G_aload_n 14 hC rfl dX12_comes_14 ?_
  refine N_getI 15 hC hF fl_X12_101_11 rfl dX12_comes_15 ?_
  refine G_iload_n 18 hC rfl dX12_comes_18 ?_
  refine N_iastO 19 hC hF rfl (by decide) (by decide) (hnt) (by omega) dX12_comes_19 ?_
  refine G_aload_n 20 hC rfl dX12_comes_20 ?_
  refine M_getR 21 hC hF fl_X12_41_11 rfl rfl dX12_comes_21 ?_
  refine G_aload_n 24 hC rfl dX12_comes_24 ?_
  refine N_getI 25 hC hF fl_X12_101_11 rfl dX12_comes_25 ?_
  refine G_iload_n 28 hC rfl dX12_comes_28 ?_
  refine N_iastO 29 hC hF rfl (by decide) (by decide) (hnt) (by omega) dX12_comes_29 ?_
  refine G_aload_n 30 hC rfl dX12_comes_30 ?_
  refine G_dup 31 hC rfl dX12_comes_31 ?_
  refine N_getI 32 hC hF fl_X12_101_11 rfl dX12_comes_32 ?_
  refine G_iconst 35 hC (nI 1) (by decide) dX12_comes_35 ?_
  refine G_iadd 36 hC dX12_comes_36 ?_
  refine N_putI 37 hC hF (fp_X12_101_11 _) rfl dX12_comes_37 ?_
  refine G_aload_n 40 hC rfl dX12_comes_40 ?_
  refine M_getR 41 hC hF fl_X12_68_11 rfl rfl dX12_comes_41 ?_
  refine G_sipush 44 hC (nI 247) (by decide) dX12_comes_44 ?_
  first | refine G_dup2 47 hC rfl rfl dX12_comes_47 ?_ | refine G_dup2L 47 hC dX12_comes_47 ?_
  refine N_iald 48 hC hF rfl (by omega) dX12_comes_48 ?_
  refine G_iconst 49 hC (nI 1) (by decide) dX12_comes_49 ?_
  refine G_iadd 50 hC dX12_comes_50 ?_
  refine N_iast 51 hC hF rfl (by omega) dX12_comes_51 ?_
  refine G_aload_n 52 hC rfl dX12_comes_52 ?_
  refine M_getR 53 hC hF fl_X12_68_11 rfl rfl dX12_comes_53 ?_
  refine G_sipush 56 hC (nI 248) (by decide) dX12_comes_56 ?_
  first | refine G_dup2 59 hC rfl rfl dX12_comes_59 ?_ | refine G_dup2L 59 hC dX12_comes_59 ?_
  refine N_iald 60 hC hF rfl (by omega) dX12_comes_60 ?_
  refine G_iconst 61 hC (nI 1) (by decide) dX12_comes_61 ?_
  refine G_iadd 62 hC dX12_comes_62 ?_
  refine N_iast 63 hC hF rfl (by omega) dX12_comes_63 ?_
  refine G_aload_n 64 hC rfl dX12_comes_64 ?_
  refine N_getI 65 hC hF fl_X12_101_11 rfl dX12_comes_65 ?_
  refine G_iconst 68 hC (nI 1) (by decide) dX12_comes_68 ?_
  refine G_isub 69 hC dX12_comes_69 ?_
  refine R_i 70 hR (by first | rfl | exact narrow_bI _) dX12_comes_70 (Nat.le_refl _) (Nat.le_refl _) ?_
  have e : upd2 (upd2 (upd2 r 6 nt kd) 10 nt nd) 11 nt bd 0 10 = nI nt := hnt
  refine ⟨?_, ?_, rfl, rfl⟩
  · show some (vi (upd2 (upd2 (upd2 (upd2 r 6 nt kd) 10 nt nd) 11 nt bd) 0 10 _ 0 10 - nI 1)) = _
    rw [upd2_row, up_s, e, nI_add, pk_sub (by omega)]
    rfl
  · rw [e, nI_add]
    rfl
theorem n_way_bad (hF : FixR b N) (h0 : r 0 0 = nI 0) {nt ng ns : Nat} {z p f nd bd : Int32} {a : Int64} (hnt : r 0 10 = nI nt) (hng : r 0 3 = nI ng) (hng2 : ng ≤ 6) (hns : r 0 20 = nI ns) (hns2 : ns ≤ 8) (hb : ¬ ((nI 1 ≤ p ∧ p ≤ 100000) ∧ ¬ a = -9223372036854775808 ∧ ¬ f < 0 ∧ NbOk r nd bd)) : Cq l D B mX12_way [vr (some (b + 0)), vi z, vi p, vl a, vi f, vi nd, vi bd] (RI b r n G) (RLg b rl S q GL) N (some (vi (-1))) (RI b r n G) (RLg b rl S q GL) := by
  refine Ct.of (M := mX12_way) (by decide) (Nat.le_of_ble_eq_true rfl) (fun g (hR : Cr l D B RX12 cX12_way 8 "way" { frames := 2, cells := 0, slots := 0, locals := 44 } (some .int) 0 0 _ g) => ?_)
  have hC := hR.cx
  show g 0 [some (vr (some (b + 0))), some (vi z), some (vi p), some (vl a), none, some (vi f), some (vi nd), some (vi bd)] [] _ _ N 0 0
  refine G_aload_n 0 hC rfl dX12_way_0 ?_
  refine G_iconst 1 hC (nI 0) (by decide) dX12_way_1 ?_
  refine N_thr 2 hC hF h0 (fp_X12_96_11 _) dX12_way_2 ?_
  refine G_iload_n 5 hC rfl dX12_way_5 ?_
  refine G_iconst 6 hC (nI 1) (by decide) dX12_way_6 ?_
  refine G_ldc 7 hC kc_X12_141 dX12_way_7 ?_
  refine G_callS1 9 hC (ref_in) okX12_in lk_X12_107 rfl rfl rfl (Nat.le_of_ble_eq_true rfl) (by decide) (by decide) dX12_way_9 ?_
  first | refine G_if_eq_b 12 39 hC dX12_way_12 (by decide) (fun h12 => ?_) (fun h12 => ?_) | refine G_if_eq 12 39 hC dX12_way_12 (by decide) (fun h12 => ?_) (fun h12 => ?_)
  · refine G_iconst 39 hC (-1) (by decide) dX12_way_39 ?_
    refine R_i 40 hR (by first | rfl | exact narrow_bI _) dX12_way_40 (Nat.le_refl _) (Nat.le_refl _) ?_
    exact ⟨rfl, rfl, rfl, rfl⟩
  · refine G_lload_n 15 hC rfl dX12_way_15 ?_
    refine G_ldc2 16 hC kc_X12_99 dX12_way_16 ?_
    refine G_lcmp 19 hC dX12_way_19 ?_
    first | refine G_if_eq_b 20 39 hC dX12_way_20 (by decide) (fun h20 => ?_) (fun h20 => ?_) | refine G_if_eq 20 39 hC dX12_way_20 (by decide) (fun h20 => ?_) (fun h20 => ?_)
    · refine G_iconst 39 hC (-1) (by decide) dX12_way_39 ?_
      refine R_i 40 hR (by first | rfl | exact narrow_bI _) dX12_way_40 (Nat.le_refl _) (Nat.le_refl _) ?_
      exact ⟨rfl, rfl, rfl, rfl⟩
    · refine G_iload 23 hC rfl dX12_way_23 ?_
      refine G_if_lt 25 39 hC dX12_way_25 (by decide) (fun h25 => ?_) (fun h25 => ?_)
      · refine G_iconst 39 hC (-1) (by decide) dX12_way_39 ?_
        refine R_i 40 hR (by first | rfl | exact narrow_bI _) dX12_way_40 (Nat.le_refl _) (Nat.le_refl _) ?_
        exact ⟨rfl, rfl, rfl, rfl⟩
      · refine G_aload_n 28 hC rfl dX12_way_28 ?_
        refine G_iload 29 hC rfl dX12_way_29 ?_
        refine G_iload 31 hC rfl dX12_way_31 ?_
        refine G_callV1 33 hC (n_mayNeed hF) okX12_mayNeed lk_X12_142 ((hF.sh (o := 0) rfl (by decide)).1) rfl rfl rfl rfl (Nat.le_of_ble_eq_true rfl) (by decide) (by decide) dX12_way_33 ?_
        first | refine G_if_ne_b 36 41 hC dX12_way_36 (by decide) (fun h36 => ?_) (fun h36 => ?_) | refine G_if_ne 36 41 hC dX12_way_36 (by decide) (fun h36 => ?_) (fun h36 => ?_)
        · exact absurd ⟨h12, fun y => h20 ((lg_cmp_eq _ _).mpr y), h25, h36⟩ hb
        · refine G_iconst 39 hC (-1) (by decide) dX12_way_39 ?_
          refine R_i 40 hR (by first | rfl | exact narrow_bI _) dX12_way_40 (Nat.le_refl _) (Nat.le_refl _) ?_
          exact ⟨rfl, rfl, rfl, rfl⟩
theorem n_way_state (hF : FixR b N) (h0 : r 0 0 = nI 0) {nt ng ns : Nat} {z p f nd bd : Int32} {a : Int64} (hnt : r 0 10 = nI nt) (hng : r 0 3 = nI ng) (hng2 : ng ≤ 6) (hns : r 0 20 = nI ns) (hns2 : ns ≤ 8) (hok : ((nI 1 ≤ p ∧ p ≤ 100000) ∧ ¬ a = -9223372036854775808 ∧ ¬ f < 0 ∧ NbOk r nd bd)) (hst : n 246 = 1) : Cq l D B mX12_way [vr (some (b + 0)), vi z, vi p, vl a, vi f, vi nd, vi bd] (RI b r n G) (RLg b rl S q GL) N (some (vi (-2))) (RI b r n G) (RLg b rl S q GL) := by
  refine Ct.of (M := mX12_way) (by decide) (Nat.le_of_ble_eq_true rfl) (fun g (hR : Cr l D B RX12 cX12_way 8 "way" { frames := 2, cells := 0, slots := 0, locals := 44 } (some .int) 0 0 _ g) => ?_)
  have hC := hR.cx
  show g 0 [some (vr (some (b + 0))), some (vi z), some (vi p), some (vl a), none, some (vi f), some (vi nd), some (vi bd)] [] _ _ N 0 0
  refine G_aload_n 0 hC rfl dX12_way_0 ?_
  refine G_iconst 1 hC (nI 0) (by decide) dX12_way_1 ?_
  refine N_thr 2 hC hF h0 (fp_X12_96_11 _) dX12_way_2 ?_
  refine G_iload_n 5 hC rfl dX12_way_5 ?_
  refine G_iconst 6 hC (nI 1) (by decide) dX12_way_6 ?_
  refine G_ldc 7 hC kc_X12_141 dX12_way_7 ?_
  refine G_callS1 9 hC (ref_in) okX12_in lk_X12_107 rfl rfl rfl (Nat.le_of_ble_eq_true rfl) (by decide) (by decide) dX12_way_9 ?_
  first | refine G_if_eq_b 12 39 hC dX12_way_12 (by decide) (fun h12 => ?_) (fun h12 => ?_) | refine G_if_eq 12 39 hC dX12_way_12 (by decide) (fun h12 => ?_) (fun h12 => ?_)
  · exact absurd hok.1 h12
  · refine G_lload_n 15 hC rfl dX12_way_15 ?_
    refine G_ldc2 16 hC kc_X12_99 dX12_way_16 ?_
    refine G_lcmp 19 hC dX12_way_19 ?_
    first | refine G_if_eq_b 20 39 hC dX12_way_20 (by decide) (fun h20 => ?_) (fun h20 => ?_) | refine G_if_eq 20 39 hC dX12_way_20 (by decide) (fun h20 => ?_) (fun h20 => ?_)
    · exact absurd ((lg_cmp_eq _ _).mp h20) hok.2.1
    · refine G_iload 23 hC rfl dX12_way_23 ?_
      refine G_if_lt 25 39 hC dX12_way_25 (by decide) (fun h25 => ?_) (fun h25 => ?_)
      · exact absurd h25 hok.2.2.1
      · refine G_aload_n 28 hC rfl dX12_way_28 ?_
        refine G_iload 29 hC rfl dX12_way_29 ?_
        refine G_iload 31 hC rfl dX12_way_31 ?_
        refine G_callV1 33 hC (n_mayNeed hF) okX12_mayNeed lk_X12_142 ((hF.sh (o := 0) rfl (by decide)).1) rfl rfl rfl rfl (Nat.le_of_ble_eq_true rfl) (by decide) (by decide) dX12_way_33 ?_
        first | refine G_if_ne_b 36 41 hC dX12_way_36 (by decide) (fun h36 => ?_) (fun h36 => ?_) | refine G_if_ne 36 41 hC dX12_way_36 (by decide) (fun h36 => ?_) (fun h36 => ?_)
        · refine G_aload_n 41 hC rfl dX12_way_41 ?_
          refine G_callV1 42 hC (n_isOpen hF) okX12_isOpen lk_X12_114 ((hF.sh (o := 0) rfl (by decide)).1) rfl rfl rfl rfl (Nat.le_of_ble_eq_true rfl) (by decide) (by decide) dX12_way_42 ?_
          first | refine G_if_eq_b 45 51 hC dX12_way_45 (by decide) (fun h45 => ?_) (fun h45 => ?_) | refine G_if_eq 45 51 hC dX12_way_45 (by decide) (fun h45 => ?_) (fun h45 => ?_)
          · exact absurd hst h45
          · refine G_bipush 48 hC (-2) (by decide) dX12_way_48 ?_
            refine R_i 50 hR (by first | rfl | exact narrow_bI _) dX12_way_50 (Nat.le_refl _) (Nat.le_refl _) ?_
            exact ⟨rfl, rfl, rfl, rfl⟩
        · exact absurd hok.2.2.2 h36
theorem n_way_full (hF : FixR b N) (h0 : r 0 0 = nI 0) {nt ng ns : Nat} {z p f nd bd : Int32} {a : Int64} (hnt : r 0 10 = nI nt) (hng : r 0 3 = nI ng) (hng2 : ng ≤ 6) (hns : r 0 20 = nI ns) (hns2 : ns ≤ 8) (hok : ((nI 1 ≤ p ∧ p ≤ 100000) ∧ ¬ a = -9223372036854775808 ∧ ¬ f < 0 ∧ NbOk r nd bd)) (hst : ¬ n 246 = 1) (hfu : r 0 10 = nI 20) : Cq l D B mX12_way [vr (some (b + 0)), vi z, vi p, vl a, vi f, vi nd, vi bd] (RI b r n G) (RLg b rl S q GL) N (some (vi (-3))) (RI b r n G) (RLg b rl S q GL) := by
  refine Ct.of (M := mX12_way) (by decide) (Nat.le_of_ble_eq_true rfl) (fun g (hR : Cr l D B RX12 cX12_way 8 "way" { frames := 2, cells := 0, slots := 0, locals := 44 } (some .int) 0 0 _ g) => ?_)
  have hC := hR.cx
  show g 0 [some (vr (some (b + 0))), some (vi z), some (vi p), some (vl a), none, some (vi f), some (vi nd), some (vi bd)] [] _ _ N 0 0
  refine G_aload_n 0 hC rfl dX12_way_0 ?_
  refine G_iconst 1 hC (nI 0) (by decide) dX12_way_1 ?_
  refine N_thr 2 hC hF h0 (fp_X12_96_11 _) dX12_way_2 ?_
  refine G_iload_n 5 hC rfl dX12_way_5 ?_
  refine G_iconst 6 hC (nI 1) (by decide) dX12_way_6 ?_
  refine G_ldc 7 hC kc_X12_141 dX12_way_7 ?_
  refine G_callS1 9 hC (ref_in) okX12_in lk_X12_107 rfl rfl rfl (Nat.le_of_ble_eq_true rfl) (by decide) (by decide) dX12_way_9 ?_
  first | refine G_if_eq_b 12 39 hC dX12_way_12 (by decide) (fun h12 => ?_) (fun h12 => ?_) | refine G_if_eq 12 39 hC dX12_way_12 (by decide) (fun h12 => ?_) (fun h12 => ?_)
  · exact absurd hok.1 h12
  · refine G_lload_n 15 hC rfl dX12_way_15 ?_
    refine G_ldc2 16 hC kc_X12_99 dX12_way_16 ?_
    refine G_lcmp 19 hC dX12_way_19 ?_
    first | refine G_if_eq_b 20 39 hC dX12_way_20 (by decide) (fun h20 => ?_) (fun h20 => ?_) | refine G_if_eq 20 39 hC dX12_way_20 (by decide) (fun h20 => ?_) (fun h20 => ?_)
    · exact absurd ((lg_cmp_eq _ _).mp h20) hok.2.1
    · refine G_iload 23 hC rfl dX12_way_23 ?_
      refine G_if_lt 25 39 hC dX12_way_25 (by decide) (fun h25 => ?_) (fun h25 => ?_)
      · exact absurd h25 hok.2.2.1
      · refine G_aload_n 28 hC rfl dX12_way_28 ?_
        refine G_iload 29 hC rfl dX12_way_29 ?_
        refine G_iload 31 hC rfl dX12_way_31 ?_
        refine G_callV1 33 hC (n_mayNeed hF) okX12_mayNeed lk_X12_142 ((hF.sh (o := 0) rfl (by decide)).1) rfl rfl rfl rfl (Nat.le_of_ble_eq_true rfl) (by decide) (by decide) dX12_way_33 ?_
        first | refine G_if_ne_b 36 41 hC dX12_way_36 (by decide) (fun h36 => ?_) (fun h36 => ?_) | refine G_if_ne 36 41 hC dX12_way_36 (by decide) (fun h36 => ?_) (fun h36 => ?_)
        · refine G_aload_n 41 hC rfl dX12_way_41 ?_
          refine G_callV1 42 hC (n_isOpen hF) okX12_isOpen lk_X12_114 ((hF.sh (o := 0) rfl (by decide)).1) rfl rfl rfl rfl (Nat.le_of_ble_eq_true rfl) (by decide) (by decide) dX12_way_42 ?_
          first | refine G_if_eq_b 45 51 hC dX12_way_45 (by decide) (fun h45 => ?_) (fun h45 => ?_) | refine G_if_eq 45 51 hC dX12_way_45 (by decide) (fun h45 => ?_) (fun h45 => ?_)
          · refine G_aload_n 51 hC rfl dX12_way_51 ?_
            refine N_getI 52 hC hF fl_X12_101_11 rfl dX12_way_52 ?_
            refine G_bipush 55 hC (nI 20) (by decide) dX12_way_55 ?_
            refine G_icmp_ne 57 63 hC dX12_way_57 (by decide) (fun h57 => ?_) (fun h57 => ?_)
            · exact absurd hfu h57
            · refine G_bipush 60 hC (-3) (by decide) dX12_way_60 ?_
              refine R_i 62 hR (by first | rfl | exact narrow_bI _) dX12_way_62 (Nat.le_refl _) (Nat.le_refl _) ?_
              exact ⟨rfl, rfl, rfl, rfl⟩
          · exact absurd h45 hst
        · exact absurd hok.2.2.2 h36
theorem n_way_ok (hF : FixR b N) (h0 : r 0 0 = nI 0) {nt ng ns : Nat} {z p f nd bd : Int32} {a : Int64} (hnt : r 0 10 = nI nt) (hng : r 0 3 = nI ng) (hng2 : ng ≤ 6) (hns : r 0 20 = nI ns) (hns2 : ns ≤ 8) (hok : ((nI 1 ≤ p ∧ p ≤ 100000) ∧ ¬ a = -9223372036854775808 ∧ ¬ f < 0 ∧ NbOk r nd bd)) (hst : ¬ n 246 = 1) (hnt2 : nt < 20) : Cq l D B mX12_way [vr (some (b + 0)), vi z, vi p, vl a, vi f, vi nd, vi bd] (RI b r n G) (RLg b rl S q GL) N (some (vi (nI nt))) (RI b (F_cm (upd2 (upd2 r 7 nt p) 9 nt f) nt (if z = 0 then nI 0 else nI 1) nd bd) (F_cmN n) G) (RLg b (upd2 rl 8 nt a) S q GL) := by
  refine Ct.of (M := mX12_way) (by decide) (Nat.le_of_ble_eq_true rfl) (fun g (hR : Cr l D B RX12 cX12_way 8 "way" { frames := 2, cells := 0, slots := 0, locals := 44 } (some .int) 0 0 _ g) => ?_)
  have hC := hR.cx
  show g 0 [some (vr (some (b + 0))), some (vi z), some (vi p), some (vl a), none, some (vi f), some (vi nd), some (vi bd)] [] _ _ N 0 0
  refine G_aload_n 0 hC rfl dX12_way_0 ?_
  refine G_iconst 1 hC (nI 0) (by decide) dX12_way_1 ?_
  refine N_thr 2 hC hF h0 (fp_X12_96_11 _) dX12_way_2 ?_
  refine G_iload_n 5 hC rfl dX12_way_5 ?_
  refine G_iconst 6 hC (nI 1) (by decide) dX12_way_6 ?_
  refine G_ldc 7 hC kc_X12_141 dX12_way_7 ?_
  refine G_callS1 9 hC (ref_in) okX12_in lk_X12_107 rfl rfl rfl (Nat.le_of_ble_eq_true rfl) (by decide) (by decide) dX12_way_9 ?_
  first | refine G_if_eq_b 12 39 hC dX12_way_12 (by decide) (fun h12 => ?_) (fun h12 => ?_) | refine G_if_eq 12 39 hC dX12_way_12 (by decide) (fun h12 => ?_) (fun h12 => ?_)
  · exact absurd hok.1 h12
  · refine G_lload_n 15 hC rfl dX12_way_15 ?_
    refine G_ldc2 16 hC kc_X12_99 dX12_way_16 ?_
    refine G_lcmp 19 hC dX12_way_19 ?_
    first | refine G_if_eq_b 20 39 hC dX12_way_20 (by decide) (fun h20 => ?_) (fun h20 => ?_) | refine G_if_eq 20 39 hC dX12_way_20 (by decide) (fun h20 => ?_) (fun h20 => ?_)
    · exact absurd ((lg_cmp_eq _ _).mp h20) hok.2.1
    · refine G_iload 23 hC rfl dX12_way_23 ?_
      refine G_if_lt 25 39 hC dX12_way_25 (by decide) (fun h25 => ?_) (fun h25 => ?_)
      · exact absurd h25 hok.2.2.1
      · refine G_aload_n 28 hC rfl dX12_way_28 ?_
        refine G_iload 29 hC rfl dX12_way_29 ?_
        refine G_iload 31 hC rfl dX12_way_31 ?_
        refine G_callV1 33 hC (n_mayNeed hF) okX12_mayNeed lk_X12_142 ((hF.sh (o := 0) rfl (by decide)).1) rfl rfl rfl rfl (Nat.le_of_ble_eq_true rfl) (by decide) (by decide) dX12_way_33 ?_
        first | refine G_if_ne_b 36 41 hC dX12_way_36 (by decide) (fun h36 => ?_) (fun h36 => ?_) | refine G_if_ne 36 41 hC dX12_way_36 (by decide) (fun h36 => ?_) (fun h36 => ?_)
        · refine G_aload_n 41 hC rfl dX12_way_41 ?_
          refine G_callV1 42 hC (n_isOpen hF) okX12_isOpen lk_X12_114 ((hF.sh (o := 0) rfl (by decide)).1) rfl rfl rfl rfl (Nat.le_of_ble_eq_true rfl) (by decide) (by decide) dX12_way_42 ?_
          first | refine G_if_eq_b 45 51 hC dX12_way_45 (by decide) (fun h45 => ?_) (fun h45 => ?_) | refine G_if_eq 45 51 hC dX12_way_45 (by decide) (fun h45 => ?_) (fun h45 => ?_)
          · refine G_aload_n 51 hC rfl dX12_way_51 ?_
            refine N_getI 52 hC hF fl_X12_101_11 rfl dX12_way_52 ?_
            refine G_bipush 55 hC (nI 20) (by decide) dX12_way_55 ?_
            refine G_icmp_ne 57 63 hC dX12_way_57 (by decide) (fun h57 => ?_) (fun h57 => ?_)
            · refine G_aload_n 63 hC rfl dX12_way_63 ?_
              refine M_getR 64 hC hF fl_X12_29_11 rfl rfl dX12_way_64 ?_
              refine G_aload_n 67 hC rfl dX12_way_67 ?_
              refine N_getI 68 hC hF fl_X12_101_11 rfl dX12_way_68 ?_
              refine G_iload_n 71 hC rfl dX12_way_71 ?_
              refine N_iastO 72 hC hF rfl (by decide) (by decide) (hnt) (by omega) dX12_way_72 ?_
              refine G_aload_n 73 hC rfl dX12_way_73 ?_
              refine M_getR 74 hC hF fl_X12_32_11 rfl rfl dX12_way_74 ?_
              refine G_aload_n 77 hC rfl dX12_way_77 ?_
              refine N_getI 78 hC hF fl_X12_101_11 rfl dX12_way_78 ?_
              refine G_lload_n 81 hC rfl dX12_way_81 ?_
              refine Q_lastO 82 hC hF rfl (by decide) (by decide) (by decide) (hnt) (by omega) dX12_way_82 ?_
              refine G_aload_n 83 hC rfl dX12_way_83 ?_
              refine M_getR 84 hC hF fl_X12_35_11 rfl rfl dX12_way_84 ?_
              refine G_aload_n 87 hC rfl dX12_way_87 ?_
              refine N_getI 88 hC hF fl_X12_101_11 rfl dX12_way_88 ?_
              refine G_iload 91 hC rfl dX12_way_91 ?_
              refine N_iastO 93 hC hF rfl (by decide) (by decide) (hnt) (by omega) dX12_way_93 ?_
              refine G_aload_n 94 hC rfl dX12_way_94 ?_
              refine G_iload_n 95 hC rfl dX12_way_95 ?_
              first | refine G_if_eq_b 96 103 hC dX12_way_96 (by decide) (fun h96 => ?_) (fun h96 => ?_) | refine G_if_eq 96 103 hC dX12_way_96 (by decide) (fun h96 => ?_) (fun h96 => ?_)
              · refine G_iconst 103 hC (nI 0) (by decide) dX12_way_103 ?_
                refine G_iload 104 hC rfl dX12_way_104 ?_
                refine G_iload 106 hC rfl dX12_way_106 ?_
                refine G_callV1 108 hC (n_comes hF (nt := nt) hnt hnt2) okX12_comes lk_X12_145 ((hF.sh (o := 0) rfl (by decide)).1) rfl rfl rfl rfl (Nat.le_of_ble_eq_true rfl) (by decide) (by decide) dX12_way_108 ?_
                refine R_i 111 hR (by first | rfl | exact narrow_bI _) dX12_way_111 (Nat.le_refl _) (Nat.le_refl _) ?_
                refine ⟨rfl, ?_, rfl, rfl⟩
                first | (rw [if_pos h96]; done) | (rw [if_neg h96]; done)
              · refine G_iconst 99 hC (nI 1) (by decide) dX12_way_99 ?_
                refine G_goto 100 104 hC dX12_way_100 (by decide) ?_
                refine G_iload 104 hC rfl dX12_way_104 ?_
                refine G_iload 106 hC rfl dX12_way_106 ?_
                refine G_callV1 108 hC (n_comes hF (nt := nt) hnt hnt2) okX12_comes lk_X12_145 ((hF.sh (o := 0) rfl (by decide)).1) rfl rfl rfl rfl (Nat.le_of_ble_eq_true rfl) (by decide) (by decide) dX12_way_108 ?_
                refine R_i 111 hR (by first | rfl | exact narrow_bI _) dX12_way_111 (Nat.le_refl _) (Nat.le_refl _) ?_
                refine ⟨rfl, ?_, rfl, rfl⟩
                first | (rw [if_pos h96]; done) | (rw [if_neg h96]; done)
            · exact absurd (nI_eq_of (hnt.symm.trans h57) (by omega) (by omega)) (by omega)
          · exact absurd h45 hst
        · exact absurd hok.2.2.2 h36
theorem n_reader_bad (hF : FixR b N) (h0 : r 0 0 = nI 0) {nt ng ns : Nat} {z g0 kd nd bd : Int32} (hnt : r 0 10 = nI nt) (hng : r 0 3 = nI ng) (hng2 : ng ≤ 6) (hns : r 0 20 = nI ns) (hns2 : ns ≤ 8) (hb : ¬ (inR g0 ng ∧ (nI 0 ≤ kd ∧ kd ≤ nI 5) ∧ NbOk r nd bd)) : Cq l D B mX12_reader [vr (some (b + 0)), vi z, vi g0, vi kd, vi nd, vi bd] (RI b r n G) (RLg b rl S q GL) N (some (vi (-1))) (RI b r n G) (RLg b rl S q GL) := by
  refine Ct.of (M := mX12_reader) (by decide) (Nat.le_of_ble_eq_true rfl) (fun g (hR : Cr l D B RX12 cX12_reader 6 "reader" { frames := 2, cells := 0, slots := 0, locals := 44 } (some .int) 0 0 _ g) => ?_)
  have hC := hR.cx
  show g 0 [some (vr (some (b + 0))), some (vi z), some (vi g0), some (vi kd), some (vi nd), some (vi bd)] [] _ _ N 0 0
  refine G_aload_n 0 hC rfl dX12_reader_0 ?_
  refine G_iconst 1 hC (nI 0) (by decide) dX12_reader_1 ?_
  refine N_thr 2 hC hF h0 (fp_X12_96_11 _) dX12_reader_2 ?_
  refine G_aload_n 5 hC rfl dX12_reader_5 ?_
  refine G_iload_n 6 hC rfl dX12_reader_6 ?_
  refine G_callV1 7 hC (n_isGrid hF hng hng2) okX12_isGrid lk_X12_122 ((hF.sh (o := 0) rfl (by decide)).1) rfl rfl rfl rfl (Nat.le_of_ble_eq_true rfl) (by decide) (by decide) dX12_reader_7 ?_
  first | refine G_if_eq_b 10 33 hC dX12_reader_10 (by decide) (fun h10 => ?_) (fun h10 => ?_) | refine G_if_eq 10 33 hC dX12_reader_10 (by decide) (fun h10 => ?_) (fun h10 => ?_)
  · refine G_iconst 33 hC (-1) (by decide) dX12_reader_33 ?_
    refine R_i 34 hR (by first | rfl | exact narrow_bI _) dX12_reader_34 (Nat.le_refl _) (Nat.le_refl _) ?_
    exact ⟨rfl, rfl, rfl, rfl⟩
  · refine G_iload_n 13 hC rfl dX12_reader_13 ?_
    refine G_iconst 14 hC (nI 0) (by decide) dX12_reader_14 ?_
    refine G_iconst 15 hC (nI 5) (by decide) dX12_reader_15 ?_
    refine G_callS1 16 hC (ref_in) okX12_in lk_X12_107 rfl rfl rfl (Nat.le_of_ble_eq_true rfl) (by decide) (by decide) dX12_reader_16 ?_
    first | refine G_if_eq_b 19 33 hC dX12_reader_19 (by decide) (fun h19 => ?_) (fun h19 => ?_) | refine G_if_eq 19 33 hC dX12_reader_19 (by decide) (fun h19 => ?_) (fun h19 => ?_)
    · refine G_iconst 33 hC (-1) (by decide) dX12_reader_33 ?_
      refine R_i 34 hR (by first | rfl | exact narrow_bI _) dX12_reader_34 (Nat.le_refl _) (Nat.le_refl _) ?_
      exact ⟨rfl, rfl, rfl, rfl⟩
    · refine G_aload_n 22 hC rfl dX12_reader_22 ?_
      refine G_iload 23 hC rfl dX12_reader_23 ?_
      refine G_iload 25 hC rfl dX12_reader_25 ?_
      refine G_callV1 27 hC (n_mayNeed hF) okX12_mayNeed lk_X12_142 ((hF.sh (o := 0) rfl (by decide)).1) rfl rfl rfl rfl (Nat.le_of_ble_eq_true rfl) (by decide) (by decide) dX12_reader_27 ?_
      first | refine G_if_ne_b 30 35 hC dX12_reader_30 (by decide) (fun h30 => ?_) (fun h30 => ?_) | refine G_if_ne 30 35 hC dX12_reader_30 (by decide) (fun h30 => ?_) (fun h30 => ?_)
      · exact absurd ⟨h10, h19, h30⟩ hb
      · refine G_iconst 33 hC (-1) (by decide) dX12_reader_33 ?_
        refine R_i 34 hR (by first | rfl | exact narrow_bI _) dX12_reader_34 (Nat.le_refl _) (Nat.le_refl _) ?_
        exact ⟨rfl, rfl, rfl, rfl⟩
theorem n_reader_state (hF : FixR b N) (h0 : r 0 0 = nI 0) {nt ng ns : Nat} {z g0 kd nd bd : Int32} (hnt : r 0 10 = nI nt) (hng : r 0 3 = nI ng) (hng2 : ng ≤ 6) (hns : r 0 20 = nI ns) (hns2 : ns ≤ 8) (hok : (inR g0 ng ∧ (nI 0 ≤ kd ∧ kd ≤ nI 5) ∧ NbOk r nd bd)) (hst : n 246 = 1) : Cq l D B mX12_reader [vr (some (b + 0)), vi z, vi g0, vi kd, vi nd, vi bd] (RI b r n G) (RLg b rl S q GL) N (some (vi (-2))) (RI b r n G) (RLg b rl S q GL) := by
  refine Ct.of (M := mX12_reader) (by decide) (Nat.le_of_ble_eq_true rfl) (fun g (hR : Cr l D B RX12 cX12_reader 6 "reader" { frames := 2, cells := 0, slots := 0, locals := 44 } (some .int) 0 0 _ g) => ?_)
  have hC := hR.cx
  show g 0 [some (vr (some (b + 0))), some (vi z), some (vi g0), some (vi kd), some (vi nd), some (vi bd)] [] _ _ N 0 0
  refine G_aload_n 0 hC rfl dX12_reader_0 ?_
  refine G_iconst 1 hC (nI 0) (by decide) dX12_reader_1 ?_
  refine N_thr 2 hC hF h0 (fp_X12_96_11 _) dX12_reader_2 ?_
  refine G_aload_n 5 hC rfl dX12_reader_5 ?_
  refine G_iload_n 6 hC rfl dX12_reader_6 ?_
  refine G_callV1 7 hC (n_isGrid hF hng hng2) okX12_isGrid lk_X12_122 ((hF.sh (o := 0) rfl (by decide)).1) rfl rfl rfl rfl (Nat.le_of_ble_eq_true rfl) (by decide) (by decide) dX12_reader_7 ?_
  first | refine G_if_eq_b 10 33 hC dX12_reader_10 (by decide) (fun h10 => ?_) (fun h10 => ?_) | refine G_if_eq 10 33 hC dX12_reader_10 (by decide) (fun h10 => ?_) (fun h10 => ?_)
  · exact absurd hok.1 h10
  · refine G_iload_n 13 hC rfl dX12_reader_13 ?_
    refine G_iconst 14 hC (nI 0) (by decide) dX12_reader_14 ?_
    refine G_iconst 15 hC (nI 5) (by decide) dX12_reader_15 ?_
    refine G_callS1 16 hC (ref_in) okX12_in lk_X12_107 rfl rfl rfl (Nat.le_of_ble_eq_true rfl) (by decide) (by decide) dX12_reader_16 ?_
    first | refine G_if_eq_b 19 33 hC dX12_reader_19 (by decide) (fun h19 => ?_) (fun h19 => ?_) | refine G_if_eq 19 33 hC dX12_reader_19 (by decide) (fun h19 => ?_) (fun h19 => ?_)
    · exact absurd hok.2.1 h19
    · refine G_aload_n 22 hC rfl dX12_reader_22 ?_
      refine G_iload 23 hC rfl dX12_reader_23 ?_
      refine G_iload 25 hC rfl dX12_reader_25 ?_
      refine G_callV1 27 hC (n_mayNeed hF) okX12_mayNeed lk_X12_142 ((hF.sh (o := 0) rfl (by decide)).1) rfl rfl rfl rfl (Nat.le_of_ble_eq_true rfl) (by decide) (by decide) dX12_reader_27 ?_
      first | refine G_if_ne_b 30 35 hC dX12_reader_30 (by decide) (fun h30 => ?_) (fun h30 => ?_) | refine G_if_ne 30 35 hC dX12_reader_30 (by decide) (fun h30 => ?_) (fun h30 => ?_)
      · refine G_aload_n 35 hC rfl dX12_reader_35 ?_
        refine G_callV1 36 hC (n_isOpen hF) okX12_isOpen lk_X12_114 ((hF.sh (o := 0) rfl (by decide)).1) rfl rfl rfl rfl (Nat.le_of_ble_eq_true rfl) (by decide) (by decide) dX12_reader_36 ?_
        first | refine G_if_eq_b 39 45 hC dX12_reader_39 (by decide) (fun h39 => ?_) (fun h39 => ?_) | refine G_if_eq 39 45 hC dX12_reader_39 (by decide) (fun h39 => ?_) (fun h39 => ?_)
        · exact absurd hst h39
        · refine G_bipush 42 hC (-2) (by decide) dX12_reader_42 ?_
          refine R_i 44 hR (by first | rfl | exact narrow_bI _) dX12_reader_44 (Nat.le_refl _) (Nat.le_refl _) ?_
          exact ⟨rfl, rfl, rfl, rfl⟩
      · exact absurd hok.2.2 h30
theorem n_reader_full (hF : FixR b N) (h0 : r 0 0 = nI 0) {nt ng ns : Nat} {z g0 kd nd bd : Int32} (hnt : r 0 10 = nI nt) (hng : r 0 3 = nI ng) (hng2 : ng ≤ 6) (hns : r 0 20 = nI ns) (hns2 : ns ≤ 8) (hok : (inR g0 ng ∧ (nI 0 ≤ kd ∧ kd ≤ nI 5) ∧ NbOk r nd bd)) (hst : ¬ n 246 = 1) (hfu : r 0 10 = nI 20) : Cq l D B mX12_reader [vr (some (b + 0)), vi z, vi g0, vi kd, vi nd, vi bd] (RI b r n G) (RLg b rl S q GL) N (some (vi (-3))) (RI b r n G) (RLg b rl S q GL) := by
  refine Ct.of (M := mX12_reader) (by decide) (Nat.le_of_ble_eq_true rfl) (fun g (hR : Cr l D B RX12 cX12_reader 6 "reader" { frames := 2, cells := 0, slots := 0, locals := 44 } (some .int) 0 0 _ g) => ?_)
  have hC := hR.cx
  show g 0 [some (vr (some (b + 0))), some (vi z), some (vi g0), some (vi kd), some (vi nd), some (vi bd)] [] _ _ N 0 0
  refine G_aload_n 0 hC rfl dX12_reader_0 ?_
  refine G_iconst 1 hC (nI 0) (by decide) dX12_reader_1 ?_
  refine N_thr 2 hC hF h0 (fp_X12_96_11 _) dX12_reader_2 ?_
  refine G_aload_n 5 hC rfl dX12_reader_5 ?_
  refine G_iload_n 6 hC rfl dX12_reader_6 ?_
  refine G_callV1 7 hC (n_isGrid hF hng hng2) okX12_isGrid lk_X12_122 ((hF.sh (o := 0) rfl (by decide)).1) rfl rfl rfl rfl (Nat.le_of_ble_eq_true rfl) (by decide) (by decide) dX12_reader_7 ?_
  first | refine G_if_eq_b 10 33 hC dX12_reader_10 (by decide) (fun h10 => ?_) (fun h10 => ?_) | refine G_if_eq 10 33 hC dX12_reader_10 (by decide) (fun h10 => ?_) (fun h10 => ?_)
  · exact absurd hok.1 h10
  · refine G_iload_n 13 hC rfl dX12_reader_13 ?_
    refine G_iconst 14 hC (nI 0) (by decide) dX12_reader_14 ?_
    refine G_iconst 15 hC (nI 5) (by decide) dX12_reader_15 ?_
    refine G_callS1 16 hC (ref_in) okX12_in lk_X12_107 rfl rfl rfl (Nat.le_of_ble_eq_true rfl) (by decide) (by decide) dX12_reader_16 ?_
    first | refine G_if_eq_b 19 33 hC dX12_reader_19 (by decide) (fun h19 => ?_) (fun h19 => ?_) | refine G_if_eq 19 33 hC dX12_reader_19 (by decide) (fun h19 => ?_) (fun h19 => ?_)
    · exact absurd hok.2.1 h19
    · refine G_aload_n 22 hC rfl dX12_reader_22 ?_
      refine G_iload 23 hC rfl dX12_reader_23 ?_
      refine G_iload 25 hC rfl dX12_reader_25 ?_
      refine G_callV1 27 hC (n_mayNeed hF) okX12_mayNeed lk_X12_142 ((hF.sh (o := 0) rfl (by decide)).1) rfl rfl rfl rfl (Nat.le_of_ble_eq_true rfl) (by decide) (by decide) dX12_reader_27 ?_
      first | refine G_if_ne_b 30 35 hC dX12_reader_30 (by decide) (fun h30 => ?_) (fun h30 => ?_) | refine G_if_ne 30 35 hC dX12_reader_30 (by decide) (fun h30 => ?_) (fun h30 => ?_)
      · refine G_aload_n 35 hC rfl dX12_reader_35 ?_
        refine G_callV1 36 hC (n_isOpen hF) okX12_isOpen lk_X12_114 ((hF.sh (o := 0) rfl (by decide)).1) rfl rfl rfl rfl (Nat.le_of_ble_eq_true rfl) (by decide) (by decide) dX12_reader_36 ?_
        first | refine G_if_eq_b 39 45 hC dX12_reader_39 (by decide) (fun h39 => ?_) (fun h39 => ?_) | refine G_if_eq 39 45 hC dX12_reader_39 (by decide) (fun h39 => ?_) (fun h39 => ?_)
        · refine G_aload_n 45 hC rfl dX12_reader_45 ?_
          refine N_getI 46 hC hF fl_X12_101_11 rfl dX12_reader_46 ?_
          refine G_bipush 49 hC (nI 20) (by decide) dX12_reader_49 ?_
          refine G_icmp_ne 51 57 hC dX12_reader_51 (by decide) (fun h51 => ?_) (fun h51 => ?_)
          · exact absurd hfu h51
          · refine G_bipush 54 hC (-3) (by decide) dX12_reader_54 ?_
            refine R_i 56 hR (by first | rfl | exact narrow_bI _) dX12_reader_56 (Nat.le_refl _) (Nat.le_refl _) ?_
            exact ⟨rfl, rfl, rfl, rfl⟩
        · exact absurd h39 hst
      · exact absurd hok.2.2 h30
theorem n_reader_ok (hF : FixR b N) (h0 : r 0 0 = nI 0) {nt ng ns : Nat} {z g0 kd nd bd : Int32} (hnt : r 0 10 = nI nt) (hng : r 0 3 = nI ng) (hng2 : ng ≤ 6) (hns : r 0 20 = nI ns) (hns2 : ns ≤ 8) (hok : (inR g0 ng ∧ (nI 0 ≤ kd ∧ kd ≤ nI 5) ∧ NbOk r nd bd)) (hst : ¬ n 246 = 1) (hnt2 : nt < 20) : Cq l D B mX12_reader [vr (some (b + 0)), vi z, vi g0, vi kd, vi nd, vi bd] (RI b r n G) (RLg b rl S q GL) N (some (vi (nI nt))) (RI b (F_cm (upd2 (upd2 r 12 nt g0) 13 nt kd) nt (if z = 0 then nI 2 else nI 3) nd bd) (F_cmN n) G) (RLg b rl S q GL) := by
  refine Ct.of (M := mX12_reader) (by decide) (Nat.le_of_ble_eq_true rfl) (fun g (hR : Cr l D B RX12 cX12_reader 6 "reader" { frames := 2, cells := 0, slots := 0, locals := 44 } (some .int) 0 0 _ g) => ?_)
  have hC := hR.cx
  show g 0 [some (vr (some (b + 0))), some (vi z), some (vi g0), some (vi kd), some (vi nd), some (vi bd)] [] _ _ N 0 0
  refine G_aload_n 0 hC rfl dX12_reader_0 ?_
  refine G_iconst 1 hC (nI 0) (by decide) dX12_reader_1 ?_
  refine N_thr 2 hC hF h0 (fp_X12_96_11 _) dX12_reader_2 ?_
  refine G_aload_n 5 hC rfl dX12_reader_5 ?_
  refine G_iload_n 6 hC rfl dX12_reader_6 ?_
  refine G_callV1 7 hC (n_isGrid hF hng hng2) okX12_isGrid lk_X12_122 ((hF.sh (o := 0) rfl (by decide)).1) rfl rfl rfl rfl (Nat.le_of_ble_eq_true rfl) (by decide) (by decide) dX12_reader_7 ?_
  first | refine G_if_eq_b 10 33 hC dX12_reader_10 (by decide) (fun h10 => ?_) (fun h10 => ?_) | refine G_if_eq 10 33 hC dX12_reader_10 (by decide) (fun h10 => ?_) (fun h10 => ?_)
  · exact absurd hok.1 h10
  · refine G_iload_n 13 hC rfl dX12_reader_13 ?_
    refine G_iconst 14 hC (nI 0) (by decide) dX12_reader_14 ?_
    refine G_iconst 15 hC (nI 5) (by decide) dX12_reader_15 ?_
    refine G_callS1 16 hC (ref_in) okX12_in lk_X12_107 rfl rfl rfl (Nat.le_of_ble_eq_true rfl) (by decide) (by decide) dX12_reader_16 ?_
    first | refine G_if_eq_b 19 33 hC dX12_reader_19 (by decide) (fun h19 => ?_) (fun h19 => ?_) | refine G_if_eq 19 33 hC dX12_reader_19 (by decide) (fun h19 => ?_) (fun h19 => ?_)
    · exact absurd hok.2.1 h19
    · refine G_aload_n 22 hC rfl dX12_reader_22 ?_
      refine G_iload 23 hC rfl dX12_reader_23 ?_
      refine G_iload 25 hC rfl dX12_reader_25 ?_
      refine G_callV1 27 hC (n_mayNeed hF) okX12_mayNeed lk_X12_142 ((hF.sh (o := 0) rfl (by decide)).1) rfl rfl rfl rfl (Nat.le_of_ble_eq_true rfl) (by decide) (by decide) dX12_reader_27 ?_
      first | refine G_if_ne_b 30 35 hC dX12_reader_30 (by decide) (fun h30 => ?_) (fun h30 => ?_) | refine G_if_ne 30 35 hC dX12_reader_30 (by decide) (fun h30 => ?_) (fun h30 => ?_)
      · refine G_aload_n 35 hC rfl dX12_reader_35 ?_
        refine G_callV1 36 hC (n_isOpen hF) okX12_isOpen lk_X12_114 ((hF.sh (o := 0) rfl (by decide)).1) rfl rfl rfl rfl (Nat.le_of_ble_eq_true rfl) (by decide) (by decide) dX12_reader_36 ?_
        first | refine G_if_eq_b 39 45 hC dX12_reader_39 (by decide) (fun h39 => ?_) (fun h39 => ?_) | refine G_if_eq 39 45 hC dX12_reader_39 (by decide) (fun h39 => ?_) (fun h39 => ?_)
        · refine G_aload_n 45 hC rfl dX12_reader_45 ?_
          refine N_getI 46 hC hF fl_X12_101_11 rfl dX12_reader_46 ?_
          refine G_bipush 49 hC (nI 20) (by decide) dX12_reader_49 ?_
          refine G_icmp_ne 51 57 hC dX12_reader_51 (by decide) (fun h51 => ?_) (fun h51 => ?_)
          · refine G_aload_n 57 hC rfl dX12_reader_57 ?_
            refine M_getR 58 hC hF fl_X12_44_11 rfl rfl dX12_reader_58 ?_
            refine G_aload_n 61 hC rfl dX12_reader_61 ?_
            refine N_getI 62 hC hF fl_X12_101_11 rfl dX12_reader_62 ?_
            refine G_iload_n 65 hC rfl dX12_reader_65 ?_
            refine N_iastO 66 hC hF rfl (by decide) (by decide) (hnt) (by omega) dX12_reader_66 ?_
            refine G_aload_n 67 hC rfl dX12_reader_67 ?_
            refine M_getR 68 hC hF fl_X12_47_11 rfl rfl dX12_reader_68 ?_
            refine G_aload_n 71 hC rfl dX12_reader_71 ?_
            refine N_getI 72 hC hF fl_X12_101_11 rfl dX12_reader_72 ?_
            refine G_iload_n 75 hC rfl dX12_reader_75 ?_
            refine N_iastO 76 hC hF rfl (by decide) (by decide) (hnt) (by omega) dX12_reader_76 ?_
            refine G_aload_n 77 hC rfl dX12_reader_77 ?_
            refine G_iload_n 78 hC rfl dX12_reader_78 ?_
            first | refine G_if_eq_b 79 86 hC dX12_reader_79 (by decide) (fun h79 => ?_) (fun h79 => ?_) | refine G_if_eq 79 86 hC dX12_reader_79 (by decide) (fun h79 => ?_) (fun h79 => ?_)
            · refine G_iconst 86 hC (nI 2) (by decide) dX12_reader_86 ?_
              refine G_iload 87 hC rfl dX12_reader_87 ?_
              refine G_iload 89 hC rfl dX12_reader_89 ?_
              refine G_callV1 91 hC (n_comes hF (nt := nt) hnt hnt2) okX12_comes lk_X12_145 ((hF.sh (o := 0) rfl (by decide)).1) rfl rfl rfl rfl (Nat.le_of_ble_eq_true rfl) (by decide) (by decide) dX12_reader_91 ?_
              refine R_i 94 hR (by first | rfl | exact narrow_bI _) dX12_reader_94 (Nat.le_refl _) (Nat.le_refl _) ?_
              refine ⟨rfl, ?_, rfl, rfl⟩
              first | (rw [if_pos h79]; done) | (rw [if_neg h79]; done)
            · refine G_iconst 82 hC (nI 3) (by decide) dX12_reader_82 ?_
              refine G_goto 83 87 hC dX12_reader_83 (by decide) ?_
              refine G_iload 87 hC rfl dX12_reader_87 ?_
              refine G_iload 89 hC rfl dX12_reader_89 ?_
              refine G_callV1 91 hC (n_comes hF (nt := nt) hnt hnt2) okX12_comes lk_X12_145 ((hF.sh (o := 0) rfl (by decide)).1) rfl rfl rfl rfl (Nat.le_of_ble_eq_true rfl) (by decide) (by decide) dX12_reader_91 ?_
              refine R_i 94 hR (by first | rfl | exact narrow_bI _) dX12_reader_94 (Nat.le_refl _) (Nat.le_refl _) ?_
              refine ⟨rfl, ?_, rfl, rfl⟩
              first | (rw [if_pos h79]; done) | (rw [if_neg h79]; done)
          · exact absurd (nI_eq_of (hnt.symm.trans h51) (by omega) (by omega)) (by omega)
        · exact absurd h39 hst
      · exact absurd hok.2.2 h30
theorem n_search_bad (hF : FixR b N) (h0 : r 0 0 = nI 0) {nt ng ns : Nat} {g0 kd dv : Int32} {lm : Int64} (hnt : r 0 10 = nI nt) (hng : r 0 3 = nI ng) (hng2 : ng ≤ 6) (hns : r 0 20 = nI ns) (hns2 : ns ≤ 8) (hb : ¬ (inR g0 ng ∧ (nI 0 ≤ kd ∧ kd ≤ nI 5) ∧ (nI 0 ≤ dv ∧ dv ≤ nI 100) ∧ ¬ lm < 0)) : Cq l D B mX12_search [vr (some (b + 0)), vi g0, vi kd, vi dv, vl lm] (RI b r n G) (RLg b rl S q GL) N (some (vi (-1))) (RI b r n G) (RLg b rl S q GL) := by
  refine Ct.of (M := mX12_search) (by decide) (Nat.le_of_ble_eq_true rfl) (fun g (hR : Cr l D B RX12 cX12_search 6 "search" { frames := 2, cells := 0, slots := 0, locals := 43 } (some .int) 0 0 _ g) => ?_)
  have hC := hR.cx
  show g 0 [some (vr (some (b + 0))), some (vi g0), some (vi kd), some (vi dv), some (vl lm), none] [] _ _ N 0 0
  refine G_aload_n 0 hC rfl dX12_search_0 ?_
  refine G_iconst 1 hC (nI 0) (by decide) dX12_search_1 ?_
  refine N_thr 2 hC hF h0 (fp_X12_96_11 _) dX12_search_2 ?_
  refine G_aload_n 5 hC rfl dX12_search_5 ?_
  refine G_iload_n 6 hC rfl dX12_search_6 ?_
  refine G_callV1 7 hC (n_isGrid hF hng hng2) okX12_isGrid lk_X12_122 ((hF.sh (o := 0) rfl (by decide)).1) rfl rfl rfl rfl (Nat.le_of_ble_eq_true rfl) (by decide) (by decide) dX12_search_7 ?_
  first | refine G_if_eq_b 10 39 hC dX12_search_10 (by decide) (fun h10 => ?_) (fun h10 => ?_) | refine G_if_eq 10 39 hC dX12_search_10 (by decide) (fun h10 => ?_) (fun h10 => ?_)
  · refine G_iconst 39 hC (-1) (by decide) dX12_search_39 ?_
    refine R_i 40 hR (by first | rfl | exact narrow_bI _) dX12_search_40 (Nat.le_refl _) (Nat.le_refl _) ?_
    exact ⟨rfl, rfl, rfl, rfl⟩
  · refine G_iload_n 13 hC rfl dX12_search_13 ?_
    refine G_iconst 14 hC (nI 0) (by decide) dX12_search_14 ?_
    refine G_iconst 15 hC (nI 5) (by decide) dX12_search_15 ?_
    refine G_callS1 16 hC (ref_in) okX12_in lk_X12_107 rfl rfl rfl (Nat.le_of_ble_eq_true rfl) (by decide) (by decide) dX12_search_16 ?_
    first | refine G_if_eq_b 19 39 hC dX12_search_19 (by decide) (fun h19 => ?_) (fun h19 => ?_) | refine G_if_eq 19 39 hC dX12_search_19 (by decide) (fun h19 => ?_) (fun h19 => ?_)
    · refine G_iconst 39 hC (-1) (by decide) dX12_search_39 ?_
      refine R_i 40 hR (by first | rfl | exact narrow_bI _) dX12_search_40 (Nat.le_refl _) (Nat.le_refl _) ?_
      exact ⟨rfl, rfl, rfl, rfl⟩
    · refine G_iload_n 22 hC rfl dX12_search_22 ?_
      refine G_iconst 23 hC (nI 0) (by decide) dX12_search_23 ?_
      refine G_bipush 24 hC (nI 100) (by decide) dX12_search_24 ?_
      refine G_callS1 26 hC (ref_in) okX12_in lk_X12_107 rfl rfl rfl (Nat.le_of_ble_eq_true rfl) (by decide) (by decide) dX12_search_26 ?_
      first | refine G_if_eq_b 29 39 hC dX12_search_29 (by decide) (fun h29 => ?_) (fun h29 => ?_) | refine G_if_eq 29 39 hC dX12_search_29 (by decide) (fun h29 => ?_) (fun h29 => ?_)
      · refine G_iconst 39 hC (-1) (by decide) dX12_search_39 ?_
        refine R_i 40 hR (by first | rfl | exact narrow_bI _) dX12_search_40 (Nat.le_refl _) (Nat.le_refl _) ?_
        exact ⟨rfl, rfl, rfl, rfl⟩
      · refine G_lload 32 hC rfl dX12_search_32 ?_
        refine G_lconst 34 hC 0 (by decide) dX12_search_34 ?_
        refine G_lcmp 35 hC dX12_search_35 ?_
        refine G_if_ge 36 41 hC dX12_search_36 (by decide) (fun h36 => ?_) (fun h36 => ?_)
        · exact absurd ⟨h10, h19, h29, fun y => absurd h36 (Int32.not_le.mpr ((lg_cmp_lt _ _).mpr y))⟩ hb
        · refine G_iconst 39 hC (-1) (by decide) dX12_search_39 ?_
          refine R_i 40 hR (by first | rfl | exact narrow_bI _) dX12_search_40 (Nat.le_refl _) (Nat.le_refl _) ?_
          exact ⟨rfl, rfl, rfl, rfl⟩
theorem n_search_state (hF : FixR b N) (h0 : r 0 0 = nI 0) {nt ng ns : Nat} {g0 kd dv : Int32} {lm : Int64} (hnt : r 0 10 = nI nt) (hng : r 0 3 = nI ng) (hng2 : ng ≤ 6) (hns : r 0 20 = nI ns) (hns2 : ns ≤ 8) (hok : (inR g0 ng ∧ (nI 0 ≤ kd ∧ kd ≤ nI 5) ∧ (nI 0 ≤ dv ∧ dv ≤ nI 100) ∧ ¬ lm < 0)) (hst : n 246 = 1) : Cq l D B mX12_search [vr (some (b + 0)), vi g0, vi kd, vi dv, vl lm] (RI b r n G) (RLg b rl S q GL) N (some (vi (-2))) (RI b r n G) (RLg b rl S q GL) := by
  refine Ct.of (M := mX12_search) (by decide) (Nat.le_of_ble_eq_true rfl) (fun g (hR : Cr l D B RX12 cX12_search 6 "search" { frames := 2, cells := 0, slots := 0, locals := 43 } (some .int) 0 0 _ g) => ?_)
  have hC := hR.cx
  show g 0 [some (vr (some (b + 0))), some (vi g0), some (vi kd), some (vi dv), some (vl lm), none] [] _ _ N 0 0
  refine G_aload_n 0 hC rfl dX12_search_0 ?_
  refine G_iconst 1 hC (nI 0) (by decide) dX12_search_1 ?_
  refine N_thr 2 hC hF h0 (fp_X12_96_11 _) dX12_search_2 ?_
  refine G_aload_n 5 hC rfl dX12_search_5 ?_
  refine G_iload_n 6 hC rfl dX12_search_6 ?_
  refine G_callV1 7 hC (n_isGrid hF hng hng2) okX12_isGrid lk_X12_122 ((hF.sh (o := 0) rfl (by decide)).1) rfl rfl rfl rfl (Nat.le_of_ble_eq_true rfl) (by decide) (by decide) dX12_search_7 ?_
  first | refine G_if_eq_b 10 39 hC dX12_search_10 (by decide) (fun h10 => ?_) (fun h10 => ?_) | refine G_if_eq 10 39 hC dX12_search_10 (by decide) (fun h10 => ?_) (fun h10 => ?_)
  · exact absurd hok.1 h10
  · refine G_iload_n 13 hC rfl dX12_search_13 ?_
    refine G_iconst 14 hC (nI 0) (by decide) dX12_search_14 ?_
    refine G_iconst 15 hC (nI 5) (by decide) dX12_search_15 ?_
    refine G_callS1 16 hC (ref_in) okX12_in lk_X12_107 rfl rfl rfl (Nat.le_of_ble_eq_true rfl) (by decide) (by decide) dX12_search_16 ?_
    first | refine G_if_eq_b 19 39 hC dX12_search_19 (by decide) (fun h19 => ?_) (fun h19 => ?_) | refine G_if_eq 19 39 hC dX12_search_19 (by decide) (fun h19 => ?_) (fun h19 => ?_)
    · exact absurd hok.2.1 h19
    · refine G_iload_n 22 hC rfl dX12_search_22 ?_
      refine G_iconst 23 hC (nI 0) (by decide) dX12_search_23 ?_
      refine G_bipush 24 hC (nI 100) (by decide) dX12_search_24 ?_
      refine G_callS1 26 hC (ref_in) okX12_in lk_X12_107 rfl rfl rfl (Nat.le_of_ble_eq_true rfl) (by decide) (by decide) dX12_search_26 ?_
      first | refine G_if_eq_b 29 39 hC dX12_search_29 (by decide) (fun h29 => ?_) (fun h29 => ?_) | refine G_if_eq 29 39 hC dX12_search_29 (by decide) (fun h29 => ?_) (fun h29 => ?_)
      · exact absurd hok.2.2.1 h29
      · refine G_lload 32 hC rfl dX12_search_32 ?_
        refine G_lconst 34 hC 0 (by decide) dX12_search_34 ?_
        refine G_lcmp 35 hC dX12_search_35 ?_
        refine G_if_ge 36 41 hC dX12_search_36 (by decide) (fun h36 => ?_) (fun h36 => ?_)
        · refine G_aload_n 41 hC rfl dX12_search_41 ?_
          refine G_callV1 42 hC (n_isOpen hF) okX12_isOpen lk_X12_114 ((hF.sh (o := 0) rfl (by decide)).1) rfl rfl rfl rfl (Nat.le_of_ble_eq_true rfl) (by decide) (by decide) dX12_search_42 ?_
          first | refine G_if_eq_b 45 51 hC dX12_search_45 (by decide) (fun h45 => ?_) (fun h45 => ?_) | refine G_if_eq 45 51 hC dX12_search_45 (by decide) (fun h45 => ?_) (fun h45 => ?_)
          · exact absurd hst h45
          · refine G_bipush 48 hC (-2) (by decide) dX12_search_48 ?_
            refine R_i 50 hR (by first | rfl | exact narrow_bI _) dX12_search_50 (Nat.le_refl _) (Nat.le_refl _) ?_
            exact ⟨rfl, rfl, rfl, rfl⟩
        · exact absurd ((lg_cmp_lt _ _).mp (Int32.not_le.mp h36)) hok.2.2.2
theorem n_search_full (hF : FixR b N) (h0 : r 0 0 = nI 0) {nt ng ns : Nat} {g0 kd dv : Int32} {lm : Int64} (hnt : r 0 10 = nI nt) (hng : r 0 3 = nI ng) (hng2 : ng ≤ 6) (hns : r 0 20 = nI ns) (hns2 : ns ≤ 8) (hok : (inR g0 ng ∧ (nI 0 ≤ kd ∧ kd ≤ nI 5) ∧ (nI 0 ≤ dv ∧ dv ≤ nI 100) ∧ ¬ lm < 0)) (hst : ¬ n 246 = 1) (hfu : r 0 20 = nI 8) : Cq l D B mX12_search [vr (some (b + 0)), vi g0, vi kd, vi dv, vl lm] (RI b r n G) (RLg b rl S q GL) N (some (vi (-3))) (RI b r n G) (RLg b rl S q GL) := by
  refine Ct.of (M := mX12_search) (by decide) (Nat.le_of_ble_eq_true rfl) (fun g (hR : Cr l D B RX12 cX12_search 6 "search" { frames := 2, cells := 0, slots := 0, locals := 43 } (some .int) 0 0 _ g) => ?_)
  have hC := hR.cx
  show g 0 [some (vr (some (b + 0))), some (vi g0), some (vi kd), some (vi dv), some (vl lm), none] [] _ _ N 0 0
  refine G_aload_n 0 hC rfl dX12_search_0 ?_
  refine G_iconst 1 hC (nI 0) (by decide) dX12_search_1 ?_
  refine N_thr 2 hC hF h0 (fp_X12_96_11 _) dX12_search_2 ?_
  refine G_aload_n 5 hC rfl dX12_search_5 ?_
  refine G_iload_n 6 hC rfl dX12_search_6 ?_
  refine G_callV1 7 hC (n_isGrid hF hng hng2) okX12_isGrid lk_X12_122 ((hF.sh (o := 0) rfl (by decide)).1) rfl rfl rfl rfl (Nat.le_of_ble_eq_true rfl) (by decide) (by decide) dX12_search_7 ?_
  first | refine G_if_eq_b 10 39 hC dX12_search_10 (by decide) (fun h10 => ?_) (fun h10 => ?_) | refine G_if_eq 10 39 hC dX12_search_10 (by decide) (fun h10 => ?_) (fun h10 => ?_)
  · exact absurd hok.1 h10
  · refine G_iload_n 13 hC rfl dX12_search_13 ?_
    refine G_iconst 14 hC (nI 0) (by decide) dX12_search_14 ?_
    refine G_iconst 15 hC (nI 5) (by decide) dX12_search_15 ?_
    refine G_callS1 16 hC (ref_in) okX12_in lk_X12_107 rfl rfl rfl (Nat.le_of_ble_eq_true rfl) (by decide) (by decide) dX12_search_16 ?_
    first | refine G_if_eq_b 19 39 hC dX12_search_19 (by decide) (fun h19 => ?_) (fun h19 => ?_) | refine G_if_eq 19 39 hC dX12_search_19 (by decide) (fun h19 => ?_) (fun h19 => ?_)
    · exact absurd hok.2.1 h19
    · refine G_iload_n 22 hC rfl dX12_search_22 ?_
      refine G_iconst 23 hC (nI 0) (by decide) dX12_search_23 ?_
      refine G_bipush 24 hC (nI 100) (by decide) dX12_search_24 ?_
      refine G_callS1 26 hC (ref_in) okX12_in lk_X12_107 rfl rfl rfl (Nat.le_of_ble_eq_true rfl) (by decide) (by decide) dX12_search_26 ?_
      first | refine G_if_eq_b 29 39 hC dX12_search_29 (by decide) (fun h29 => ?_) (fun h29 => ?_) | refine G_if_eq 29 39 hC dX12_search_29 (by decide) (fun h29 => ?_) (fun h29 => ?_)
      · exact absurd hok.2.2.1 h29
      · refine G_lload 32 hC rfl dX12_search_32 ?_
        refine G_lconst 34 hC 0 (by decide) dX12_search_34 ?_
        refine G_lcmp 35 hC dX12_search_35 ?_
        refine G_if_ge 36 41 hC dX12_search_36 (by decide) (fun h36 => ?_) (fun h36 => ?_)
        · refine G_aload_n 41 hC rfl dX12_search_41 ?_
          refine G_callV1 42 hC (n_isOpen hF) okX12_isOpen lk_X12_114 ((hF.sh (o := 0) rfl (by decide)).1) rfl rfl rfl rfl (Nat.le_of_ble_eq_true rfl) (by decide) (by decide) dX12_search_42 ?_
          first | refine G_if_eq_b 45 51 hC dX12_search_45 (by decide) (fun h45 => ?_) (fun h45 => ?_) | refine G_if_eq 45 51 hC dX12_search_45 (by decide) (fun h45 => ?_) (fun h45 => ?_)
          · refine G_aload_n 51 hC rfl dX12_search_51 ?_
            refine N_getI 52 hC hF fl_X12_148_11 rfl dX12_search_52 ?_
            refine G_bipush 55 hC (nI 8) (by decide) dX12_search_55 ?_
            refine G_icmp_ne 57 63 hC dX12_search_57 (by decide) (fun h57 => ?_) (fun h57 => ?_)
            · exact absurd hfu h57
            · refine G_bipush 60 hC (-3) (by decide) dX12_search_60 ?_
              refine R_i 62 hR (by first | rfl | exact narrow_bI _) dX12_search_62 (Nat.le_refl _) (Nat.le_refl _) ?_
              exact ⟨rfl, rfl, rfl, rfl⟩
          · exact absurd h45 hst
        · exact absurd ((lg_cmp_lt _ _).mp (Int32.not_le.mp h36)) hok.2.2.2
theorem n_search_ok (hF : FixR b N) (h0 : r 0 0 = nI 0) {nt ng ns : Nat} {g0 kd dv : Int32} {lm : Int64} (hnt : r 0 10 = nI nt) (hng : r 0 3 = nI ng) (hng2 : ng ≤ 6) (hns : r 0 20 = nI ns) (hns2 : ns ≤ 8) (hok : (inR g0 ng ∧ (nI 0 ≤ kd ∧ kd ≤ nI 5) ∧ (nI 0 ≤ dv ∧ dv ≤ nI 100) ∧ ¬ lm < 0)) (hst : ¬ n 246 = 1) (hns3 : ns < 8) : Cq l D B mX12_search [vr (some (b + 0)), vi g0, vi kd, vi dv, vl lm] (RI b r n G) (RLg b rl S q GL) N (some (vi (nI ns))) (RI b (upd2 (upd2 (upd2 (upd2 r 15 ns g0) 16 ns kd) 17 ns dv) 0 20 (nI (ns + 1))) n G) (RLg b (upd2 rl 18 ns lm) S (up q (28 + ns) lm) GL) := by
  refine Ct.of (M := mX12_search) (by decide) (Nat.le_of_ble_eq_true rfl) (fun g (hR : Cr l D B RX12 cX12_search 6 "search" { frames := 2, cells := 0, slots := 0, locals := 43 } (some .int) 0 0 _ g) => ?_)
  have hC := hR.cx
  show g 0 [some (vr (some (b + 0))), some (vi g0), some (vi kd), some (vi dv), some (vl lm), none] [] _ _ N 0 0
  refine G_aload_n 0 hC rfl dX12_search_0 ?_
  refine G_iconst 1 hC (nI 0) (by decide) dX12_search_1 ?_
  refine N_thr 2 hC hF h0 (fp_X12_96_11 _) dX12_search_2 ?_
  refine G_aload_n 5 hC rfl dX12_search_5 ?_
  refine G_iload_n 6 hC rfl dX12_search_6 ?_
  refine G_callV1 7 hC (n_isGrid hF hng hng2) okX12_isGrid lk_X12_122 ((hF.sh (o := 0) rfl (by decide)).1) rfl rfl rfl rfl (Nat.le_of_ble_eq_true rfl) (by decide) (by decide) dX12_search_7 ?_
  first | refine G_if_eq_b 10 39 hC dX12_search_10 (by decide) (fun h10 => ?_) (fun h10 => ?_) | refine G_if_eq 10 39 hC dX12_search_10 (by decide) (fun h10 => ?_) (fun h10 => ?_)
  · exact absurd hok.1 h10
  · refine G_iload_n 13 hC rfl dX12_search_13 ?_
    refine G_iconst 14 hC (nI 0) (by decide) dX12_search_14 ?_
    refine G_iconst 15 hC (nI 5) (by decide) dX12_search_15 ?_
    refine G_callS1 16 hC (ref_in) okX12_in lk_X12_107 rfl rfl rfl (Nat.le_of_ble_eq_true rfl) (by decide) (by decide) dX12_search_16 ?_
    first | refine G_if_eq_b 19 39 hC dX12_search_19 (by decide) (fun h19 => ?_) (fun h19 => ?_) | refine G_if_eq 19 39 hC dX12_search_19 (by decide) (fun h19 => ?_) (fun h19 => ?_)
    · exact absurd hok.2.1 h19
    · refine G_iload_n 22 hC rfl dX12_search_22 ?_
      refine G_iconst 23 hC (nI 0) (by decide) dX12_search_23 ?_
      refine G_bipush 24 hC (nI 100) (by decide) dX12_search_24 ?_
      refine G_callS1 26 hC (ref_in) okX12_in lk_X12_107 rfl rfl rfl (Nat.le_of_ble_eq_true rfl) (by decide) (by decide) dX12_search_26 ?_
      first | refine G_if_eq_b 29 39 hC dX12_search_29 (by decide) (fun h29 => ?_) (fun h29 => ?_) | refine G_if_eq 29 39 hC dX12_search_29 (by decide) (fun h29 => ?_) (fun h29 => ?_)
      · exact absurd hok.2.2.1 h29
      · refine G_lload 32 hC rfl dX12_search_32 ?_
        refine G_lconst 34 hC 0 (by decide) dX12_search_34 ?_
        refine G_lcmp 35 hC dX12_search_35 ?_
        refine G_if_ge 36 41 hC dX12_search_36 (by decide) (fun h36 => ?_) (fun h36 => ?_)
        · refine G_aload_n 41 hC rfl dX12_search_41 ?_
          refine G_callV1 42 hC (n_isOpen hF) okX12_isOpen lk_X12_114 ((hF.sh (o := 0) rfl (by decide)).1) rfl rfl rfl rfl (Nat.le_of_ble_eq_true rfl) (by decide) (by decide) dX12_search_42 ?_
          first | refine G_if_eq_b 45 51 hC dX12_search_45 (by decide) (fun h45 => ?_) (fun h45 => ?_) | refine G_if_eq 45 51 hC dX12_search_45 (by decide) (fun h45 => ?_) (fun h45 => ?_)
          · refine G_aload_n 51 hC rfl dX12_search_51 ?_
            refine N_getI 52 hC hF fl_X12_148_11 rfl dX12_search_52 ?_
            refine G_bipush 55 hC (nI 8) (by decide) dX12_search_55 ?_
            refine G_icmp_ne 57 63 hC dX12_search_57 (by decide) (fun h57 => ?_) (fun h57 => ?_)
            · refine G_aload_n 63 hC rfl dX12_search_63 ?_
              refine M_getR 64 hC hF fl_X12_53_11 rfl rfl dX12_search_64 ?_
              refine G_aload_n 67 hC rfl dX12_search_67 ?_
              refine N_getI 68 hC hF fl_X12_148_11 rfl dX12_search_68 ?_
              refine G_iload_n 71 hC rfl dX12_search_71 ?_
              refine N_iastO 72 hC hF rfl (by decide) (by decide) (hns) (by omega) dX12_search_72 ?_
              refine G_aload_n 73 hC rfl dX12_search_73 ?_
              refine M_getR 74 hC hF fl_X12_56_11 rfl rfl dX12_search_74 ?_
              refine G_aload_n 77 hC rfl dX12_search_77 ?_
              refine N_getI 78 hC hF fl_X12_148_11 rfl dX12_search_78 ?_
              refine G_iload_n 81 hC rfl dX12_search_81 ?_
              refine N_iastO 82 hC hF rfl (by decide) (by decide) (hns) (by omega) dX12_search_82 ?_
              refine G_aload_n 83 hC rfl dX12_search_83 ?_
              refine M_getR 84 hC hF fl_X12_59_11 rfl rfl dX12_search_84 ?_
              refine G_aload_n 87 hC rfl dX12_search_87 ?_
              refine N_getI 88 hC hF fl_X12_148_11 rfl dX12_search_88 ?_
              refine G_iload_n 91 hC rfl dX12_search_91 ?_
              refine N_iastO 92 hC hF rfl (by decide) (by decide) (hns) (by omega) dX12_search_92 ?_
              refine G_aload_n 93 hC rfl dX12_search_93 ?_
              refine M_getR 94 hC hF fl_X12_62_11 rfl rfl dX12_search_94 ?_
              refine G_aload_n 97 hC rfl dX12_search_97 ?_
              refine N_getI 98 hC hF fl_X12_148_11 rfl dX12_search_98 ?_
              refine G_lload 101 hC rfl dX12_search_101 ?_
              refine Q_lastO 103 hC hF rfl (by decide) (by decide) (by decide) (hns) (by omega) dX12_search_103 ?_
              refine G_aload_n 104 hC rfl dX12_search_104 ?_
              refine M_getR 105 hC hF fl_X12_74_11 rfl rfl dX12_search_105 ?_
              refine G_bipush 108 hC (nI 28) (by decide) dX12_search_108 ?_
              refine G_aload_n 110 hC rfl dX12_search_110 ?_
              refine N_getI 111 hC hF fl_X12_148_11 rfl dX12_search_111 ?_
              refine G_iadd 114 hC dX12_search_114 ?_
              refine G_lload 115 hC rfl dX12_search_115 ?_
              refine Q_last 117 hC hF (by rw [show upd2 (upd2 (upd2 r 15 ns g0) 16 ns kd) 17 ns dv 0 20 = nI ns from hns, nI_add]) (by omega) dX12_search_117 ?_
              refine G_aload_n 118 hC rfl dX12_search_118 ?_
              refine G_dup 119 hC rfl dX12_search_119 ?_
              refine N_getI 120 hC hF fl_X12_148_11 rfl dX12_search_120 ?_
              refine G_iconst 123 hC (nI 1) (by decide) dX12_search_123 ?_
              refine G_iadd 124 hC dX12_search_124 ?_
              refine N_putI 125 hC hF (fp_X12_148_11 _) rfl dX12_search_125 ?_
              refine G_aload_n 128 hC rfl dX12_search_128 ?_
              refine N_getI 129 hC hF fl_X12_148_11 rfl dX12_search_129 ?_
              refine G_iconst 132 hC (nI 1) (by decide) dX12_search_132 ?_
              refine G_isub 133 hC dX12_search_133 ?_
              refine R_i 134 hR (by first | rfl | exact narrow_bI _) dX12_search_134 (Nat.le_refl _) (Nat.le_refl _) ?_
              have e : upd2 (upd2 (upd2 r 15 ns g0) 16 ns kd) 17 ns dv 0 20 = nI ns := hns
              refine ⟨?_, ?_, rfl, rfl⟩
              · show some (vi (upd2 (upd2 (upd2 (upd2 r 15 ns g0) 16 ns kd) 17 ns dv) 0 20 _ 0 20 - nI 1)) = _
                rw [upd2_row, up_s, e, nI_add, pk_sub (by omega)]
                rfl
              · rw [e, nI_add]
            · exact absurd (nI_eq_of (hns.symm.trans h57) (by omega) (by omega)) (by omega)
          · exact absurd h45 hst
        · exact absurd ((lg_cmp_lt _ _).mp (Int32.not_le.mp h36)) hok.2.2.2
theorem n_share_bad (hF : FixR b N) (h0 : r 0 0 = nI 0) {nt ng ns : Nat} {s0 fr to nd bd : Int32} (hnt : r 0 10 = nI nt) (hng : r 0 3 = nI ng) (hng2 : ng ≤ 6) (hns : r 0 20 = nI ns) (hns2 : ns ≤ 8) (hb : ¬ (inR s0 ns ∧ ¬ fr < 0 ∧ ¬ to < fr ∧ ¬ nI 20 < to ∧ NbOk r nd bd)) : Cq l D B mX12_share [vr (some (b + 0)), vi s0, vi fr, vi to, vi nd, vi bd] (RI b r n G) (RLg b rl S q GL) N (some (vi (-1))) (RI b r n G) (RLg b rl S q GL) := by
  refine Ct.of (M := mX12_share) (by decide) (Nat.le_of_ble_eq_true rfl) (fun g (hR : Cr l D B RX12 cX12_share 6 "share" { frames := 2, cells := 0, slots := 0, locals := 44 } (some .int) 0 0 _ g) => ?_)
  have hC := hR.cx
  show g 0 [some (vr (some (b + 0))), some (vi s0), some (vi fr), some (vi to), some (vi nd), some (vi bd)] [] _ _ N 0 0
  refine G_aload_n 0 hC rfl dX12_share_0 ?_
  refine G_iconst 1 hC (nI 0) (by decide) dX12_share_1 ?_
  refine N_thr 2 hC hF h0 (fp_X12_96_11 _) dX12_share_2 ?_
  refine G_iload_n 5 hC rfl dX12_share_5 ?_
  refine G_iconst 6 hC (nI 0) (by decide) dX12_share_6 ?_
  refine G_aload_n 7 hC rfl dX12_share_7 ?_
  refine N_getI 8 hC hF fl_X12_148_11 rfl dX12_share_8 ?_
  refine G_iconst 11 hC (nI 1) (by decide) dX12_share_11 ?_
  refine G_isub 12 hC dX12_share_12 ?_
  refine G_callS1 13 hC (ref_in) okX12_in lk_X12_107 rfl rfl rfl (Nat.le_of_ble_eq_true rfl) (by decide) (by decide) dX12_share_13 ?_
  first | refine G_if_eq_b 16 45 hC dX12_share_16 (by decide) (fun h16 => ?_) (fun h16 => ?_) | refine G_if_eq 16 45 hC dX12_share_16 (by decide) (fun h16 => ?_) (fun h16 => ?_)
  · refine G_iconst 45 hC (-1) (by decide) dX12_share_45 ?_
    refine R_i 46 hR (by first | rfl | exact narrow_bI _) dX12_share_46 (Nat.le_refl _) (Nat.le_refl _) ?_
    exact ⟨rfl, rfl, rfl, rfl⟩
  · refine G_iload_n 19 hC rfl dX12_share_19 ?_
    refine G_if_lt 20 45 hC dX12_share_20 (by decide) (fun h20 => ?_) (fun h20 => ?_)
    · refine G_iconst 45 hC (-1) (by decide) dX12_share_45 ?_
      refine R_i 46 hR (by first | rfl | exact narrow_bI _) dX12_share_46 (Nat.le_refl _) (Nat.le_refl _) ?_
      exact ⟨rfl, rfl, rfl, rfl⟩
    · refine G_iload_n 23 hC rfl dX12_share_23 ?_
      refine G_iload_n 24 hC rfl dX12_share_24 ?_
      refine G_icmp_gt 25 45 hC dX12_share_25 (by decide) (fun h25 => ?_) (fun h25 => ?_)
      · refine G_iconst 45 hC (-1) (by decide) dX12_share_45 ?_
        refine R_i 46 hR (by first | rfl | exact narrow_bI _) dX12_share_46 (Nat.le_refl _) (Nat.le_refl _) ?_
        exact ⟨rfl, rfl, rfl, rfl⟩
      · refine G_iload_n 28 hC rfl dX12_share_28 ?_
        refine G_bipush 29 hC (nI 20) (by decide) dX12_share_29 ?_
        refine G_icmp_gt 31 45 hC dX12_share_31 (by decide) (fun h31 => ?_) (fun h31 => ?_)
        · refine G_iconst 45 hC (-1) (by decide) dX12_share_45 ?_
          refine R_i 46 hR (by first | rfl | exact narrow_bI _) dX12_share_46 (Nat.le_refl _) (Nat.le_refl _) ?_
          exact ⟨rfl, rfl, rfl, rfl⟩
        · refine G_aload_n 34 hC rfl dX12_share_34 ?_
          refine G_iload 35 hC rfl dX12_share_35 ?_
          refine G_iload 37 hC rfl dX12_share_37 ?_
          refine G_callV1 39 hC (n_mayNeed hF) okX12_mayNeed lk_X12_142 ((hF.sh (o := 0) rfl (by decide)).1) rfl rfl rfl rfl (Nat.le_of_ble_eq_true rfl) (by decide) (by decide) dX12_share_39 ?_
          first | refine G_if_ne_b 42 47 hC dX12_share_42 (by decide) (fun h42 => ?_) (fun h42 => ?_) | refine G_if_ne 42 47 hC dX12_share_42 (by decide) (fun h42 => ?_) (fun h42 => ?_)
          · exact absurd ⟨(in_inR (by omega)).mp (hns ▸ h16), h20, h25, h31, h42⟩ hb
          · refine G_iconst 45 hC (-1) (by decide) dX12_share_45 ?_
            refine R_i 46 hR (by first | rfl | exact narrow_bI _) dX12_share_46 (Nat.le_refl _) (Nat.le_refl _) ?_
            exact ⟨rfl, rfl, rfl, rfl⟩
theorem n_share_state (hF : FixR b N) (h0 : r 0 0 = nI 0) {nt ng ns : Nat} {s0 fr to nd bd : Int32} (hnt : r 0 10 = nI nt) (hng : r 0 3 = nI ng) (hng2 : ng ≤ 6) (hns : r 0 20 = nI ns) (hns2 : ns ≤ 8) (hok : (inR s0 ns ∧ ¬ fr < 0 ∧ ¬ to < fr ∧ ¬ nI 20 < to ∧ NbOk r nd bd)) (hst : n 246 = 1) : Cq l D B mX12_share [vr (some (b + 0)), vi s0, vi fr, vi to, vi nd, vi bd] (RI b r n G) (RLg b rl S q GL) N (some (vi (-2))) (RI b r n G) (RLg b rl S q GL) := by
  refine Ct.of (M := mX12_share) (by decide) (Nat.le_of_ble_eq_true rfl) (fun g (hR : Cr l D B RX12 cX12_share 6 "share" { frames := 2, cells := 0, slots := 0, locals := 44 } (some .int) 0 0 _ g) => ?_)
  have hC := hR.cx
  show g 0 [some (vr (some (b + 0))), some (vi s0), some (vi fr), some (vi to), some (vi nd), some (vi bd)] [] _ _ N 0 0
  refine G_aload_n 0 hC rfl dX12_share_0 ?_
  refine G_iconst 1 hC (nI 0) (by decide) dX12_share_1 ?_
  refine N_thr 2 hC hF h0 (fp_X12_96_11 _) dX12_share_2 ?_
  refine G_iload_n 5 hC rfl dX12_share_5 ?_
  refine G_iconst 6 hC (nI 0) (by decide) dX12_share_6 ?_
  refine G_aload_n 7 hC rfl dX12_share_7 ?_
  refine N_getI 8 hC hF fl_X12_148_11 rfl dX12_share_8 ?_
  refine G_iconst 11 hC (nI 1) (by decide) dX12_share_11 ?_
  refine G_isub 12 hC dX12_share_12 ?_
  refine G_callS1 13 hC (ref_in) okX12_in lk_X12_107 rfl rfl rfl (Nat.le_of_ble_eq_true rfl) (by decide) (by decide) dX12_share_13 ?_
  first | refine G_if_eq_b 16 45 hC dX12_share_16 (by decide) (fun h16 => ?_) (fun h16 => ?_) | refine G_if_eq 16 45 hC dX12_share_16 (by decide) (fun h16 => ?_) (fun h16 => ?_)
  · exact absurd (hns.symm ▸ (in_inR (by omega)).mpr hok.1) h16
  · refine G_iload_n 19 hC rfl dX12_share_19 ?_
    refine G_if_lt 20 45 hC dX12_share_20 (by decide) (fun h20 => ?_) (fun h20 => ?_)
    · exact absurd h20 hok.2.1
    · refine G_iload_n 23 hC rfl dX12_share_23 ?_
      refine G_iload_n 24 hC rfl dX12_share_24 ?_
      refine G_icmp_gt 25 45 hC dX12_share_25 (by decide) (fun h25 => ?_) (fun h25 => ?_)
      · exact absurd h25 hok.2.2.1
      · refine G_iload_n 28 hC rfl dX12_share_28 ?_
        refine G_bipush 29 hC (nI 20) (by decide) dX12_share_29 ?_
        refine G_icmp_gt 31 45 hC dX12_share_31 (by decide) (fun h31 => ?_) (fun h31 => ?_)
        · exact absurd h31 hok.2.2.2.1
        · refine G_aload_n 34 hC rfl dX12_share_34 ?_
          refine G_iload 35 hC rfl dX12_share_35 ?_
          refine G_iload 37 hC rfl dX12_share_37 ?_
          refine G_callV1 39 hC (n_mayNeed hF) okX12_mayNeed lk_X12_142 ((hF.sh (o := 0) rfl (by decide)).1) rfl rfl rfl rfl (Nat.le_of_ble_eq_true rfl) (by decide) (by decide) dX12_share_39 ?_
          first | refine G_if_ne_b 42 47 hC dX12_share_42 (by decide) (fun h42 => ?_) (fun h42 => ?_) | refine G_if_ne 42 47 hC dX12_share_42 (by decide) (fun h42 => ?_) (fun h42 => ?_)
          · refine G_aload_n 47 hC rfl dX12_share_47 ?_
            refine G_callV1 48 hC (n_isOpen hF) okX12_isOpen lk_X12_114 ((hF.sh (o := 0) rfl (by decide)).1) rfl rfl rfl rfl (Nat.le_of_ble_eq_true rfl) (by decide) (by decide) dX12_share_48 ?_
            first | refine G_if_eq_b 51 57 hC dX12_share_51 (by decide) (fun h51 => ?_) (fun h51 => ?_) | refine G_if_eq 51 57 hC dX12_share_51 (by decide) (fun h51 => ?_) (fun h51 => ?_)
            · exact absurd hst h51
            · refine G_bipush 54 hC (-2) (by decide) dX12_share_54 ?_
              refine R_i 56 hR (by first | rfl | exact narrow_bI _) dX12_share_56 (Nat.le_refl _) (Nat.le_refl _) ?_
              exact ⟨rfl, rfl, rfl, rfl⟩
          · exact absurd hok.2.2.2.2 h42
theorem n_share_full (hF : FixR b N) (h0 : r 0 0 = nI 0) {nt ng ns : Nat} {s0 fr to nd bd : Int32} (hnt : r 0 10 = nI nt) (hng : r 0 3 = nI ng) (hng2 : ng ≤ 6) (hns : r 0 20 = nI ns) (hns2 : ns ≤ 8) (hok : (inR s0 ns ∧ ¬ fr < 0 ∧ ¬ to < fr ∧ ¬ nI 20 < to ∧ NbOk r nd bd)) (hst : ¬ n 246 = 1) (hfu : r 0 10 = nI 20) : Cq l D B mX12_share [vr (some (b + 0)), vi s0, vi fr, vi to, vi nd, vi bd] (RI b r n G) (RLg b rl S q GL) N (some (vi (-3))) (RI b r n G) (RLg b rl S q GL) := by
  refine Ct.of (M := mX12_share) (by decide) (Nat.le_of_ble_eq_true rfl) (fun g (hR : Cr l D B RX12 cX12_share 6 "share" { frames := 2, cells := 0, slots := 0, locals := 44 } (some .int) 0 0 _ g) => ?_)
  have hC := hR.cx
  show g 0 [some (vr (some (b + 0))), some (vi s0), some (vi fr), some (vi to), some (vi nd), some (vi bd)] [] _ _ N 0 0
  refine G_aload_n 0 hC rfl dX12_share_0 ?_
  refine G_iconst 1 hC (nI 0) (by decide) dX12_share_1 ?_
  refine N_thr 2 hC hF h0 (fp_X12_96_11 _) dX12_share_2 ?_
  refine G_iload_n 5 hC rfl dX12_share_5 ?_
  refine G_iconst 6 hC (nI 0) (by decide) dX12_share_6 ?_
  refine G_aload_n 7 hC rfl dX12_share_7 ?_
  refine N_getI 8 hC hF fl_X12_148_11 rfl dX12_share_8 ?_
  refine G_iconst 11 hC (nI 1) (by decide) dX12_share_11 ?_
  refine G_isub 12 hC dX12_share_12 ?_
  refine G_callS1 13 hC (ref_in) okX12_in lk_X12_107 rfl rfl rfl (Nat.le_of_ble_eq_true rfl) (by decide) (by decide) dX12_share_13 ?_
  first | refine G_if_eq_b 16 45 hC dX12_share_16 (by decide) (fun h16 => ?_) (fun h16 => ?_) | refine G_if_eq 16 45 hC dX12_share_16 (by decide) (fun h16 => ?_) (fun h16 => ?_)
  · exact absurd (hns.symm ▸ (in_inR (by omega)).mpr hok.1) h16
  · refine G_iload_n 19 hC rfl dX12_share_19 ?_
    refine G_if_lt 20 45 hC dX12_share_20 (by decide) (fun h20 => ?_) (fun h20 => ?_)
    · exact absurd h20 hok.2.1
    · refine G_iload_n 23 hC rfl dX12_share_23 ?_
      refine G_iload_n 24 hC rfl dX12_share_24 ?_
      refine G_icmp_gt 25 45 hC dX12_share_25 (by decide) (fun h25 => ?_) (fun h25 => ?_)
      · exact absurd h25 hok.2.2.1
      · refine G_iload_n 28 hC rfl dX12_share_28 ?_
        refine G_bipush 29 hC (nI 20) (by decide) dX12_share_29 ?_
        refine G_icmp_gt 31 45 hC dX12_share_31 (by decide) (fun h31 => ?_) (fun h31 => ?_)
        · exact absurd h31 hok.2.2.2.1
        · refine G_aload_n 34 hC rfl dX12_share_34 ?_
          refine G_iload 35 hC rfl dX12_share_35 ?_
          refine G_iload 37 hC rfl dX12_share_37 ?_
          refine G_callV1 39 hC (n_mayNeed hF) okX12_mayNeed lk_X12_142 ((hF.sh (o := 0) rfl (by decide)).1) rfl rfl rfl rfl (Nat.le_of_ble_eq_true rfl) (by decide) (by decide) dX12_share_39 ?_
          first | refine G_if_ne_b 42 47 hC dX12_share_42 (by decide) (fun h42 => ?_) (fun h42 => ?_) | refine G_if_ne 42 47 hC dX12_share_42 (by decide) (fun h42 => ?_) (fun h42 => ?_)
          · refine G_aload_n 47 hC rfl dX12_share_47 ?_
            refine G_callV1 48 hC (n_isOpen hF) okX12_isOpen lk_X12_114 ((hF.sh (o := 0) rfl (by decide)).1) rfl rfl rfl rfl (Nat.le_of_ble_eq_true rfl) (by decide) (by decide) dX12_share_48 ?_
            first | refine G_if_eq_b 51 57 hC dX12_share_51 (by decide) (fun h51 => ?_) (fun h51 => ?_) | refine G_if_eq 51 57 hC dX12_share_51 (by decide) (fun h51 => ?_) (fun h51 => ?_)
            · refine G_aload_n 57 hC rfl dX12_share_57 ?_
              refine N_getI 58 hC hF fl_X12_101_11 rfl dX12_share_58 ?_
              refine G_bipush 61 hC (nI 20) (by decide) dX12_share_61 ?_
              refine G_icmp_ne 63 69 hC dX12_share_63 (by decide) (fun h63 => ?_) (fun h63 => ?_)
              · exact absurd hfu h63
              · refine G_bipush 66 hC (-3) (by decide) dX12_share_66 ?_
                refine R_i 68 hR (by first | rfl | exact narrow_bI _) dX12_share_68 (Nat.le_refl _) (Nat.le_refl _) ?_
                exact ⟨rfl, rfl, rfl, rfl⟩
            · exact absurd h51 hst
          · exact absurd hok.2.2.2.2 h42
theorem n_share_ok (hF : FixR b N) (h0 : r 0 0 = nI 0) {nt ng ns : Nat} {s0 fr to nd bd : Int32} (hnt : r 0 10 = nI nt) (hng : r 0 3 = nI ng) (hng2 : ng ≤ 6) (hns : r 0 20 = nI ns) (hns2 : ns ≤ 8) (hok : (inR s0 ns ∧ ¬ fr < 0 ∧ ¬ to < fr ∧ ¬ nI 20 < to ∧ NbOk r nd bd)) (hst : ¬ n 246 = 1) (hnt2 : nt < 20) : Cq l D B mX12_share [vr (some (b + 0)), vi s0, vi fr, vi to, vi nd, vi bd] (RI b r n G) (RLg b rl S q GL) N (some (vi (nI nt))) (RI b (F_cm (upd2 (upd2 (upd2 r 12 nt s0) 13 nt fr) 14 nt to) nt (nI 4) nd bd) (F_cmN n) G) (RLg b rl S q GL) := by
  refine Ct.of (M := mX12_share) (by decide) (Nat.le_of_ble_eq_true rfl) (fun g (hR : Cr l D B RX12 cX12_share 6 "share" { frames := 2, cells := 0, slots := 0, locals := 44 } (some .int) 0 0 _ g) => ?_)
  have hC := hR.cx
  show g 0 [some (vr (some (b + 0))), some (vi s0), some (vi fr), some (vi to), some (vi nd), some (vi bd)] [] _ _ N 0 0
  refine G_aload_n 0 hC rfl dX12_share_0 ?_
  refine G_iconst 1 hC (nI 0) (by decide) dX12_share_1 ?_
  refine N_thr 2 hC hF h0 (fp_X12_96_11 _) dX12_share_2 ?_
  refine G_iload_n 5 hC rfl dX12_share_5 ?_
  refine G_iconst 6 hC (nI 0) (by decide) dX12_share_6 ?_
  refine G_aload_n 7 hC rfl dX12_share_7 ?_
  refine N_getI 8 hC hF fl_X12_148_11 rfl dX12_share_8 ?_
  refine G_iconst 11 hC (nI 1) (by decide) dX12_share_11 ?_
  refine G_isub 12 hC dX12_share_12 ?_
  refine G_callS1 13 hC (ref_in) okX12_in lk_X12_107 rfl rfl rfl (Nat.le_of_ble_eq_true rfl) (by decide) (by decide) dX12_share_13 ?_
  first | refine G_if_eq_b 16 45 hC dX12_share_16 (by decide) (fun h16 => ?_) (fun h16 => ?_) | refine G_if_eq 16 45 hC dX12_share_16 (by decide) (fun h16 => ?_) (fun h16 => ?_)
  · exact absurd (hns.symm ▸ (in_inR (by omega)).mpr hok.1) h16
  · refine G_iload_n 19 hC rfl dX12_share_19 ?_
    refine G_if_lt 20 45 hC dX12_share_20 (by decide) (fun h20 => ?_) (fun h20 => ?_)
    · exact absurd h20 hok.2.1
    · refine G_iload_n 23 hC rfl dX12_share_23 ?_
      refine G_iload_n 24 hC rfl dX12_share_24 ?_
      refine G_icmp_gt 25 45 hC dX12_share_25 (by decide) (fun h25 => ?_) (fun h25 => ?_)
      · exact absurd h25 hok.2.2.1
      · refine G_iload_n 28 hC rfl dX12_share_28 ?_
        refine G_bipush 29 hC (nI 20) (by decide) dX12_share_29 ?_
        refine G_icmp_gt 31 45 hC dX12_share_31 (by decide) (fun h31 => ?_) (fun h31 => ?_)
        · exact absurd h31 hok.2.2.2.1
        · refine G_aload_n 34 hC rfl dX12_share_34 ?_
          refine G_iload 35 hC rfl dX12_share_35 ?_
          refine G_iload 37 hC rfl dX12_share_37 ?_
          refine G_callV1 39 hC (n_mayNeed hF) okX12_mayNeed lk_X12_142 ((hF.sh (o := 0) rfl (by decide)).1) rfl rfl rfl rfl (Nat.le_of_ble_eq_true rfl) (by decide) (by decide) dX12_share_39 ?_
          first | refine G_if_ne_b 42 47 hC dX12_share_42 (by decide) (fun h42 => ?_) (fun h42 => ?_) | refine G_if_ne 42 47 hC dX12_share_42 (by decide) (fun h42 => ?_) (fun h42 => ?_)
          · refine G_aload_n 47 hC rfl dX12_share_47 ?_
            refine G_callV1 48 hC (n_isOpen hF) okX12_isOpen lk_X12_114 ((hF.sh (o := 0) rfl (by decide)).1) rfl rfl rfl rfl (Nat.le_of_ble_eq_true rfl) (by decide) (by decide) dX12_share_48 ?_
            first | refine G_if_eq_b 51 57 hC dX12_share_51 (by decide) (fun h51 => ?_) (fun h51 => ?_) | refine G_if_eq 51 57 hC dX12_share_51 (by decide) (fun h51 => ?_) (fun h51 => ?_)
            · refine G_aload_n 57 hC rfl dX12_share_57 ?_
              refine N_getI 58 hC hF fl_X12_101_11 rfl dX12_share_58 ?_
              refine G_bipush 61 hC (nI 20) (by decide) dX12_share_61 ?_
              refine G_icmp_ne 63 69 hC dX12_share_63 (by decide) (fun h63 => ?_) (fun h63 => ?_)
              · refine G_aload_n 69 hC rfl dX12_share_69 ?_
                refine M_getR 70 hC hF fl_X12_44_11 rfl rfl dX12_share_70 ?_
                refine G_aload_n 73 hC rfl dX12_share_73 ?_
                refine N_getI 74 hC hF fl_X12_101_11 rfl dX12_share_74 ?_
                refine G_iload_n 77 hC rfl dX12_share_77 ?_
                refine N_iastO 78 hC hF rfl (by decide) (by decide) (hnt) (by omega) dX12_share_78 ?_
                refine G_aload_n 79 hC rfl dX12_share_79 ?_
                refine M_getR 80 hC hF fl_X12_47_11 rfl rfl dX12_share_80 ?_
                refine G_aload_n 83 hC rfl dX12_share_83 ?_
                refine N_getI 84 hC hF fl_X12_101_11 rfl dX12_share_84 ?_
                refine G_iload_n 87 hC rfl dX12_share_87 ?_
                refine N_iastO 88 hC hF rfl (by decide) (by decide) (hnt) (by omega) dX12_share_88 ?_
                refine G_aload_n 89 hC rfl dX12_share_89 ?_
                refine M_getR 90 hC hF fl_X12_50_11 rfl rfl dX12_share_90 ?_
                refine G_aload_n 93 hC rfl dX12_share_93 ?_
                refine N_getI 94 hC hF fl_X12_101_11 rfl dX12_share_94 ?_
                refine G_iload_n 97 hC rfl dX12_share_97 ?_
                refine N_iastO 98 hC hF rfl (by decide) (by decide) (hnt) (by omega) dX12_share_98 ?_
                refine G_aload_n 99 hC rfl dX12_share_99 ?_
                refine G_iconst 100 hC (nI 4) (by decide) dX12_share_100 ?_
                refine G_iload 101 hC rfl dX12_share_101 ?_
                refine G_iload 103 hC rfl dX12_share_103 ?_
                refine G_callV1 105 hC (n_comes hF (nt := nt) hnt hnt2) okX12_comes lk_X12_145 ((hF.sh (o := 0) rfl (by decide)).1) rfl rfl rfl rfl (Nat.le_of_ble_eq_true rfl) (by decide) (by decide) dX12_share_105 ?_
                refine R_i 108 hR (by first | rfl | exact narrow_bI _) dX12_share_108 (Nat.le_refl _) (Nat.le_refl _) ?_
                exact ⟨rfl, rfl, rfl, rfl⟩
              · exact absurd (nI_eq_of (hnt.symm.trans h63) (by omega) (by omega)) (by omega)
            · exact absurd h51 hst
          · exact absurd hok.2.2.2.2 h42
end M17

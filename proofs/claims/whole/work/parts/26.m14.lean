/-! ===== close, equal ===== -/
section M14
variable {l : Launch} {D : va_G} {B b : Nat} {N : NT} {r G : MI} {rl GL : ML} {n n1 n2 n3 : Nat → Int32} {q q1 q2 : Nat → Int64} {S S1 S2 : Int64} {I : MI} {L L1 : ML}
theorem n_close_state (hF : FixR b N) (h0 : r 0 0 = nI 0) (hst : ¬ n 246 = 1) : Cq l D B mX12_close [vr (some (b + 0))] (RI b r n G) L N (some (vi (-2))) (RI b r n G) L := by
  refine Ct.of (M := mX12_close) (by decide) (Nat.le_of_ble_eq_true rfl) (fun g (hR : Cr l D B RX12 cX12_close 3 "close" { frames := 2, cells := 0, slots := 0, locals := 46 } (some .int) 0 0 _ g) => ?_)
  have hC := hR.cx
  show g 0 [some (vr (some (b + 0))), none, none] [] _ _ N 0 0
  refine G_aload_n 0 hC rfl dX12_close_0 ?_
  refine G_iconst 1 hC (nI 0) (by decide) dX12_close_1 ?_
  refine N_thr 2 hC hF h0 (fp_X12_96_11 _) dX12_close_2 ?_
  refine G_aload_n 5 hC rfl dX12_close_5 ?_
  refine G_callV1 6 hC (n_isOpen hF) okX12_isOpen lk_X12_114 ((hF.sh (o := 0) rfl (by decide)).1) rfl rfl rfl rfl (Nat.le_of_ble_eq_true rfl) (by decide) (by decide) dX12_close_6 ?_
  first | refine G_if_ne_b 9 15 hC dX12_close_9 (by decide) (fun h9 => ?_) (fun h9 => ?_) | refine G_if_ne 9 15 hC dX12_close_9 (by decide) (fun h9 => ?_) (fun h9 => ?_)
  · exact absurd h9 hst
  · refine G_bipush 12 hC (-2) (by decide) dX12_close_12 ?_
    refine R_i 14 hR (by first | rfl | exact narrow_bI _) dX12_close_14 (Nat.le_refl _) (Nat.le_refl _) ?_
    exact ⟨rfl, rfl, rfl, rfl⟩
theorem n_close (hF : FixR b N) (h0 : r 0 0 = nI 0) {nt nth : Nat} {nn pp : Nat → Nat → Int32} {mm m2 : Nat → Nat} (hnt : r 0 10 = nI nt) (hnt2 : nt ≤ 20) (hth : r 0 1 = nI nth) (hth2 : nth ≤ 6) (hst : n 246 = 1) (hn0 : nn 0 = n) (hm0 : mm 0 = 0) (hp0 : pp 0 = nn nth) (hm1 : m2 0 = mm nth)
    (hs1 : ∀ j, j < nth → (nn j (250 + (nth - j - 1)) = -9 ∧ nn (j + 1) = nn j ∧ mm (j + 1) = mm j) ∨ ∃ t k, t < 20 ∧ nn j (250 + (nth - j - 1)) = nI t ∧ nn j 244 = nI k ∧ k < 40 ∧ nn (j + 1) = F_ends r (nn j) t (nI 5) (nth - j - 1) k ∧ mm (j + 1) = mm j + 1)
    (hs2 : ∀ j, j < nt → (pp j (12 * j + 0) = 0 ∧ pp (j + 1) = F_falls (pp j) j (nI 5) ∧ m2 (j + 1) = m2 j + 1) ∨ (¬ pp j (12 * j + 0) = 0 ∧ pp (j + 1) = pp j ∧ m2 (j + 1) = m2 j)) : Cq l D B mX12_close [vr (some (b + 0))] (RI b r n G) L N (some (vi (nI (m2 nt)))) (RI b r (up (pp nt) 246 (nI 3)) G) L := by
  refine Ct.of (M := mX12_close) (by decide) (Nat.le_of_ble_eq_true rfl) (fun g (hR : Cr l D B RX12 cX12_close 3 "close" { frames := 2, cells := 0, slots := 0, locals := 46 } (some .int) 0 0 _ g) => ?_)
  have hC := hR.cx
  have loop2 : ∀ (k j : Nat), nt - j < k → j ≤ nt → g 70 [some (vr (some (b + 0))), some (vi (nI (m2 j))), some (vi (nI j))] [] (RI b r (pp j) G) L N 0 0 := by
    intro k
    induction k with
    | zero => intro j h1; omega
    | succ k ih =>
      intro j hk1 hj
      refine G_iload_n 70 hC rfl dX12_close_70 ?_
      refine G_aload_n 71 hC rfl dX12_close_71 ?_
      refine N_getI 72 hC hF fl_X12_101_11 rfl dX12_close_72 ?_
      rw [hnt]
      refine G_icmp_ge 75 102 hC dX12_close_75 (by decide) (fun h75 => ?_) (fun h75 => ?_)
      · refine G_aload_n 102 hC rfl dX12_close_102 ?_
        refine M_getR 103 hC hF fl_X12_68_11 rfl rfl dX12_close_103 ?_
        refine G_sipush 106 hC (nI 246) (by decide) dX12_close_106 ?_
        refine G_iconst 109 hC (nI 3) (by decide) dX12_close_109 ?_
        refine N_iast 110 hC hF rfl (by omega) dX12_close_110 ?_
        refine G_iload_n 111 hC rfl dX12_close_111 ?_
        refine R_i 112 hR (by first | rfl | exact narrow_bI _) dX12_close_112 (Nat.le_refl _) (Nat.le_refl _) ?_
        have ej : j = nt := by
          have z := (nI_leI (by omega) (by omega)).mp h75
          omega
        subst ej
        exact ⟨rfl, rfl, rfl, rfl⟩
      · have a75 : j < nt := by
          rcases Nat.lt_or_ge j nt with y | y
          · exact y
          · exact absurd ((nI_leI (by omega) (by omega)).mpr y) h75
        refine G_aload_n 78 hC rfl dX12_close_78 ?_
        refine G_iload_n 79 hC rfl dX12_close_79 ?_
        refine G_iconst 80 hC (nI 0) (by decide) dX12_close_80 ?_
        rcases hs2 j a75 with ⟨e1, e2, e3⟩ | ⟨e1, e2, e3⟩
        · refine G_callV1 81 hC (n_at hF (by omega) (by omega)) okX12_at lk_X12_173 ((hF.sh (o := 0) rfl (by decide)).1) rfl rfl rfl rfl (Nat.le_of_ble_eq_true rfl) (by decide) (by decide) dX12_close_81 ?_
          first | refine G_if_ne_b 84 96 hC dX12_close_84 (by decide) (fun h84 => ?_) (fun h84 => ?_) | refine G_if_ne 84 96 hC dX12_close_84 (by decide) (fun h84 => ?_) (fun h84 => ?_)
          · exact absurd e1 h84
          · refine G_aload_n 87 hC rfl dX12_close_87 ?_
            refine G_iload_n 88 hC rfl dX12_close_88 ?_
            refine G_iconst 89 hC (nI 5) (by decide) dX12_close_89 ?_
            refine G_callV0 90 hC (n_falls hF (by omega)) okX12_falls lk_X12_202 ((hF.sh (o := 0) rfl (by decide)).1) rfl rfl rfl rfl (Nat.le_of_ble_eq_true rfl) (by decide) (by decide) dX12_close_90 ?_
            first | refine G_iincN 93 hC (by decide) rfl (ls' := [_, _, _]) rfl dX12_close_93 ?_ | refine G_iinc 93 hC _ rfl (by decide) rfl (ls' := [_, _, _]) rfl dX12_close_93 ?_
            first | refine G_iincN 96 hC (by decide) rfl (ls' := [_, _, _]) rfl dX12_close_96 ?_ | refine G_iinc 96 hC _ rfl (by decide) rfl (ls' := [_, _, _]) rfl dX12_close_96 ?_
            refine G_goto 99 70 hC dX12_close_99 (by decide) ?_
            have y := ih (j + 1) (by omega) (by omega)
            rw [e2, e3] at y
            exact y
        · refine G_callV1 81 hC (n_at hF (by omega) (by omega)) okX12_at lk_X12_173 ((hF.sh (o := 0) rfl (by decide)).1) rfl rfl rfl rfl (Nat.le_of_ble_eq_true rfl) (by decide) (by decide) dX12_close_81 ?_
          first | refine G_if_ne_b 84 96 hC dX12_close_84 (by decide) (fun h84 => ?_) (fun h84 => ?_) | refine G_if_ne 84 96 hC dX12_close_84 (by decide) (fun h84 => ?_) (fun h84 => ?_)
          · first | refine G_iincN 96 hC (by decide) rfl (ls' := [_, _, _]) rfl dX12_close_96 ?_ | refine G_iinc 96 hC _ rfl (by decide) rfl (ls' := [_, _, _]) rfl dX12_close_96 ?_
            refine G_goto 99 70 hC dX12_close_99 (by decide) ?_
            have y := ih (j + 1) (by omega) (by omega)
            rw [e2, e3] at y
            exact y
          · exact absurd h84 e1
  have k1 : g 68 [some (vr (some (b + 0))), some (vi (nI (mm nth))), some (vi (nI (nth - nth) - nI 1))] [] (RI b r (nn nth) G) L N 0 0 := by
    refine G_iconst 68 hC (nI 0) (by decide) dX12_close_68 ?_
    refine G_istore_n 69 hC 2 rfl (by decide) (ls' := [_, _, _]) rfl dX12_close_69 ?_
    have y := loop2 _ 0 (Nat.lt_succ_self _) (Nat.zero_le _)
    rw [hp0, hm1] at y
    exact y
  have loop1 : ∀ (k j : Nat), nth - j < k → j ≤ nth → g 24 [some (vr (some (b + 0))), some (vi (nI (mm j))), some (vi (nI (nth - j) - nI 1))] [] (RI b r (nn j) G) L N 0 0 := by
    intro k
    induction k with
    | zero => intro j h1; omega
    | succ k ih =>
      intro j hk1 hj
      rcases Nat.lt_or_ge j nth with aj | aj
      · rw [show nI (nth - j) - nI 1 = nI (nth - j - 1) from pk_sub (by omega)]
        refine G_iload_n 24 hC rfl dX12_close_24 ?_
        refine G_if_lt 25 68 hC dX12_close_25 (by decide) (fun h25 => ?_) (fun h25 => ?_)
        · exact absurd h25 (nI_pos (by omega))
        · rcases hs1 j aj with ⟨e1, e2, e3⟩ | ⟨t, k0, ht, e1, hk, hk2, e2, e3⟩
          · refine G_aload_n 28 hC rfl dX12_close_28 ?_
            refine M_getR 29 hC hF fl_X12_68_11 rfl rfl dX12_close_29 ?_
            refine G_sipush 32 hC (nI 250) (by decide) dX12_close_32 ?_
            refine G_iload_n 35 hC rfl dX12_close_35 ?_
            refine G_iaddN 36 hC dX12_close_36 ?_
            refine N_iald 37 hC hF rfl (by omega) dX12_close_37 ?_
            refine G_bipush 38 hC (-9) (by decide) dX12_close_38 ?_
            refine G_icmp_eq 40 62 hC dX12_close_40 (by decide) (fun h40 => ?_) (fun h40 => ?_)
            · refine G_iinc 62 hC _ rfl (by decide) rfl (ls' := [_, _, _]) rfl dX12_close_62 ?_
              refine G_goto 65 24 hC dX12_close_65 (by decide) ?_
              rw [show nI (nth - j - 1) + Int32.ofInt (-1) = nI (nth - (j + 1)) - nI 1 by rw [show Int32.ofInt (-1) = -nI 1 from by decide, ← Int32.sub_eq_add_neg, Nat.sub_sub]]
              have y := ih (j + 1) (by omega) (by omega)
              rw [e2, e3] at y
              exact y
            · exact absurd e1 h40
          · refine G_aload_n 28 hC rfl dX12_close_28 ?_
            refine M_getR 29 hC hF fl_X12_68_11 rfl rfl dX12_close_29 ?_
            refine G_sipush 32 hC (nI 250) (by decide) dX12_close_32 ?_
            refine G_iload_n 35 hC rfl dX12_close_35 ?_
            refine G_iaddN 36 hC dX12_close_36 ?_
            refine N_iald 37 hC hF rfl (by omega) dX12_close_37 ?_
            rw [e1]
            refine G_bipush 38 hC (-9) (by decide) dX12_close_38 ?_
            refine G_icmp_eq 40 62 hC dX12_close_40 (by decide) (fun h40 => ?_) (fun h40 => ?_)
            · exact absurd h40 (nI_n9 (by omega))
            · refine G_aload_n 43 hC rfl dX12_close_43 ?_
              refine G_aload_n 44 hC rfl dX12_close_44 ?_
              refine M_getR 45 hC hF fl_X12_68_11 rfl rfl dX12_close_45 ?_
              refine G_sipush 48 hC (nI 250) (by decide) dX12_close_48 ?_
              refine G_iload_n 51 hC rfl dX12_close_51 ?_
              refine G_iaddN 52 hC dX12_close_52 ?_
              refine N_iald 53 hC hF rfl (by omega) dX12_close_53 ?_
              rw [e1]
              refine G_iconst 54 hC (nI 5) (by decide) dX12_close_54 ?_
              refine G_iload_n 55 hC rfl dX12_close_55 ?_
              refine G_callV0 56 hC (n_ends hF (k := k0) ht (by omega) hk hk2) okX12_ends lk_X12_211 ((hF.sh (o := 0) rfl (by decide)).1) rfl rfl rfl rfl (Nat.le_of_ble_eq_true rfl) (by decide) (by decide) dX12_close_56 ?_
              first | refine G_iincN 59 hC (by decide) rfl (ls' := [_, _, _]) rfl dX12_close_59 ?_ | refine G_iinc 59 hC _ rfl (by decide) rfl (ls' := [_, _, _]) rfl dX12_close_59 ?_
              refine G_iinc 62 hC _ rfl (by decide) rfl (ls' := [_, _, _]) rfl dX12_close_62 ?_
              refine G_goto 65 24 hC dX12_close_65 (by decide) ?_
              rw [show nI (nth - j - 1) + Int32.ofInt (-1) = nI (nth - (j + 1)) - nI 1 by rw [show Int32.ofInt (-1) = -nI 1 from by decide, ← Int32.sub_eq_add_neg, Nat.sub_sub]]
              have y := ih (j + 1) (by omega) (by omega)
              rw [e2, e3] at y
              exact y
      · refine G_iload_n 24 hC rfl dX12_close_24 ?_
        refine G_if_lt 25 68 hC dX12_close_25 (by decide) (fun h25 => ?_) (fun h25 => ?_)
        · rw [show j = nth by omega]
          exact k1
        · exact absurd (by rw [show nth - j = 0 by omega]; decide) h25
  show g 0 [some (vr (some (b + 0))), none, none] [] _ _ N 0 0
  refine G_aload_n 0 hC rfl dX12_close_0 ?_
  refine G_iconst 1 hC (nI 0) (by decide) dX12_close_1 ?_
  refine N_thr 2 hC hF h0 (fp_X12_96_11 _) dX12_close_2 ?_
  refine G_aload_n 5 hC rfl dX12_close_5 ?_
  refine G_callV1 6 hC (n_isOpen hF) okX12_isOpen lk_X12_114 ((hF.sh (o := 0) rfl (by decide)).1) rfl rfl rfl rfl (Nat.le_of_ble_eq_true rfl) (by decide) (by decide) dX12_close_6 ?_
  first | refine G_if_ne_b 9 15 hC dX12_close_9 (by decide) (fun h9 => ?_) (fun h9 => ?_) | refine G_if_ne 9 15 hC dX12_close_9 (by decide) (fun h9 => ?_) (fun h9 => ?_)
  · refine G_iconst 15 hC (nI 0) (by decide) dX12_close_15 ?_
    refine G_istore_n 16 hC 1 rfl (by decide) (ls' := [_, _, _]) rfl dX12_close_16 ?_
    refine G_aload_n 17 hC rfl dX12_close_17 ?_
    refine N_getI 18 hC hF fl_X12_86_11 rfl dX12_close_18 ?_
    rw [hth]
    refine G_iconst 21 hC (nI 1) (by decide) dX12_close_21 ?_
    refine G_isub 22 hC dX12_close_22 ?_
    refine G_istore_n 23 hC 2 rfl (by decide) (ls' := [_, _, _]) rfl dX12_close_23 ?_
    have y := loop1 _ 0 (Nat.lt_succ_self _) (Nat.zero_le _)
    rw [hn0, hm0] at y
    exact y
  · exact absurd hst h9
theorem n_equal_bad (hF : FixR b N) (h0 : r 0 0 = nI 0) {x : Int32} (hx : ¬ (nI 1 ≤ x ∧ x ≤ nI 6)) : Cq l D B mX12_equal [vr (some (b + 0)), vi x] (RI b r n G) L N (some (vi (-1))) (RI b r n G) L := by
  refine Ct.of (M := mX12_equal) (by decide) (Nat.le_of_ble_eq_true rfl) (fun g (hR : Cr l D B RX12 cX12_equal 3 "equal" { frames := 7, cells := 0, slots := 0, locals := 159 } (some .int) 0 0 _ g) => ?_)
  have hC := hR.cx
  show g 0 [some (vr (some (b + 0))), some (vi x), none] [] _ _ N 0 0
  refine G_aload_n 0 hC rfl dX12_equal_0 ?_
  refine G_iconst 1 hC (nI 0) (by decide) dX12_equal_1 ?_
  refine N_thr 2 hC hF h0 (fp_X12_96_11 _) dX12_equal_2 ?_
  refine G_iload_n 5 hC rfl dX12_equal_5 ?_
  refine G_iconst 6 hC (nI 1) (by decide) dX12_equal_6 ?_
  refine G_bipush 7 hC (nI 6) (by decide) dX12_equal_7 ?_
  refine G_callS1 9 hC (ref_in) okX12_in lk_X12_107 rfl rfl rfl (Nat.le_of_ble_eq_true rfl) (by decide) (by decide) dX12_equal_9 ?_
  first | refine G_if_ne_b 12 17 hC dX12_equal_12 (by decide) (fun h12 => ?_) (fun h12 => ?_) | refine G_if_ne 12 17 hC dX12_equal_12 (by decide) (fun h12 => ?_) (fun h12 => ?_)
  · exact absurd h12 hx
  · refine G_iconst 15 hC (-1) (by decide) dX12_equal_15 ?_
    refine R_i 16 hR (by first | rfl | exact narrow_bI _) dX12_equal_16 (Nat.le_refl _) (Nat.le_refl _) ?_
    exact ⟨rfl, rfl, rfl, rfl⟩
theorem n_equal (hF : FixR b N) (h0 : r 0 0 = nI 0) {many : Nat} {c : Prop} [Decidable c] (hx : nI 1 ≤ nI many ∧ nI many ≤ nI 6) (hT1 : Cq l D B mX12_through [vr (some (b + 0)), vi (nI 1)] (RI b (F_cp r 21 n 310) n G) (RLg b (F_cpl rl 23 q 36) S q GL) N none (RI b (F_cp r 21 n 310) n1 G) (RLg b (F_cpl rl 23 q 36) S1 q1 GL))
    (hT2 : Cq l D B mX12_through [vr (some (b + 0)), vi (nI many)] (RI b (F_cp (F_cp r 21 n 310) 24 n1 310) n1 G) (RLg b (F_cpl (F_cpl rl 23 q 36) 25 q1 36) S1 q1 GL) N none (RI b (F_cp (F_cp r 21 n 310) 24 n1 310) n2 G) (RLg b (F_cpl (F_cpl rl 23 q 36) 25 q1 36) S2 q2 GL))
    (hLk : Cq l D B mX12_isLikeFirst [vr (some (b + 0))] (RI b (F_cp (F_cp r 21 n 310) 24 n1 310) n2 G) (RLg b (F_cpl (F_cpl rl 23 q 36) 25 q1 36) S2 q2 GL) N (some (vi (bI c))) (RI b (F_cp (F_cp r 21 n 310) 24 n1 310) n2 G) (RLg b (F_cpl (F_cpl rl 23 q 36) 25 q1 36) S2 q2 GL)) : Cq l D B mX12_equal [vr (some (b + 0)), vi (nI many)] (RI b r n G) (RLg b rl S q GL) N (some (vi (bI c))) (RI b (F_cp (F_cp r 21 n 310) 24 n1 310) (F_br n2 ((F_cp (F_cp r 21 n 310) 24 n1 310) 21) 310) G) (RLg b (F_cpl (F_cpl rl 23 q 36) 25 q1 36) S2 (F_br q2 ((F_cpl (F_cpl rl 23 q 36) 25 q1 36) 23) 36) GL) := by
  refine Ct.of (M := mX12_equal) (by decide) (Nat.le_of_ble_eq_true rfl) (fun g (hR : Cr l D B RX12 cX12_equal 3 "equal" { frames := 7, cells := 0, slots := 0, locals := 159 } (some .int) 0 0 _ g) => ?_)
  have hC := hR.cx
  have k2 : g 79 [some (vr (some (b + 0))), some (vi (nI many)), some (vi (nI 36))] [] (RI b (F_cp (F_cp r 21 n 310) 24 n1 310) n1 G) (RLg b (F_cpl (F_cpl rl 23 q 36) 25 q1 36) S1 q1 GL) N 0 0 := by
    refine G_aload_n 79 hC rfl dX12_equal_79 ?_
    refine G_iload_n 80 hC rfl dX12_equal_80 ?_
    refine G_callV0 81 hC (hT2) okX12_through lk_X12_238 ((hF.sh (o := 0) rfl (by decide)).1) rfl rfl rfl rfl (Nat.le_of_ble_eq_true rfl) (by decide) (by decide) dX12_equal_81 ?_
    refine G_aload_n 84 hC rfl dX12_equal_84 ?_
    refine G_callV1 85 hC (hLk) okX12_isLikeFirst lk_X12_241 ((hF.sh (o := 0) rfl (by decide)).1) rfl rfl rfl rfl (Nat.le_of_ble_eq_true rfl) (by decide) (by decide) dX12_equal_85 ?_
    refine G_istore_n 88 hC 2 rfl (by decide) (ls' := [_, _, _]) rfl dX12_equal_88 ?_
    refine G_aload_n 89 hC rfl dX12_equal_89 ?_
    refine G_callV0 90 hC (n_bring hF) okX12_bring lk_X12_244 ((hF.sh (o := 0) rfl (by decide)).1) rfl rfl rfl rfl (Nat.le_of_ble_eq_true rfl) (by decide) (by decide) dX12_equal_90 ?_
    refine G_iload_n 93 hC rfl dX12_equal_93 ?_
    first | refine G_if_eq_b 94 101 hC dX12_equal_94 (by decide) (fun h94 => ?_) (fun h94 => ?_) | refine G_if_eq 94 101 hC dX12_equal_94 (by decide) (fun h94 => ?_) (fun h94 => ?_)
    · refine G_iconst 101 hC (nI 0) (by decide) dX12_equal_101 ?_
      refine R_i 102 hR (by first | rfl | exact narrow_bI _) dX12_equal_102 (Nat.le_refl _) (Nat.le_refl _) ?_
      refine ⟨?_, rfl, rfl, rfl⟩
      first | exact congrArg (fun z => some (vi z)) (bI_t h94) | exact congrArg (fun z => some (vi z)) (bI_f h94)
    · refine G_iconst 97 hC (nI 1) (by decide) dX12_equal_97 ?_
      refine G_goto 98 102 hC dX12_equal_98 (by decide) ?_
      refine R_i 102 hR (by first | rfl | exact narrow_bI _) dX12_equal_102 (Nat.le_refl _) (Nat.le_refl _) ?_
      refine ⟨?_, rfl, rfl, rfl⟩
      first | exact congrArg (fun z => some (vi z)) (bI_t h94) | exact congrArg (fun z => some (vi z)) (bI_f h94)
  have loop2 : ∀ (k j : Nat), 36 - j < k → j ≤ 36 → g 55 [some (vr (some (b + 0))), some (vi (nI many)), some (vi (nI j))] [] (RI b (F_cp (F_cp r 21 n 310) 24 n1 310) n1 G) (RLg b (F_cpl (F_cpl rl 23 q 36) 25 q1 j) S1 q1 GL) N 0 0 := by
    intro k
    induction k with
    | zero => intro j h1; omega
    | succ k ih =>
      intro j hk1 hj
      refine G_iload_n 55 hC rfl dX12_equal_55 ?_
      refine G_bipush 56 hC (nI 36) (by decide) dX12_equal_56 ?_
      refine G_icmp_ge 58 79 hC dX12_equal_58 (by decide) (fun h58 => ?_) (fun h58 => ?_)
      · have ej : j = 36 := by
          have z := (nI_leI (by omega) (by omega)).mp h58
          omega
        subst ej
        exact k2
      · have a58 : j < 36 := by
          rcases Nat.lt_or_ge j 36 with y | y
          · exact y
          · exact absurd ((nI_leI (by omega) (by omega)).mpr y) h58
        refine G_aload_n 61 hC rfl dX12_equal_61 ?_
        refine M_getR 62 hC hF fl_X12_83_11 rfl rfl dX12_equal_62 ?_
        refine G_iload_n 65 hC rfl dX12_equal_65 ?_
        refine G_aload_n 66 hC rfl dX12_equal_66 ?_
        refine M_getR 67 hC hF fl_X12_74_11 rfl rfl dX12_equal_67 ?_
        refine G_iload_n 70 hC rfl dX12_equal_70 ?_
        refine Q_lald 71 hC hF rfl (by omega) dX12_equal_71 ?_
        refine Q_lastO 72 hC hF rfl (by decide) (by decide) (by decide) rfl (by omega) dX12_equal_72 ?_
        first | refine G_iincN 73 hC (by decide) rfl (ls' := [_, _, _]) rfl dX12_equal_73 ?_ | refine G_iinc 73 hC _ rfl (by decide) rfl (ls' := [_, _, _]) rfl dX12_equal_73 ?_
        refine G_goto 76 55 hC dX12_equal_76 (by decide) ?_
        exact ih (j + 1) (by omega) (by omega)
  have k1 : g 53 [some (vr (some (b + 0))), some (vi (nI many)), some (vi (nI 310))] [] (RI b (F_cp (F_cp r 21 n 310) 24 n1 310) n1 G) (RLg b (F_cpl rl 23 q 36) S1 q1 GL) N 0 0 := by
    refine G_iconst 53 hC (nI 0) (by decide) dX12_equal_53 ?_
    refine G_istore_n 54 hC 2 rfl (by decide) (ls' := [_, _, _]) rfl dX12_equal_54 ?_
    exact loop2 _ 0 (Nat.lt_succ_self _) (Nat.zero_le _)
  have loop1 : ∀ (k j : Nat), 310 - j < k → j ≤ 310 → g 28 [some (vr (some (b + 0))), some (vi (nI many)), some (vi (nI j))] [] (RI b (F_cp (F_cp r 21 n 310) 24 n1 j) n1 G) (RLg b (F_cpl rl 23 q 36) S1 q1 GL) N 0 0 := by
    intro k
    induction k with
    | zero => intro j h1; omega
    | succ k ih =>
      intro j hk1 hj
      refine G_iload_n 28 hC rfl dX12_equal_28 ?_
      refine G_sipush 29 hC (nI 310) (by decide) dX12_equal_29 ?_
      refine G_icmp_ge 32 53 hC dX12_equal_32 (by decide) (fun h32 => ?_) (fun h32 => ?_)
      · have ej : j = 310 := by
          have z := (nI_leI (by omega) (by omega)).mp h32
          omega
        subst ej
        exact k1
      · have a32 : j < 310 := by
          rcases Nat.lt_or_ge j 310 with y | y
          · exact y
          · exact absurd ((nI_leI (by omega) (by omega)).mpr y) h32
        refine G_aload_n 35 hC rfl dX12_equal_35 ?_
        refine M_getR 36 hC hF fl_X12_80_11 rfl rfl dX12_equal_36 ?_
        refine G_iload_n 39 hC rfl dX12_equal_39 ?_
        refine G_aload_n 40 hC rfl dX12_equal_40 ?_
        refine M_getR 41 hC hF fl_X12_68_11 rfl rfl dX12_equal_41 ?_
        refine G_iload_n 44 hC rfl dX12_equal_44 ?_
        refine N_iald 45 hC hF rfl (by omega) dX12_equal_45 ?_
        refine N_iastO 46 hC hF rfl (by decide) (by decide) rfl (by omega) dX12_equal_46 ?_
        first | refine G_iincN 47 hC (by decide) rfl (ls' := [_, _, _]) rfl dX12_equal_47 ?_ | refine G_iinc 47 hC _ rfl (by decide) rfl (ls' := [_, _, _]) rfl dX12_equal_47 ?_
        refine G_goto 50 28 hC dX12_equal_50 (by decide) ?_
        exact ih (j + 1) (by omega) (by omega)
  show g 0 [some (vr (some (b + 0))), some (vi (nI many)), none] [] _ _ N 0 0
  refine G_aload_n 0 hC rfl dX12_equal_0 ?_
  refine G_iconst 1 hC (nI 0) (by decide) dX12_equal_1 ?_
  refine N_thr 2 hC hF h0 (fp_X12_96_11 _) dX12_equal_2 ?_
  refine G_iload_n 5 hC rfl dX12_equal_5 ?_
  refine G_iconst 6 hC (nI 1) (by decide) dX12_equal_6 ?_
  refine G_bipush 7 hC (nI 6) (by decide) dX12_equal_7 ?_
  refine G_callS1 9 hC (ref_in) okX12_in lk_X12_107 rfl rfl rfl (Nat.le_of_ble_eq_true rfl) (by decide) (by decide) dX12_equal_9 ?_
  first | refine G_if_ne_b 12 17 hC dX12_equal_12 (by decide) (fun h12 => ?_) (fun h12 => ?_) | refine G_if_ne 12 17 hC dX12_equal_12 (by decide) (fun h12 => ?_) (fun h12 => ?_)
  · refine G_aload_n 17 hC rfl dX12_equal_17 ?_
    refine G_callV0 18 hC (n_keep hF) okX12_keep lk_X12_235 ((hF.sh (o := 0) rfl (by decide)).1) rfl rfl rfl rfl (Nat.le_of_ble_eq_true rfl) (by decide) (by decide) dX12_equal_18 ?_
    refine G_aload_n 21 hC rfl dX12_equal_21 ?_
    refine G_iconst 22 hC (nI 1) (by decide) dX12_equal_22 ?_
    refine G_callV0 23 hC (hT1) okX12_through lk_X12_238 ((hF.sh (o := 0) rfl (by decide)).1) rfl rfl rfl rfl (Nat.le_of_ble_eq_true rfl) (by decide) (by decide) dX12_equal_23 ?_
    refine G_iconst 26 hC (nI 0) (by decide) dX12_equal_26 ?_
    refine G_istore_n 27 hC 2 rfl (by decide) (ls' := [_, _, _]) rfl dX12_equal_27 ?_
    exact loop1 _ 0 (Nat.lt_succ_self _) (Nat.zero_le _)
  · exact absurd hx h12
end M14

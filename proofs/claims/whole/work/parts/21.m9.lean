/-! ===== looks, turns ===== -/
theorem nI_n9 {t : Nat} (h : t < 2 ^ 31) : ¬ nI t = -9 := by
  intro e
  have := congrArg Int32.toInt e
  rw [nI_toInt h] at this
  have h9 : (-9 : Int32).toInt = -9 := by decide
  rw [h9] at this
  omega
def skipR (r : MI) (n : Nat → Int32) (u : Nat) : Prop := r 6 u = nI 4 ∨ nI 2 < n (12 * u + 0)
def F_slS (r : MI) (n : Nat → Int32) (u : Nat) : Nat → Int32 := if ¬ r 6 u = nI 4 ∧ n (12 * u + 0) = 0 then F_falls n u (nI 5) else if ¬ r 6 u = nI 4 ∧ n (12 * u + 0) = nI 1 then up n (12 * u + 10) (nI 1) else n
def F_sl (r : MI) : Nat → Nat → (Nat → Int32) → Nat → Int32
  | 0, _, n => n
  | k + 1, u, n => F_sl r k (u + 1) (F_slS r n u)
theorem F_sl_s {r : MI} {k u : Nat} {n : Nat → Int32} : F_sl r (k + 1) u n = F_sl r k (u + 1) (F_slS r n u) := rfl
theorem F_slS_1 {r : MI} {u : Nat} {n : Nat → Int32} (h : ¬ r 6 u = nI 4) (h0 : n (12 * u + 0) = 0) : F_slS r n u = F_falls n u (nI 5) := by unfold F_slS; rw [if_pos ⟨h, h0⟩]
theorem F_slS_2 {r : MI} {u : Nat} {n : Nat → Int32} (h : ¬ r 6 u = nI 4) (h1 : n (12 * u + 0) = nI 1) : F_slS r n u = up n (12 * u + 10) (nI 1) := by unfold F_slS; rw [if_neg (fun z => absurd (h1.symm.trans z.2) (by decide)), if_pos ⟨h, h1⟩]
theorem F_slS_3 {r : MI} {u : Nat} {n : Nat → Int32} (h : r 6 u = nI 4) : F_slS r n u = n := by unfold F_slS; rw [if_neg (fun z => z.1 h), if_neg (fun z => z.1 h)]
theorem F_slS_4 {r : MI} {u : Nat} {n : Nat → Int32} (h : ¬ n (12 * u + 0) = 0) (h1 : ¬ n (12 * u + 0) = nI 1) : F_slS r n u = n := by unfold F_slS; rw [if_neg (fun z => h z.2), if_neg (fun z => h1 z.2)]
section M9
variable {l : Launch} {D : va_G} {B b : Nat} {N : NT} {r G : MI} {rl GL : ML} {n n1 n2 n3 : Nat → Int32} {q q1 : Nat → Int64} {S S1 : Int64} {I : MI} {L L1 : ML}
theorem n_looks_no (hF : FixR b N) {nt : Nat} (hnt : r 0 10 = nI nt) (hnt2 : nt ≤ 20) (hno : ¬ n 245 = -9 ∨ ∀ t, t < nt → (∀ u, u < t → skipR r n u) → ¬ skipR r n t → ¬ n (12 * t + 0) = nI 2) : Cq l D B mX12_looks [vr (some (b + 0))] (RI b r n G) L N none (RI b r n G) L := by
  refine Ct.of (M := mX12_looks) (by decide) (Nat.le_of_ble_eq_true rfl) (fun g (hR : Cr l D B RX12 cX12_looks 3 "looks" { frames := 2, cells := 0, slots := 0, locals := 45 } none 0 0 _ g) => ?_)
  have hC := hR.cx
  have loop : ∀ (k j : Nat), nt - j < k → j ≤ nt → (∀ u, u < j → skipR r n u) → g 2 [some (vr (some (b + 0))), some (vi (nI j)), none] [] (RI b r n G) L N 0 0 := by
    intro k
    induction k with
    | zero => intro j h1; omega
    | succ k ih =>
      intro j hk1 hj hsk
      refine G_aload_n 2 hC rfl dX12_looks_2 ?_
      refine M_getR 3 hC hF fl_X12_68_11 rfl rfl dX12_looks_3 ?_
      refine G_sipush 6 hC (nI 245) (by decide) dX12_looks_6 ?_
      refine N_iald 9 hC hF rfl (by omega) dX12_looks_9 ?_
      refine G_bipush 10 hC (-9) (by decide) dX12_looks_10 ?_
      refine G_icmp_ne 12 49 hC dX12_looks_12 (by decide) (fun h12 => ?_) (fun h12 => ?_)
      · refine G_aload_n 49 hC rfl dX12_looks_49 ?_
        refine M_getR 50 hC hF fl_X12_68_11 rfl rfl dX12_looks_50 ?_
        refine G_sipush 53 hC (nI 245) (by decide) dX12_looks_53 ?_
        refine N_iald 56 hC hF rfl (by omega) dX12_looks_56 ?_
        refine G_bipush 57 hC (-9) (by decide) dX12_looks_57 ?_
        refine G_icmp_ne 59 163 hC dX12_looks_59 (by decide) (fun h59 => ?_) (fun h59 => ?_)
        · refine R_v 163 hR dX12_looks_163 (Nat.le_refl _) (Nat.le_refl _) ?_
          exact ⟨rfl, rfl, rfl, rfl⟩
        · refine G_iload_n 62 hC rfl dX12_looks_62 ?_
          refine G_aload_n 63 hC rfl dX12_looks_63 ?_
          refine N_getI 64 hC hF fl_X12_101_11 rfl dX12_looks_64 ?_
          rw [hnt]
          refine G_icmp_ge 67 163 hC dX12_looks_67 (by decide) (fun h67 => ?_) (fun h67 => ?_)
          · refine R_v 163 hR dX12_looks_163 (Nat.le_refl _) (Nat.le_refl _) ?_
            exact ⟨rfl, rfl, rfl, rfl⟩
          · have a67 : j < nt := by
              rcases Nat.lt_or_ge j nt with z | z
              · exact z
              · exact absurd ((nI_leI (by omega) (by omega)).mpr z) h67
            refine G_aload_n 70 hC rfl dX12_looks_70 ?_
            refine G_iload_n 71 hC rfl dX12_looks_71 ?_
            refine G_iconst 72 hC (nI 0) (by decide) dX12_looks_72 ?_
            refine G_callV1 73 hC (n_at hF (by omega) (by omega)) okX12_at lk_X12_173 ((hF.sh (o := 0) rfl (by decide)).1) rfl rfl rfl rfl (Nat.le_of_ble_eq_true rfl) (by decide) (by decide) dX12_looks_73 ?_
            refine G_iconst 76 hC (nI 2) (by decide) dX12_looks_76 ?_
            refine G_icmp_ne 77 163 hC dX12_looks_77 (by decide) (fun h77 => ?_) (fun h77 => ?_)
            · refine R_v 163 hR dX12_looks_163 (Nat.le_refl _) (Nat.le_refl _) ?_
              exact ⟨rfl, rfl, rfl, rfl⟩
            · exfalso
              first
                | exact h12 h59
                | (have z := (nI_leI (by omega) (by omega)).mp h20; exact h67 ((nI_leI (by omega) (by omega)).mpr z))
                | (rcases hno with z | z
                   · exact z h59
                   · exact z j a20 hsk (fun y => y.elim h30 (fun y => absurd h40 (Int32.not_le.mpr y))) h77)
      · refine G_iload_n 15 hC rfl dX12_looks_15 ?_
        refine G_aload_n 16 hC rfl dX12_looks_16 ?_
        refine N_getI 17 hC hF fl_X12_101_11 rfl dX12_looks_17 ?_
        rw [hnt]
        refine G_icmp_ge 20 49 hC dX12_looks_20 (by decide) (fun h20 => ?_) (fun h20 => ?_)
        · refine G_aload_n 49 hC rfl dX12_looks_49 ?_
          refine M_getR 50 hC hF fl_X12_68_11 rfl rfl dX12_looks_50 ?_
          refine G_sipush 53 hC (nI 245) (by decide) dX12_looks_53 ?_
          refine N_iald 56 hC hF rfl (by omega) dX12_looks_56 ?_
          refine G_bipush 57 hC (-9) (by decide) dX12_looks_57 ?_
          refine G_icmp_ne 59 163 hC dX12_looks_59 (by decide) (fun h59 => ?_) (fun h59 => ?_)
          · refine R_v 163 hR dX12_looks_163 (Nat.le_refl _) (Nat.le_refl _) ?_
            exact ⟨rfl, rfl, rfl, rfl⟩
          · refine G_iload_n 62 hC rfl dX12_looks_62 ?_
            refine G_aload_n 63 hC rfl dX12_looks_63 ?_
            refine N_getI 64 hC hF fl_X12_101_11 rfl dX12_looks_64 ?_
            rw [hnt]
            refine G_icmp_ge 67 163 hC dX12_looks_67 (by decide) (fun h67 => ?_) (fun h67 => ?_)
            · refine R_v 163 hR dX12_looks_163 (Nat.le_refl _) (Nat.le_refl _) ?_
              exact ⟨rfl, rfl, rfl, rfl⟩
            · have a67 : j < nt := by
                rcases Nat.lt_or_ge j nt with z | z
                · exact z
                · exact absurd ((nI_leI (by omega) (by omega)).mpr z) h67
              refine G_aload_n 70 hC rfl dX12_looks_70 ?_
              refine G_iload_n 71 hC rfl dX12_looks_71 ?_
              refine G_iconst 72 hC (nI 0) (by decide) dX12_looks_72 ?_
              refine G_callV1 73 hC (n_at hF (by omega) (by omega)) okX12_at lk_X12_173 ((hF.sh (o := 0) rfl (by decide)).1) rfl rfl rfl rfl (Nat.le_of_ble_eq_true rfl) (by decide) (by decide) dX12_looks_73 ?_
              refine G_iconst 76 hC (nI 2) (by decide) dX12_looks_76 ?_
              refine G_icmp_ne 77 163 hC dX12_looks_77 (by decide) (fun h77 => ?_) (fun h77 => ?_)
              · refine R_v 163 hR dX12_looks_163 (Nat.le_refl _) (Nat.le_refl _) ?_
                exact ⟨rfl, rfl, rfl, rfl⟩
              · exfalso
                first
                  | exact h12 h59
                  | (have z := (nI_leI (by omega) (by omega)).mp h20; exact h67 ((nI_leI (by omega) (by omega)).mpr z))
                  | (rcases hno with z | z
                     · exact z h59
                     · exact z j a20 hsk (fun y => y.elim h30 (fun y => absurd h40 (Int32.not_le.mpr y))) h77)
        · have a20 : j < nt := by
            rcases Nat.lt_or_ge j nt with z | z
            · exact z
            · exact absurd ((nI_leI (by omega) (by omega)).mpr z) h20
          refine G_aload_n 23 hC rfl dX12_looks_23 ?_
          refine M_getR 24 hC hF fl_X12_26_11 rfl rfl dX12_looks_24 ?_
          refine G_iload_n 27 hC rfl dX12_looks_27 ?_
          refine N_ialdO 28 hC hF rfl (by decide) (by decide) rfl (by omega) dX12_looks_28 ?_
          refine G_iconst 29 hC (nI 4) (by decide) dX12_looks_29 ?_
          refine G_icmp_eq 30 43 hC dX12_looks_30 (by decide) (fun h30 => ?_) (fun h30 => ?_)
          · have askip : skipR r n j := by first | exact Or.inl h30 | exact Or.inr (Int32.not_le.mp h40)
            first | refine G_iincN 43 hC (by decide) rfl (ls' := [_, _, _]) rfl dX12_looks_43 ?_ | refine G_iinc 43 hC _ rfl (by decide) rfl (ls' := [_, _, _]) rfl dX12_looks_43 ?_
            refine G_goto 46 2 hC dX12_looks_46 (by decide) ?_
            exact ih (j + 1) (by omega) (by omega) (lt_s hsk askip)
          · refine G_aload_n 33 hC rfl dX12_looks_33 ?_
            refine G_iload_n 34 hC rfl dX12_looks_34 ?_
            refine G_iconst 35 hC (nI 0) (by decide) dX12_looks_35 ?_
            refine G_callV1 36 hC (n_at hF (by omega) (by omega)) okX12_at lk_X12_173 ((hF.sh (o := 0) rfl (by decide)).1) rfl rfl rfl rfl (Nat.le_of_ble_eq_true rfl) (by decide) (by decide) dX12_looks_36 ?_
            refine G_iconst 39 hC (nI 2) (by decide) dX12_looks_39 ?_
            refine G_icmp_le 40 49 hC dX12_looks_40 (by decide) (fun h40 => ?_) (fun h40 => ?_)
            · refine G_aload_n 49 hC rfl dX12_looks_49 ?_
              refine M_getR 50 hC hF fl_X12_68_11 rfl rfl dX12_looks_50 ?_
              refine G_sipush 53 hC (nI 245) (by decide) dX12_looks_53 ?_
              refine N_iald 56 hC hF rfl (by omega) dX12_looks_56 ?_
              refine G_bipush 57 hC (-9) (by decide) dX12_looks_57 ?_
              refine G_icmp_ne 59 163 hC dX12_looks_59 (by decide) (fun h59 => ?_) (fun h59 => ?_)
              · refine R_v 163 hR dX12_looks_163 (Nat.le_refl _) (Nat.le_refl _) ?_
                exact ⟨rfl, rfl, rfl, rfl⟩
              · refine G_iload_n 62 hC rfl dX12_looks_62 ?_
                refine G_aload_n 63 hC rfl dX12_looks_63 ?_
                refine N_getI 64 hC hF fl_X12_101_11 rfl dX12_looks_64 ?_
                rw [hnt]
                refine G_icmp_ge 67 163 hC dX12_looks_67 (by decide) (fun h67 => ?_) (fun h67 => ?_)
                · refine R_v 163 hR dX12_looks_163 (Nat.le_refl _) (Nat.le_refl _) ?_
                  exact ⟨rfl, rfl, rfl, rfl⟩
                · have a67 : j < nt := by
                    rcases Nat.lt_or_ge j nt with z | z
                    · exact z
                    · exact absurd ((nI_leI (by omega) (by omega)).mpr z) h67
                  refine G_aload_n 70 hC rfl dX12_looks_70 ?_
                  refine G_iload_n 71 hC rfl dX12_looks_71 ?_
                  refine G_iconst 72 hC (nI 0) (by decide) dX12_looks_72 ?_
                  refine G_callV1 73 hC (n_at hF (by omega) (by omega)) okX12_at lk_X12_173 ((hF.sh (o := 0) rfl (by decide)).1) rfl rfl rfl rfl (Nat.le_of_ble_eq_true rfl) (by decide) (by decide) dX12_looks_73 ?_
                  refine G_iconst 76 hC (nI 2) (by decide) dX12_looks_76 ?_
                  refine G_icmp_ne 77 163 hC dX12_looks_77 (by decide) (fun h77 => ?_) (fun h77 => ?_)
                  · refine R_v 163 hR dX12_looks_163 (Nat.le_refl _) (Nat.le_refl _) ?_
                    exact ⟨rfl, rfl, rfl, rfl⟩
                  · exfalso
                    first
                      | exact h12 h59
                      | (have z := (nI_leI (by omega) (by omega)).mp h20; exact h67 ((nI_leI (by omega) (by omega)).mpr z))
                      | (rcases hno with z | z
                         · exact z h59
                         · exact z j a20 hsk (fun y => y.elim h30 (fun y => absurd h40 (Int32.not_le.mpr y))) h77)
            · have askip : skipR r n j := by first | exact Or.inl h30 | exact Or.inr (Int32.not_le.mp h40)
              first | refine G_iincN 43 hC (by decide) rfl (ls' := [_, _, _]) rfl dX12_looks_43 ?_ | refine G_iinc 43 hC _ rfl (by decide) rfl (ls' := [_, _, _]) rfl dX12_looks_43 ?_
              refine G_goto 46 2 hC dX12_looks_46 (by decide) ?_
              exact ih (j + 1) (by omega) (by omega) (lt_s hsk askip)
  show g 0 [some (vr (some (b + 0))), none, none] [] _ _ N 0 0
  refine G_iconst 0 hC (nI 0) (by decide) dX12_looks_0 ?_
  refine G_istore_n 1 hC 1 rfl (by decide) (ls' := [_, _, _]) rfl dX12_looks_1 ?_
  exact loop _ 0 (Nat.lt_succ_self _) (Nat.zero_le _) (fun u hu => absurd hu (Nat.not_lt_zero _))
theorem n_looks_yes (hF : FixR b N) {nt t : Nat} (hnt : r 0 10 = nI nt) (hnt2 : nt ≤ 20) (h245 : n 245 = -9) (ht : t < nt) (hsk : ∀ u, u < t → skipR r n u) (hns : ¬ skipR r n t) (h2 : n (12 * t + 0) = nI 2) : Cq l D B mX12_looks [vr (some (b + 0))] (RI b r n G) L N none (RI b r (F_sl r (nt - (t + 1)) (t + 1) (up n 245 (nI t))) G) L := by
  obtain ⟨W, hW⟩ : ∃ W, F_sl r (nt - (t + 1)) (t + 1) (up n 245 (nI t)) = W := ⟨_, rfl⟩
  rw [hW]
  refine Ct.of (M := mX12_looks) (by decide) (Nat.le_of_ble_eq_true rfl) (fun g (hR : Cr l D B RX12 cX12_looks 3 "looks" { frames := 2, cells := 0, slots := 0, locals := 45 } none 0 0 _ g) => ?_)
  have hC := hR.cx
  have loop2 : ∀ (k u : Nat) (n1 : Nat → Int32), nt - u = k → u ≤ nt → F_sl r k u n1 = W → g 93 [some (vr (some (b + 0))), some (vi (nI t)), some (vi (nI u))] [] (RI b r n1 G) L N 0 0 := by
    intro k
    induction k using Nat.strongRecOn with
    | _ k ih =>
      intro u n1 hk1 hu hE
      refine G_iload_n 93 hC rfl dX12_looks_93 ?_
      refine G_aload_n 94 hC rfl dX12_looks_94 ?_
      refine N_getI 95 hC hF fl_X12_101_11 rfl dX12_looks_95 ?_
      rw [hnt]
      refine G_icmp_ge 98 163 hC dX12_looks_98 (by decide) (fun h98 => ?_) (fun h98 => ?_)
      · refine R_v 163 hR dX12_looks_163 (Nat.le_refl _) (Nat.le_refl _) ?_
        have z := (nI_leI (by omega) (by omega)).mp h98
        have hk0 : k = 0 := by omega
        subst hk0
        rw [← hE]
        exact ⟨rfl, rfl, rfl, rfl⟩
      · have a98 : u < nt := by
          rcases Nat.lt_or_ge u nt with z | z
          · exact z
          · exact absurd ((nI_leI (by omega) (by omega)).mpr z) h98
        obtain ⟨k, rfl⟩ : ∃ k1, k = k1 + 1 := ⟨k - 1, by omega⟩
        refine G_aload_n 101 hC rfl dX12_looks_101 ?_
        refine M_getR 102 hC hF fl_X12_26_11 rfl rfl dX12_looks_102 ?_
        refine G_iload_n 105 hC rfl dX12_looks_105 ?_
        refine N_ialdO 106 hC hF rfl (by decide) (by decide) rfl (by omega) dX12_looks_106 ?_
        refine G_iconst 107 hC (nI 4) (by decide) dX12_looks_107 ?_
        refine G_icmp_eq 108 129 hC dX12_looks_108 (by decide) (fun h108 => ?_) (fun h108 => ?_)
        · refine G_aload_n 129 hC rfl dX12_looks_129 ?_
          refine M_getR 130 hC hF fl_X12_26_11 rfl rfl dX12_looks_130 ?_
          refine G_iload_n 133 hC rfl dX12_looks_133 ?_
          refine N_ialdO 134 hC hF rfl (by decide) (by decide) rfl (by omega) dX12_looks_134 ?_
          refine G_iconst 135 hC (nI 4) (by decide) dX12_looks_135 ?_
          refine G_icmp_eq 136 157 hC dX12_looks_136 (by decide) (fun h136 => ?_) (fun h136 => ?_)
          · first | refine G_iincN 157 hC (by decide) rfl (ls' := [_, _, _]) rfl dX12_looks_157 ?_ | refine G_iinc 157 hC _ rfl (by decide) rfl (ls' := [_, _, _]) rfl dX12_looks_157 ?_
            refine G_goto 160 93 hC dX12_looks_160 (by decide) ?_
            refine ih k (Nat.lt_succ_self k) (u + 1) _ (by omega) (by omega) ?_
            rw [← hE, F_sl_s]
            first
              | (rw [F_slS_1 h108 h117]; done)
              | (rw [F_slS_2 h108 h146]; done)
              | (rw [F_slS_3 h108]; done)
              | (rw [F_slS_4 h117 h146]; done)
              | exact absurd h108 h136
              | exact absurd h136 h108
          · refine G_aload_n 139 hC rfl dX12_looks_139 ?_
            refine G_iload_n 140 hC rfl dX12_looks_140 ?_
            refine G_iconst 141 hC (nI 0) (by decide) dX12_looks_141 ?_
            refine G_callV1 142 hC (n_at hF (by omega) (by omega)) okX12_at lk_X12_173 ((hF.sh (o := 0) rfl (by decide)).1) rfl rfl rfl rfl (Nat.le_of_ble_eq_true rfl) (by decide) (by decide) dX12_looks_142 ?_
            refine G_iconst 145 hC (nI 1) (by decide) dX12_looks_145 ?_
            refine G_icmp_ne 146 157 hC dX12_looks_146 (by decide) (fun h146 => ?_) (fun h146 => ?_)
            · first | refine G_iincN 157 hC (by decide) rfl (ls' := [_, _, _]) rfl dX12_looks_157 ?_ | refine G_iinc 157 hC _ rfl (by decide) rfl (ls' := [_, _, _]) rfl dX12_looks_157 ?_
              refine G_goto 160 93 hC dX12_looks_160 (by decide) ?_
              refine ih k (Nat.lt_succ_self k) (u + 1) _ (by omega) (by omega) ?_
              rw [← hE, F_sl_s]
              first
                | (rw [F_slS_1 h108 h117]; done)
                | (rw [F_slS_2 h108 h146]; done)
                | (rw [F_slS_3 h108]; done)
                | (rw [F_slS_4 h117 h146]; done)
                | exact absurd h108 h136
                | exact absurd h136 h108
            · refine G_aload_n 149 hC rfl dX12_looks_149 ?_
              refine G_iload_n 150 hC rfl dX12_looks_150 ?_
              refine G_bipush 151 hC (nI 10) (by decide) dX12_looks_151 ?_
              refine G_iconst 153 hC (nI 1) (by decide) dX12_looks_153 ?_
              refine G_callV0 154 hC (n_set hF (by omega) (by omega)) okX12_set lk_X12_154 ((hF.sh (o := 0) rfl (by decide)).1) rfl rfl rfl rfl (Nat.le_of_ble_eq_true rfl) (by decide) (by decide) dX12_looks_154 ?_
              first | refine G_iincN 157 hC (by decide) rfl (ls' := [_, _, _]) rfl dX12_looks_157 ?_ | refine G_iinc 157 hC _ rfl (by decide) rfl (ls' := [_, _, _]) rfl dX12_looks_157 ?_
              refine G_goto 160 93 hC dX12_looks_160 (by decide) ?_
              refine ih k (Nat.lt_succ_self k) (u + 1) _ (by omega) (by omega) ?_
              rw [← hE, F_sl_s]
              first
                | (rw [F_slS_1 h108 h117]; done)
                | (rw [F_slS_2 h108 h146]; done)
                | (rw [F_slS_3 h108]; done)
                | (rw [F_slS_4 h117 h146]; done)
                | exact absurd h108 h136
                | exact absurd h136 h108
        · refine G_aload_n 111 hC rfl dX12_looks_111 ?_
          refine G_iload_n 112 hC rfl dX12_looks_112 ?_
          refine G_iconst 113 hC (nI 0) (by decide) dX12_looks_113 ?_
          refine G_callV1 114 hC (n_at hF (by omega) (by omega)) okX12_at lk_X12_173 ((hF.sh (o := 0) rfl (by decide)).1) rfl rfl rfl rfl (Nat.le_of_ble_eq_true rfl) (by decide) (by decide) dX12_looks_114 ?_
          first | refine G_if_ne_b 117 129 hC dX12_looks_117 (by decide) (fun h117 => ?_) (fun h117 => ?_) | refine G_if_ne 117 129 hC dX12_looks_117 (by decide) (fun h117 => ?_) (fun h117 => ?_)
          · refine G_aload_n 129 hC rfl dX12_looks_129 ?_
            refine M_getR 130 hC hF fl_X12_26_11 rfl rfl dX12_looks_130 ?_
            refine G_iload_n 133 hC rfl dX12_looks_133 ?_
            refine N_ialdO 134 hC hF rfl (by decide) (by decide) rfl (by omega) dX12_looks_134 ?_
            refine G_iconst 135 hC (nI 4) (by decide) dX12_looks_135 ?_
            refine G_icmp_eq 136 157 hC dX12_looks_136 (by decide) (fun h136 => ?_) (fun h136 => ?_)
            · first | refine G_iincN 157 hC (by decide) rfl (ls' := [_, _, _]) rfl dX12_looks_157 ?_ | refine G_iinc 157 hC _ rfl (by decide) rfl (ls' := [_, _, _]) rfl dX12_looks_157 ?_
              refine G_goto 160 93 hC dX12_looks_160 (by decide) ?_
              refine ih k (Nat.lt_succ_self k) (u + 1) _ (by omega) (by omega) ?_
              rw [← hE, F_sl_s]
              first
                | (rw [F_slS_1 h108 h117]; done)
                | (rw [F_slS_2 h108 h146]; done)
                | (rw [F_slS_3 h108]; done)
                | (rw [F_slS_4 h117 h146]; done)
                | exact absurd h108 h136
                | exact absurd h136 h108
            · refine G_aload_n 139 hC rfl dX12_looks_139 ?_
              refine G_iload_n 140 hC rfl dX12_looks_140 ?_
              refine G_iconst 141 hC (nI 0) (by decide) dX12_looks_141 ?_
              refine G_callV1 142 hC (n_at hF (by omega) (by omega)) okX12_at lk_X12_173 ((hF.sh (o := 0) rfl (by decide)).1) rfl rfl rfl rfl (Nat.le_of_ble_eq_true rfl) (by decide) (by decide) dX12_looks_142 ?_
              refine G_iconst 145 hC (nI 1) (by decide) dX12_looks_145 ?_
              refine G_icmp_ne 146 157 hC dX12_looks_146 (by decide) (fun h146 => ?_) (fun h146 => ?_)
              · first | refine G_iincN 157 hC (by decide) rfl (ls' := [_, _, _]) rfl dX12_looks_157 ?_ | refine G_iinc 157 hC _ rfl (by decide) rfl (ls' := [_, _, _]) rfl dX12_looks_157 ?_
                refine G_goto 160 93 hC dX12_looks_160 (by decide) ?_
                refine ih k (Nat.lt_succ_self k) (u + 1) _ (by omega) (by omega) ?_
                rw [← hE, F_sl_s]
                first
                  | (rw [F_slS_1 h108 h117]; done)
                  | (rw [F_slS_2 h108 h146]; done)
                  | (rw [F_slS_3 h108]; done)
                  | (rw [F_slS_4 h117 h146]; done)
                  | exact absurd h108 h136
                  | exact absurd h136 h108
              · refine G_aload_n 149 hC rfl dX12_looks_149 ?_
                refine G_iload_n 150 hC rfl dX12_looks_150 ?_
                refine G_bipush 151 hC (nI 10) (by decide) dX12_looks_151 ?_
                refine G_iconst 153 hC (nI 1) (by decide) dX12_looks_153 ?_
                refine G_callV0 154 hC (n_set hF (by omega) (by omega)) okX12_set lk_X12_154 ((hF.sh (o := 0) rfl (by decide)).1) rfl rfl rfl rfl (Nat.le_of_ble_eq_true rfl) (by decide) (by decide) dX12_looks_154 ?_
                first | refine G_iincN 157 hC (by decide) rfl (ls' := [_, _, _]) rfl dX12_looks_157 ?_ | refine G_iinc 157 hC _ rfl (by decide) rfl (ls' := [_, _, _]) rfl dX12_looks_157 ?_
                refine G_goto 160 93 hC dX12_looks_160 (by decide) ?_
                refine ih k (Nat.lt_succ_self k) (u + 1) _ (by omega) (by omega) ?_
                rw [← hE, F_sl_s]
                first
                  | (rw [F_slS_1 h108 h117]; done)
                  | (rw [F_slS_2 h108 h146]; done)
                  | (rw [F_slS_3 h108]; done)
                  | (rw [F_slS_4 h117 h146]; done)
                  | exact absurd h108 h136
                  | exact absurd h136 h108
          · refine G_aload_n 120 hC rfl dX12_looks_120 ?_
            refine G_iload_n 121 hC rfl dX12_looks_121 ?_
            refine G_iconst 122 hC (nI 5) (by decide) dX12_looks_122 ?_
            refine G_callV0 123 hC (n_falls hF (by omega)) okX12_falls lk_X12_202 ((hF.sh (o := 0) rfl (by decide)).1) rfl rfl rfl rfl (Nat.le_of_ble_eq_true rfl) (by decide) (by decide) dX12_looks_123 ?_
            refine G_goto 126 157 hC dX12_looks_126 (by decide) ?_
            first | refine G_iincN 157 hC (by decide) rfl (ls' := [_, _, _]) rfl dX12_looks_157 ?_ | refine G_iinc 157 hC _ rfl (by decide) rfl (ls' := [_, _, _]) rfl dX12_looks_157 ?_
            refine G_goto 160 93 hC dX12_looks_160 (by decide) ?_
            refine ih k (Nat.lt_succ_self k) (u + 1) _ (by omega) (by omega) ?_
            rw [← hE, F_sl_s]
            first
              | (rw [F_slS_1 h108 h117]; done)
              | (rw [F_slS_2 h108 h146]; done)
              | (rw [F_slS_3 h108]; done)
              | (rw [F_slS_4 h117 h146]; done)
              | exact absurd h108 h136
              | exact absurd h136 h108
  have loop : ∀ (k j : Nat), t - j < k → j ≤ t → g 2 [some (vr (some (b + 0))), some (vi (nI j)), none] [] (RI b r n G) L N 0 0 := by
    intro k
    induction k with
    | zero => intro j h1; omega
    | succ k ih =>
      intro j hk1 hj
      refine G_aload_n 2 hC rfl dX12_looks_2 ?_
      refine M_getR 3 hC hF fl_X12_68_11 rfl rfl dX12_looks_3 ?_
      refine G_sipush 6 hC (nI 245) (by decide) dX12_looks_6 ?_
      refine N_iald 9 hC hF rfl (by omega) dX12_looks_9 ?_
      refine G_bipush 10 hC (-9) (by decide) dX12_looks_10 ?_
      refine G_icmp_ne 12 49 hC dX12_looks_12 (by decide) (fun h12 => ?_) (fun h12 => ?_)
      · have ajt : j = t := by
          first
            | exact absurd h245 h12
            | (have z := (nI_leI (by omega) (by omega)).mp h20; omega)
            | (rcases Nat.lt_or_ge j t with z | z
               · rcases hsk j z with y | y
                 · exact absurd y h30
                 · exact absurd h40 (Int32.not_le.mpr y)
               · omega)
        subst ajt
        refine G_aload_n 49 hC rfl dX12_looks_49 ?_
        refine M_getR 50 hC hF fl_X12_68_11 rfl rfl dX12_looks_50 ?_
        refine G_sipush 53 hC (nI 245) (by decide) dX12_looks_53 ?_
        refine N_iald 56 hC hF rfl (by omega) dX12_looks_56 ?_
        refine G_bipush 57 hC (-9) (by decide) dX12_looks_57 ?_
        refine G_icmp_ne 59 163 hC dX12_looks_59 (by decide) (fun h59 => ?_) (fun h59 => ?_)
        · exact absurd h245 h59
        · refine G_iload_n 62 hC rfl dX12_looks_62 ?_
          refine G_aload_n 63 hC rfl dX12_looks_63 ?_
          refine N_getI 64 hC hF fl_X12_101_11 rfl dX12_looks_64 ?_
          rw [hnt]
          refine G_icmp_ge 67 163 hC dX12_looks_67 (by decide) (fun h67 => ?_) (fun h67 => ?_)
          · exact absurd ((nI_leI (by omega) (by omega)).mp h67) (by omega)
          · refine G_aload_n 70 hC rfl dX12_looks_70 ?_
            refine G_iload_n 71 hC rfl dX12_looks_71 ?_
            refine G_iconst 72 hC (nI 0) (by decide) dX12_looks_72 ?_
            refine G_callV1 73 hC (n_at hF (by omega) (by omega)) okX12_at lk_X12_173 ((hF.sh (o := 0) rfl (by decide)).1) rfl rfl rfl rfl (Nat.le_of_ble_eq_true rfl) (by decide) (by decide) dX12_looks_73 ?_
            refine G_iconst 76 hC (nI 2) (by decide) dX12_looks_76 ?_
            refine G_icmp_ne 77 163 hC dX12_looks_77 (by decide) (fun h77 => ?_) (fun h77 => ?_)
            · exact absurd h2 h77
            · refine G_aload_n 80 hC rfl dX12_looks_80 ?_
              refine M_getR 81 hC hF fl_X12_68_11 rfl rfl dX12_looks_81 ?_
              refine G_sipush 84 hC (nI 245) (by decide) dX12_looks_84 ?_
              refine G_iload_n 87 hC rfl dX12_looks_87 ?_
              refine N_iast 88 hC hF rfl (by omega) dX12_looks_88 ?_
              refine G_iload_n 89 hC rfl dX12_looks_89 ?_
              refine G_iconst 90 hC (nI 1) (by decide) dX12_looks_90 ?_
              refine G_iaddN 91 hC dX12_looks_91 ?_
              refine G_istore_n 92 hC 2 rfl (by decide) (ls' := [_, _, _]) rfl dX12_looks_92 ?_
              exact loop2 _ (j + 1) _ rfl (by omega) hW
      · refine G_iload_n 15 hC rfl dX12_looks_15 ?_
        refine G_aload_n 16 hC rfl dX12_looks_16 ?_
        refine N_getI 17 hC hF fl_X12_101_11 rfl dX12_looks_17 ?_
        rw [hnt]
        refine G_icmp_ge 20 49 hC dX12_looks_20 (by decide) (fun h20 => ?_) (fun h20 => ?_)
        · have ajt : j = t := by
            first
              | exact absurd h245 h12
              | (have z := (nI_leI (by omega) (by omega)).mp h20; omega)
              | (rcases Nat.lt_or_ge j t with z | z
                 · rcases hsk j z with y | y
                   · exact absurd y h30
                   · exact absurd h40 (Int32.not_le.mpr y)
                 · omega)
          subst ajt
          refine G_aload_n 49 hC rfl dX12_looks_49 ?_
          refine M_getR 50 hC hF fl_X12_68_11 rfl rfl dX12_looks_50 ?_
          refine G_sipush 53 hC (nI 245) (by decide) dX12_looks_53 ?_
          refine N_iald 56 hC hF rfl (by omega) dX12_looks_56 ?_
          refine G_bipush 57 hC (-9) (by decide) dX12_looks_57 ?_
          refine G_icmp_ne 59 163 hC dX12_looks_59 (by decide) (fun h59 => ?_) (fun h59 => ?_)
          · exact absurd h245 h59
          · refine G_iload_n 62 hC rfl dX12_looks_62 ?_
            refine G_aload_n 63 hC rfl dX12_looks_63 ?_
            refine N_getI 64 hC hF fl_X12_101_11 rfl dX12_looks_64 ?_
            rw [hnt]
            refine G_icmp_ge 67 163 hC dX12_looks_67 (by decide) (fun h67 => ?_) (fun h67 => ?_)
            · exact absurd ((nI_leI (by omega) (by omega)).mp h67) (by omega)
            · refine G_aload_n 70 hC rfl dX12_looks_70 ?_
              refine G_iload_n 71 hC rfl dX12_looks_71 ?_
              refine G_iconst 72 hC (nI 0) (by decide) dX12_looks_72 ?_
              refine G_callV1 73 hC (n_at hF (by omega) (by omega)) okX12_at lk_X12_173 ((hF.sh (o := 0) rfl (by decide)).1) rfl rfl rfl rfl (Nat.le_of_ble_eq_true rfl) (by decide) (by decide) dX12_looks_73 ?_
              refine G_iconst 76 hC (nI 2) (by decide) dX12_looks_76 ?_
              refine G_icmp_ne 77 163 hC dX12_looks_77 (by decide) (fun h77 => ?_) (fun h77 => ?_)
              · exact absurd h2 h77
              · refine G_aload_n 80 hC rfl dX12_looks_80 ?_
                refine M_getR 81 hC hF fl_X12_68_11 rfl rfl dX12_looks_81 ?_
                refine G_sipush 84 hC (nI 245) (by decide) dX12_looks_84 ?_
                refine G_iload_n 87 hC rfl dX12_looks_87 ?_
                refine N_iast 88 hC hF rfl (by omega) dX12_looks_88 ?_
                refine G_iload_n 89 hC rfl dX12_looks_89 ?_
                refine G_iconst 90 hC (nI 1) (by decide) dX12_looks_90 ?_
                refine G_iaddN 91 hC dX12_looks_91 ?_
                refine G_istore_n 92 hC 2 rfl (by decide) (ls' := [_, _, _]) rfl dX12_looks_92 ?_
                exact loop2 _ (j + 1) _ rfl (by omega) hW
        · have a20 : j < nt := by
            rcases Nat.lt_or_ge j nt with z | z
            · exact z
            · exact absurd ((nI_leI (by omega) (by omega)).mpr z) h20
          refine G_aload_n 23 hC rfl dX12_looks_23 ?_
          refine M_getR 24 hC hF fl_X12_26_11 rfl rfl dX12_looks_24 ?_
          refine G_iload_n 27 hC rfl dX12_looks_27 ?_
          refine N_ialdO 28 hC hF rfl (by decide) (by decide) rfl (by omega) dX12_looks_28 ?_
          refine G_iconst 29 hC (nI 4) (by decide) dX12_looks_29 ?_
          refine G_icmp_eq 30 43 hC dX12_looks_30 (by decide) (fun h30 => ?_) (fun h30 => ?_)
          · have askip : skipR r n j := by first | exact Or.inl h30 | exact Or.inr (Int32.not_le.mp h40)
            have ajt : j < t := by
              rcases Nat.lt_or_ge j t with z | z
              · exact z
              · exact absurd (show skipR r n t by rw [show t = j by omega]; exact askip) hns
            first | refine G_iincN 43 hC (by decide) rfl (ls' := [_, _, _]) rfl dX12_looks_43 ?_ | refine G_iinc 43 hC _ rfl (by decide) rfl (ls' := [_, _, _]) rfl dX12_looks_43 ?_
            refine G_goto 46 2 hC dX12_looks_46 (by decide) ?_
            exact ih (j + 1) (by omega) (by omega)
          · refine G_aload_n 33 hC rfl dX12_looks_33 ?_
            refine G_iload_n 34 hC rfl dX12_looks_34 ?_
            refine G_iconst 35 hC (nI 0) (by decide) dX12_looks_35 ?_
            refine G_callV1 36 hC (n_at hF (by omega) (by omega)) okX12_at lk_X12_173 ((hF.sh (o := 0) rfl (by decide)).1) rfl rfl rfl rfl (Nat.le_of_ble_eq_true rfl) (by decide) (by decide) dX12_looks_36 ?_
            refine G_iconst 39 hC (nI 2) (by decide) dX12_looks_39 ?_
            refine G_icmp_le 40 49 hC dX12_looks_40 (by decide) (fun h40 => ?_) (fun h40 => ?_)
            · have ajt : j = t := by
                first
                  | exact absurd h245 h12
                  | (have z := (nI_leI (by omega) (by omega)).mp h20; omega)
                  | (rcases Nat.lt_or_ge j t with z | z
                     · rcases hsk j z with y | y
                       · exact absurd y h30
                       · exact absurd h40 (Int32.not_le.mpr y)
                     · omega)
              subst ajt
              refine G_aload_n 49 hC rfl dX12_looks_49 ?_
              refine M_getR 50 hC hF fl_X12_68_11 rfl rfl dX12_looks_50 ?_
              refine G_sipush 53 hC (nI 245) (by decide) dX12_looks_53 ?_
              refine N_iald 56 hC hF rfl (by omega) dX12_looks_56 ?_
              refine G_bipush 57 hC (-9) (by decide) dX12_looks_57 ?_
              refine G_icmp_ne 59 163 hC dX12_looks_59 (by decide) (fun h59 => ?_) (fun h59 => ?_)
              · exact absurd h245 h59
              · refine G_iload_n 62 hC rfl dX12_looks_62 ?_
                refine G_aload_n 63 hC rfl dX12_looks_63 ?_
                refine N_getI 64 hC hF fl_X12_101_11 rfl dX12_looks_64 ?_
                rw [hnt]
                refine G_icmp_ge 67 163 hC dX12_looks_67 (by decide) (fun h67 => ?_) (fun h67 => ?_)
                · exact absurd ((nI_leI (by omega) (by omega)).mp h67) (by omega)
                · refine G_aload_n 70 hC rfl dX12_looks_70 ?_
                  refine G_iload_n 71 hC rfl dX12_looks_71 ?_
                  refine G_iconst 72 hC (nI 0) (by decide) dX12_looks_72 ?_
                  refine G_callV1 73 hC (n_at hF (by omega) (by omega)) okX12_at lk_X12_173 ((hF.sh (o := 0) rfl (by decide)).1) rfl rfl rfl rfl (Nat.le_of_ble_eq_true rfl) (by decide) (by decide) dX12_looks_73 ?_
                  refine G_iconst 76 hC (nI 2) (by decide) dX12_looks_76 ?_
                  refine G_icmp_ne 77 163 hC dX12_looks_77 (by decide) (fun h77 => ?_) (fun h77 => ?_)
                  · exact absurd h2 h77
                  · refine G_aload_n 80 hC rfl dX12_looks_80 ?_
                    refine M_getR 81 hC hF fl_X12_68_11 rfl rfl dX12_looks_81 ?_
                    refine G_sipush 84 hC (nI 245) (by decide) dX12_looks_84 ?_
                    refine G_iload_n 87 hC rfl dX12_looks_87 ?_
                    refine N_iast 88 hC hF rfl (by omega) dX12_looks_88 ?_
                    refine G_iload_n 89 hC rfl dX12_looks_89 ?_
                    refine G_iconst 90 hC (nI 1) (by decide) dX12_looks_90 ?_
                    refine G_iaddN 91 hC dX12_looks_91 ?_
                    refine G_istore_n 92 hC 2 rfl (by decide) (ls' := [_, _, _]) rfl dX12_looks_92 ?_
                    exact loop2 _ (j + 1) _ rfl (by omega) hW
            · have askip : skipR r n j := by first | exact Or.inl h30 | exact Or.inr (Int32.not_le.mp h40)
              have ajt : j < t := by
                rcases Nat.lt_or_ge j t with z | z
                · exact z
                · exact absurd (show skipR r n t by rw [show t = j by omega]; exact askip) hns
              first | refine G_iincN 43 hC (by decide) rfl (ls' := [_, _, _]) rfl dX12_looks_43 ?_ | refine G_iinc 43 hC _ rfl (by decide) rfl (ls' := [_, _, _]) rfl dX12_looks_43 ?_
              refine G_goto 46 2 hC dX12_looks_46 (by decide) ?_
              exact ih (j + 1) (by omega) (by omega)
  show g 0 [some (vr (some (b + 0))), none, none] [] _ _ N 0 0
  refine G_iconst 0 hC (nI 0) (by decide) dX12_looks_0 ?_
  refine G_istore_n 1 hC 1 rfl (by decide) (ls' := [_, _, _]) rfl dX12_looks_1 ?_
  exact loop _ 0 (Nat.lt_succ_self _) (Nat.zero_le _)
theorem n_turns_take (hF : FixR b N) {h : Nat} (hh : h < 6) (h250 : n (250 + h) = -9) (hM1 : Cq l D B mX12_takes [vr (some (b + 0)), vi (nI h)] (RI b r (up n 240 (n 240 + nI 1)) G) L N none (RI b r n2 G) L) (hM2 : Cq l D B mX12_looks [vr (some (b + 0))] (RI b r n2 G) L N none (RI b r n3 G) L) : Cq l D B mX12_turns [vr (some (b + 0)), vi (nI h)] (RI b r n G) L N none (RI b r n3 G) L := by
  refine Ct.of (M := mX12_turns) (by decide) (Nat.le_of_ble_eq_true rfl) (fun g (hR : Cr l D B RX12 cX12_turns 4 "turns" { frames := 5, cells := 0, slots := 0, locals := 115 } none 0 0 _ g) => ?_)
  have hC := hR.cx
  show g 0 [some (vr (some (b + 0))), some (vi (nI h)), none, none] [] _ _ N 0 0
  refine G_aload_n 0 hC rfl dX12_turns_0 ?_
  refine M_getR 1 hC hF fl_X12_68_11 rfl rfl dX12_turns_1 ?_
  refine G_sipush 4 hC (nI 240) (by decide) dX12_turns_4 ?_
  first | refine G_dup2 7 hC rfl rfl dX12_turns_7 ?_ | refine G_dup2L 7 hC dX12_turns_7 ?_
  refine N_iald 8 hC hF rfl (by omega) dX12_turns_8 ?_
  refine G_iconst 9 hC (nI 1) (by decide) dX12_turns_9 ?_
  refine G_iadd 10 hC dX12_turns_10 ?_
  refine N_iast 11 hC hF rfl (by omega) dX12_turns_11 ?_
  refine G_aload_n 12 hC rfl dX12_turns_12 ?_
  refine M_getR 13 hC hF fl_X12_68_11 rfl rfl dX12_turns_13 ?_
  refine G_sipush 16 hC (nI 250) (by decide) dX12_turns_16 ?_
  refine G_iload_n 19 hC rfl dX12_turns_19 ?_
  refine G_iaddN 20 hC dX12_turns_20 ?_
  refine N_iald 21 hC hF rfl (by omega) dX12_turns_21 ?_
  refine G_istore_n 22 hC 2 rfl (by decide) (ls' := [_, _, _, _]) rfl dX12_turns_22 ?_
  refine G_iload_n 23 hC rfl dX12_turns_23 ?_
  refine G_bipush 24 hC (-9) (by decide) dX12_turns_24 ?_
  refine G_icmp_ne 26 37 hC dX12_turns_26 (by decide) (fun h26 => ?_) (fun h26 => ?_)
  · exact absurd (by rw [up_ne (show 250 + h ≠ 240 by omega)]; exact h250) h26
  · refine G_aload_n 29 hC rfl dX12_turns_29 ?_
    refine G_iload_n 30 hC rfl dX12_turns_30 ?_
    refine G_callV0 31 hC (hM1) okX12_takes lk_X12_205 ((hF.sh (o := 0) rfl (by decide)).1) rfl rfl rfl rfl (Nat.le_of_ble_eq_true rfl) (by decide) (by decide) dX12_turns_31 ?_
    refine G_goto 34 92 hC dX12_turns_34 (by decide) ?_
    refine G_aload_n 92 hC rfl dX12_turns_92 ?_
    refine G_callV0 93 hC (hM2) okX12_looks lk_X12_214 ((hF.sh (o := 0) rfl (by decide)).1) rfl rfl rfl rfl (Nat.le_of_ble_eq_true rfl) (by decide) (by decide) dX12_turns_93 ?_
    refine R_v 96 hR dX12_turns_96 (Nat.le_refl _) (Nat.le_refl _) ?_
    exact ⟨rfl, rfl, rfl, rfl⟩
theorem n_turns_stop (hF : FixR b N) {h t k0 : Nat} {v : Int32} (hh : h < 6) (ht : t < 20) (h250 : n (250 + h) = nI t) (hv : (n (12 * t + 10) = nI 1 ∧ v = nI 5) ∨ (¬ n (12 * t + 10) = nI 1 ∧ n (12 * t + 11) = nI 1 ∧ v = nI 6)) (hk : n 244 = nI k0) (hk2 : k0 < 40) (hM2 : Cq l D B mX12_looks [vr (some (b + 0))] (RI b r (F_ends r (up (up n 240 (n 240 + nI 1)) (12 * t + 3) (n (12 * t + 3) + nI 1)) t v h k0) G) L N none (RI b r n3 G) L) : Cq l D B mX12_turns [vr (some (b + 0)), vi (nI h)] (RI b r n G) L N none (RI b r n3 G) L := by
  refine Ct.of (M := mX12_turns) (by decide) (Nat.le_of_ble_eq_true rfl) (fun g (hR : Cr l D B RX12 cX12_turns 4 "turns" { frames := 5, cells := 0, slots := 0, locals := 115 } none 0 0 _ g) => ?_)
  have hC := hR.cx
  show g 0 [some (vr (some (b + 0))), some (vi (nI h)), none, none] [] _ _ N 0 0
  refine G_aload_n 0 hC rfl dX12_turns_0 ?_
  refine M_getR 1 hC hF fl_X12_68_11 rfl rfl dX12_turns_1 ?_
  refine G_sipush 4 hC (nI 240) (by decide) dX12_turns_4 ?_
  first | refine G_dup2 7 hC rfl rfl dX12_turns_7 ?_ | refine G_dup2L 7 hC dX12_turns_7 ?_
  refine N_iald 8 hC hF rfl (by omega) dX12_turns_8 ?_
  refine G_iconst 9 hC (nI 1) (by decide) dX12_turns_9 ?_
  refine G_iadd 10 hC dX12_turns_10 ?_
  refine N_iast 11 hC hF rfl (by omega) dX12_turns_11 ?_
  refine G_aload_n 12 hC rfl dX12_turns_12 ?_
  refine M_getR 13 hC hF fl_X12_68_11 rfl rfl dX12_turns_13 ?_
  refine G_sipush 16 hC (nI 250) (by decide) dX12_turns_16 ?_
  refine G_iload_n 19 hC rfl dX12_turns_19 ?_
  refine G_iaddN 20 hC dX12_turns_20 ?_
  refine N_iald 21 hC hF rfl (by omega) dX12_turns_21 ?_
  rw [up_ne (show 250 + h ≠ 240 by omega), h250]
  refine G_istore_n 22 hC 2 rfl (by decide) (ls' := [_, _, _, _]) rfl dX12_turns_22 ?_
  refine G_iload_n 23 hC rfl dX12_turns_23 ?_
  refine G_bipush 24 hC (-9) (by decide) dX12_turns_24 ?_
  refine G_icmp_ne 26 37 hC dX12_turns_26 (by decide) (fun h26 => ?_) (fun h26 => ?_)
  · rcases hv with ⟨hv1, rfl⟩ | ⟨hv1, hv2, rfl⟩
    · refine G_aload_n 37 hC rfl dX12_turns_37 ?_
      refine G_iload_n 38 hC rfl dX12_turns_38 ?_
      refine G_iconst 39 hC (nI 3) (by decide) dX12_turns_39 ?_
      refine G_callV0 40 hC (n_more hF (by omega) (by omega)) okX12_more lk_X12_160 ((hF.sh (o := 0) rfl (by decide)).1) rfl rfl rfl rfl (Nat.le_of_ble_eq_true rfl) (by decide) (by decide) dX12_turns_40 ?_
      rw [up_ne (show 12 * t + 3 ≠ 240 by omega)]
      refine G_aload_n 43 hC rfl dX12_turns_43 ?_
      refine G_iload_n 44 hC rfl dX12_turns_44 ?_
      refine G_bipush 45 hC (nI 10) (by decide) dX12_turns_45 ?_
      refine G_callV1 47 hC (n_at hF (by omega) (by omega)) okX12_at lk_X12_173 ((hF.sh (o := 0) rfl (by decide)).1) rfl rfl rfl rfl (Nat.le_of_ble_eq_true rfl) (by decide) (by decide) dX12_turns_47 ?_
      simp (disch := omega) only [up_ne, up_s]
      refine G_iconst 50 hC (nI 1) (by decide) dX12_turns_50 ?_
      refine G_icmp_ne 51 58 hC dX12_turns_51 (by decide) (fun h51 => ?_) (fun h51 => ?_)
      · exact absurd hv1 h51
      · refine G_iconst 54 hC (nI 5) (by decide) dX12_turns_54 ?_
        refine G_goto 55 79 hC dX12_turns_55 (by decide) ?_
        refine G_istore_n 79 hC 3 rfl (by decide) (ls' := [_, _, _, _]) rfl dX12_turns_79 ?_
        refine G_iload_n 80 hC rfl dX12_turns_80 ?_
        refine G_iconst 81 hC (nI 1) (by decide) dX12_turns_81 ?_
        refine G_icmp_eq 82 92 hC dX12_turns_82 (by decide) (fun h82 => ?_) (fun h82 => ?_)
        · exact absurd h82 (by decide)
        · refine G_aload_n 85 hC rfl dX12_turns_85 ?_
          refine G_iload_n 86 hC rfl dX12_turns_86 ?_
          refine G_iload_n 87 hC rfl dX12_turns_87 ?_
          refine G_iload_n 88 hC rfl dX12_turns_88 ?_
          refine G_callV0 89 hC (n_ends hF (k := k0) (by omega) (by omega) (by simp (disch := omega) only [up_ne, up_s]; exact hk) hk2) okX12_ends lk_X12_211 ((hF.sh (o := 0) rfl (by decide)).1) rfl rfl rfl rfl (Nat.le_of_ble_eq_true rfl) (by decide) (by decide) dX12_turns_89 ?_
          refine G_aload_n 92 hC rfl dX12_turns_92 ?_
          refine G_callV0 93 hC (hM2) okX12_looks lk_X12_214 ((hF.sh (o := 0) rfl (by decide)).1) rfl rfl rfl rfl (Nat.le_of_ble_eq_true rfl) (by decide) (by decide) dX12_turns_93 ?_
          refine R_v 96 hR dX12_turns_96 (Nat.le_refl _) (Nat.le_refl _) ?_
          exact ⟨rfl, rfl, rfl, rfl⟩
    · refine G_aload_n 37 hC rfl dX12_turns_37 ?_
      refine G_iload_n 38 hC rfl dX12_turns_38 ?_
      refine G_iconst 39 hC (nI 3) (by decide) dX12_turns_39 ?_
      refine G_callV0 40 hC (n_more hF (by omega) (by omega)) okX12_more lk_X12_160 ((hF.sh (o := 0) rfl (by decide)).1) rfl rfl rfl rfl (Nat.le_of_ble_eq_true rfl) (by decide) (by decide) dX12_turns_40 ?_
      rw [up_ne (show 12 * t + 3 ≠ 240 by omega)]
      refine G_aload_n 43 hC rfl dX12_turns_43 ?_
      refine G_iload_n 44 hC rfl dX12_turns_44 ?_
      refine G_bipush 45 hC (nI 10) (by decide) dX12_turns_45 ?_
      refine G_callV1 47 hC (n_at hF (by omega) (by omega)) okX12_at lk_X12_173 ((hF.sh (o := 0) rfl (by decide)).1) rfl rfl rfl rfl (Nat.le_of_ble_eq_true rfl) (by decide) (by decide) dX12_turns_47 ?_
      simp (disch := omega) only [up_ne, up_s]
      refine G_iconst 50 hC (nI 1) (by decide) dX12_turns_50 ?_
      refine G_icmp_ne 51 58 hC dX12_turns_51 (by decide) (fun h51 => ?_) (fun h51 => ?_)
      · refine G_aload_n 58 hC rfl dX12_turns_58 ?_
        refine G_iload_n 59 hC rfl dX12_turns_59 ?_
        refine G_bipush 60 hC (nI 11) (by decide) dX12_turns_60 ?_
        refine G_callV1 62 hC (n_at hF (by omega) (by omega)) okX12_at lk_X12_173 ((hF.sh (o := 0) rfl (by decide)).1) rfl rfl rfl rfl (Nat.le_of_ble_eq_true rfl) (by decide) (by decide) dX12_turns_62 ?_
        simp (disch := omega) only [up_ne, up_s]
        refine G_iconst 65 hC (nI 1) (by decide) dX12_turns_65 ?_
        refine G_icmp_ne 66 74 hC dX12_turns_66 (by decide) (fun h66 => ?_) (fun h66 => ?_)
        · exact absurd hv2 h66
        · refine G_bipush 69 hC (nI 6) (by decide) dX12_turns_69 ?_
          refine G_goto 71 79 hC dX12_turns_71 (by decide) ?_
          refine G_istore_n 79 hC 3 rfl (by decide) (ls' := [_, _, _, _]) rfl dX12_turns_79 ?_
          refine G_iload_n 80 hC rfl dX12_turns_80 ?_
          refine G_iconst 81 hC (nI 1) (by decide) dX12_turns_81 ?_
          refine G_icmp_eq 82 92 hC dX12_turns_82 (by decide) (fun h82 => ?_) (fun h82 => ?_)
          · exact absurd h82 (by decide)
          · refine G_aload_n 85 hC rfl dX12_turns_85 ?_
            refine G_iload_n 86 hC rfl dX12_turns_86 ?_
            refine G_iload_n 87 hC rfl dX12_turns_87 ?_
            refine G_iload_n 88 hC rfl dX12_turns_88 ?_
            refine G_callV0 89 hC (n_ends hF (k := k0) (by omega) (by omega) (by simp (disch := omega) only [up_ne, up_s]; exact hk) hk2) okX12_ends lk_X12_211 ((hF.sh (o := 0) rfl (by decide)).1) rfl rfl rfl rfl (Nat.le_of_ble_eq_true rfl) (by decide) (by decide) dX12_turns_89 ?_
            refine G_aload_n 92 hC rfl dX12_turns_92 ?_
            refine G_callV0 93 hC (hM2) okX12_looks lk_X12_214 ((hF.sh (o := 0) rfl (by decide)).1) rfl rfl rfl rfl (Nat.le_of_ble_eq_true rfl) (by decide) (by decide) dX12_turns_93 ?_
            refine R_v 96 hR dX12_turns_96 (Nat.le_refl _) (Nat.le_refl _) ?_
            exact ⟨rfl, rfl, rfl, rfl⟩
      · exact absurd h51 hv1
  · exact absurd h26 (nI_n9 (by omega))
theorem n_turns_on (hF : FixR b N) {h t : Nat} (hh : h < 6) (ht : t < 20) (h250 : n (250 + h) = nI t) (h10 : ¬ n (12 * t + 10) = nI 1) (h11 : ¬ n (12 * t + 11) = nI 1) (hM1 : Cq l D B mX12_step [vr (some (b + 0)), vi (nI t)] (RI b r (up (up n 240 (n 240 + nI 1)) (12 * t + 3) (n (12 * t + 3) + nI 1)) G) L N (some (vi (nI 1))) (RI b r n2 G) L1) (hM2 : Cq l D B mX12_looks [vr (some (b + 0))] (RI b r n2 G) L1 N none (RI b r n3 G) L1) : Cq l D B mX12_turns [vr (some (b + 0)), vi (nI h)] (RI b r n G) L N none (RI b r n3 G) L1 := by
  refine Ct.of (M := mX12_turns) (by decide) (Nat.le_of_ble_eq_true rfl) (fun g (hR : Cr l D B RX12 cX12_turns 4 "turns" { frames := 5, cells := 0, slots := 0, locals := 115 } none 0 0 _ g) => ?_)
  have hC := hR.cx
  show g 0 [some (vr (some (b + 0))), some (vi (nI h)), none, none] [] _ _ N 0 0
  refine G_aload_n 0 hC rfl dX12_turns_0 ?_
  refine M_getR 1 hC hF fl_X12_68_11 rfl rfl dX12_turns_1 ?_
  refine G_sipush 4 hC (nI 240) (by decide) dX12_turns_4 ?_
  first | refine G_dup2 7 hC rfl rfl dX12_turns_7 ?_ | refine G_dup2L 7 hC dX12_turns_7 ?_
  refine N_iald 8 hC hF rfl (by omega) dX12_turns_8 ?_
  refine G_iconst 9 hC (nI 1) (by decide) dX12_turns_9 ?_
  refine G_iadd 10 hC dX12_turns_10 ?_
  refine N_iast 11 hC hF rfl (by omega) dX12_turns_11 ?_
  refine G_aload_n 12 hC rfl dX12_turns_12 ?_
  refine M_getR 13 hC hF fl_X12_68_11 rfl rfl dX12_turns_13 ?_
  refine G_sipush 16 hC (nI 250) (by decide) dX12_turns_16 ?_
  refine G_iload_n 19 hC rfl dX12_turns_19 ?_
  refine G_iaddN 20 hC dX12_turns_20 ?_
  refine N_iald 21 hC hF rfl (by omega) dX12_turns_21 ?_
  rw [up_ne (show 250 + h ≠ 240 by omega), h250]
  refine G_istore_n 22 hC 2 rfl (by decide) (ls' := [_, _, _, _]) rfl dX12_turns_22 ?_
  refine G_iload_n 23 hC rfl dX12_turns_23 ?_
  refine G_bipush 24 hC (-9) (by decide) dX12_turns_24 ?_
  refine G_icmp_ne 26 37 hC dX12_turns_26 (by decide) (fun h26 => ?_) (fun h26 => ?_)
  · refine G_aload_n 37 hC rfl dX12_turns_37 ?_
    refine G_iload_n 38 hC rfl dX12_turns_38 ?_
    refine G_iconst 39 hC (nI 3) (by decide) dX12_turns_39 ?_
    refine G_callV0 40 hC (n_more hF (by omega) (by omega)) okX12_more lk_X12_160 ((hF.sh (o := 0) rfl (by decide)).1) rfl rfl rfl rfl (Nat.le_of_ble_eq_true rfl) (by decide) (by decide) dX12_turns_40 ?_
    rw [up_ne (show 12 * t + 3 ≠ 240 by omega)]
    refine G_aload_n 43 hC rfl dX12_turns_43 ?_
    refine G_iload_n 44 hC rfl dX12_turns_44 ?_
    refine G_bipush 45 hC (nI 10) (by decide) dX12_turns_45 ?_
    refine G_callV1 47 hC (n_at hF (by omega) (by omega)) okX12_at lk_X12_173 ((hF.sh (o := 0) rfl (by decide)).1) rfl rfl rfl rfl (Nat.le_of_ble_eq_true rfl) (by decide) (by decide) dX12_turns_47 ?_
    simp (disch := omega) only [up_ne, up_s]
    refine G_iconst 50 hC (nI 1) (by decide) dX12_turns_50 ?_
    refine G_icmp_ne 51 58 hC dX12_turns_51 (by decide) (fun h51 => ?_) (fun h51 => ?_)
    · refine G_aload_n 58 hC rfl dX12_turns_58 ?_
      refine G_iload_n 59 hC rfl dX12_turns_59 ?_
      refine G_bipush 60 hC (nI 11) (by decide) dX12_turns_60 ?_
      refine G_callV1 62 hC (n_at hF (by omega) (by omega)) okX12_at lk_X12_173 ((hF.sh (o := 0) rfl (by decide)).1) rfl rfl rfl rfl (Nat.le_of_ble_eq_true rfl) (by decide) (by decide) dX12_turns_62 ?_
      simp (disch := omega) only [up_ne, up_s]
      refine G_iconst 65 hC (nI 1) (by decide) dX12_turns_65 ?_
      refine G_icmp_ne 66 74 hC dX12_turns_66 (by decide) (fun h66 => ?_) (fun h66 => ?_)
      · refine G_aload_n 74 hC rfl dX12_turns_74 ?_
        refine G_iload_n 75 hC rfl dX12_turns_75 ?_
        refine G_callV1 76 hC (hM1) okX12_step lk_X12_208 ((hF.sh (o := 0) rfl (by decide)).1) rfl rfl rfl rfl (Nat.le_of_ble_eq_true rfl) (by decide) (by decide) dX12_turns_76 ?_
        refine G_istore_n 79 hC 3 rfl (by decide) (ls' := [_, _, _, _]) rfl dX12_turns_79 ?_
        refine G_iload_n 80 hC rfl dX12_turns_80 ?_
        refine G_iconst 81 hC (nI 1) (by decide) dX12_turns_81 ?_
        refine G_icmp_eq 82 92 hC dX12_turns_82 (by decide) (fun h82 => ?_) (fun h82 => ?_)
        · refine G_aload_n 92 hC rfl dX12_turns_92 ?_
          refine G_callV0 93 hC (hM2) okX12_looks lk_X12_214 ((hF.sh (o := 0) rfl (by decide)).1) rfl rfl rfl rfl (Nat.le_of_ble_eq_true rfl) (by decide) (by decide) dX12_turns_93 ?_
          refine R_v 96 hR dX12_turns_96 (Nat.le_refl _) (Nat.le_refl _) ?_
          exact ⟨rfl, rfl, rfl, rfl⟩
        · exact absurd rfl h82
      · exact absurd h66 h11
    · exact absurd h51 h10
  · exact absurd h26 (nI_n9 (by omega))
theorem n_turns_end (hF : FixR b N) {h t k0 : Nat} {v : Int32} (hh : h < 6) (ht : t < 20) (h250 : n (250 + h) = nI t) (h10 : ¬ n (12 * t + 10) = nI 1) (h11 : ¬ n (12 * t + 11) = nI 1) (hv : ¬ v = nI 1) (hk : n2 244 = nI k0) (hk2 : k0 < 40) (hM1 : Cq l D B mX12_step [vr (some (b + 0)), vi (nI t)] (RI b r (up (up n 240 (n 240 + nI 1)) (12 * t + 3) (n (12 * t + 3) + nI 1)) G) L N (some (vi v)) (RI b r n2 G) L1) (hM2 : Cq l D B mX12_looks [vr (some (b + 0))] (RI b r (F_ends r n2 t v h k0) G) L1 N none (RI b r n3 G) L1) : Cq l D B mX12_turns [vr (some (b + 0)), vi (nI h)] (RI b r n G) L N none (RI b r n3 G) L1 := by
  refine Ct.of (M := mX12_turns) (by decide) (Nat.le_of_ble_eq_true rfl) (fun g (hR : Cr l D B RX12 cX12_turns 4 "turns" { frames := 5, cells := 0, slots := 0, locals := 115 } none 0 0 _ g) => ?_)
  have hC := hR.cx
  show g 0 [some (vr (some (b + 0))), some (vi (nI h)), none, none] [] _ _ N 0 0
  refine G_aload_n 0 hC rfl dX12_turns_0 ?_
  refine M_getR 1 hC hF fl_X12_68_11 rfl rfl dX12_turns_1 ?_
  refine G_sipush 4 hC (nI 240) (by decide) dX12_turns_4 ?_
  first | refine G_dup2 7 hC rfl rfl dX12_turns_7 ?_ | refine G_dup2L 7 hC dX12_turns_7 ?_
  refine N_iald 8 hC hF rfl (by omega) dX12_turns_8 ?_
  refine G_iconst 9 hC (nI 1) (by decide) dX12_turns_9 ?_
  refine G_iadd 10 hC dX12_turns_10 ?_
  refine N_iast 11 hC hF rfl (by omega) dX12_turns_11 ?_
  refine G_aload_n 12 hC rfl dX12_turns_12 ?_
  refine M_getR 13 hC hF fl_X12_68_11 rfl rfl dX12_turns_13 ?_
  refine G_sipush 16 hC (nI 250) (by decide) dX12_turns_16 ?_
  refine G_iload_n 19 hC rfl dX12_turns_19 ?_
  refine G_iaddN 20 hC dX12_turns_20 ?_
  refine N_iald 21 hC hF rfl (by omega) dX12_turns_21 ?_
  rw [up_ne (show 250 + h ≠ 240 by omega), h250]
  refine G_istore_n 22 hC 2 rfl (by decide) (ls' := [_, _, _, _]) rfl dX12_turns_22 ?_
  refine G_iload_n 23 hC rfl dX12_turns_23 ?_
  refine G_bipush 24 hC (-9) (by decide) dX12_turns_24 ?_
  refine G_icmp_ne 26 37 hC dX12_turns_26 (by decide) (fun h26 => ?_) (fun h26 => ?_)
  · refine G_aload_n 37 hC rfl dX12_turns_37 ?_
    refine G_iload_n 38 hC rfl dX12_turns_38 ?_
    refine G_iconst 39 hC (nI 3) (by decide) dX12_turns_39 ?_
    refine G_callV0 40 hC (n_more hF (by omega) (by omega)) okX12_more lk_X12_160 ((hF.sh (o := 0) rfl (by decide)).1) rfl rfl rfl rfl (Nat.le_of_ble_eq_true rfl) (by decide) (by decide) dX12_turns_40 ?_
    rw [up_ne (show 12 * t + 3 ≠ 240 by omega)]
    refine G_aload_n 43 hC rfl dX12_turns_43 ?_
    refine G_iload_n 44 hC rfl dX12_turns_44 ?_
    refine G_bipush 45 hC (nI 10) (by decide) dX12_turns_45 ?_
    refine G_callV1 47 hC (n_at hF (by omega) (by omega)) okX12_at lk_X12_173 ((hF.sh (o := 0) rfl (by decide)).1) rfl rfl rfl rfl (Nat.le_of_ble_eq_true rfl) (by decide) (by decide) dX12_turns_47 ?_
    simp (disch := omega) only [up_ne, up_s]
    refine G_iconst 50 hC (nI 1) (by decide) dX12_turns_50 ?_
    refine G_icmp_ne 51 58 hC dX12_turns_51 (by decide) (fun h51 => ?_) (fun h51 => ?_)
    · refine G_aload_n 58 hC rfl dX12_turns_58 ?_
      refine G_iload_n 59 hC rfl dX12_turns_59 ?_
      refine G_bipush 60 hC (nI 11) (by decide) dX12_turns_60 ?_
      refine G_callV1 62 hC (n_at hF (by omega) (by omega)) okX12_at lk_X12_173 ((hF.sh (o := 0) rfl (by decide)).1) rfl rfl rfl rfl (Nat.le_of_ble_eq_true rfl) (by decide) (by decide) dX12_turns_62 ?_
      simp (disch := omega) only [up_ne, up_s]
      refine G_iconst 65 hC (nI 1) (by decide) dX12_turns_65 ?_
      refine G_icmp_ne 66 74 hC dX12_turns_66 (by decide) (fun h66 => ?_) (fun h66 => ?_)
      · refine G_aload_n 74 hC rfl dX12_turns_74 ?_
        refine G_iload_n 75 hC rfl dX12_turns_75 ?_
        refine G_callV1 76 hC (hM1) okX12_step lk_X12_208 ((hF.sh (o := 0) rfl (by decide)).1) rfl rfl rfl rfl (Nat.le_of_ble_eq_true rfl) (by decide) (by decide) dX12_turns_76 ?_
        refine G_istore_n 79 hC 3 rfl (by decide) (ls' := [_, _, _, _]) rfl dX12_turns_79 ?_
        refine G_iload_n 80 hC rfl dX12_turns_80 ?_
        refine G_iconst 81 hC (nI 1) (by decide) dX12_turns_81 ?_
        refine G_icmp_eq 82 92 hC dX12_turns_82 (by decide) (fun h82 => ?_) (fun h82 => ?_)
        · exact absurd h82 hv
        · refine G_aload_n 85 hC rfl dX12_turns_85 ?_
          refine G_iload_n 86 hC rfl dX12_turns_86 ?_
          refine G_iload_n 87 hC rfl dX12_turns_87 ?_
          refine G_iload_n 88 hC rfl dX12_turns_88 ?_
          refine G_callV0 89 hC (n_ends hF (k := k0) (by omega) (by omega) hk hk2) okX12_ends lk_X12_211 ((hF.sh (o := 0) rfl (by decide)).1) rfl rfl rfl rfl (Nat.le_of_ble_eq_true rfl) (by decide) (by decide) dX12_turns_89 ?_
          refine G_aload_n 92 hC rfl dX12_turns_92 ?_
          refine G_callV0 93 hC (hM2) okX12_looks lk_X12_214 ((hF.sh (o := 0) rfl (by decide)).1) rfl rfl rfl rfl (Nat.le_of_ble_eq_true rfl) (by decide) (by decide) dX12_turns_93 ?_
          refine R_v 96 hR dX12_turns_96 (Nat.le_refl _) (Nat.le_refl _) ?_
          exact ⟨rfl, rfl, rfl, rfl⟩
      · exact absurd h66 h11
    · exact absurd h51 h10
  · exact absurd h26 (nI_n9 (by omega))
end M9

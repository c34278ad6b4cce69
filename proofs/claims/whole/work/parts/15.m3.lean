/-! ===== the reference's methods of a run ===== -/
def F_notes (n : Nat → Int32) (k : Nat) (v : Int32) : Nat → Int32 := up (up n (262 + k) v) 244 (nI (k + 1))
def F_ends (r : MI) (n : Nat → Int32) (t : Nat) (v : Int32) (h k : Nat) : Nat → Int32 :=
  F_notes (up (up (up (up (up n (12 * t + 0) v) 242 (n 242 + r 10 t)) (250 + h) (-9)) (256 + h) (n (256 + h) + nI 1)) 247 (n 247 - nI 1)) k (nI (100 * t + 10 * h) + v)
def F_falls (n : Nat → Int32) (t : Nat) (v : Int32) : Nat → Int32 := up (up (up n (12 * t + 0) v) 247 (n 247 - nI 1)) 248 (n 248 - nI 1)
def F_better (n : Nat → Int32) (q : Nat → Int64) (s i : Nat) (v : Int64) : Prop := n (302 + s) = -9 ∨ v < q (20 + s) ∨ (q (20 + s) = v ∧ nI i < n (302 + s))
noncomputable def F_finds (n : Nat → Int32) (q : Nat → Int64) (s i : Nat) (v : Int64) : (Nat → Int32) × (Nat → Int64) := @ite _ (F_better n q s i v) (Classical.propDecidable _) (up n (302 + s) (nI i), up (up q (20 + s) v) (28 + s) v) (n, q)
theorem F_finds_t {n : Nat → Int32} {q : Nat → Int64} {s i : Nat} {v : Int64} (h : F_better n q s i v) : F_finds n q s i v = (up n (302 + s) (nI i), up (up q (20 + s) v) (28 + s) v) := by unfold F_finds; rw [if_pos h]
theorem F_finds_f {n : Nat → Int32} {q : Nat → Int64} {s i : Nat} {v : Int64} (h : ¬ F_better n q s i v) : F_finds n q s i v = (n, q) := by unfold F_finds; rw [if_neg h]
section M3
variable {l : Launch} {D : va_G} {B b : Nat} {N : NT} {r G : MI} {rl GL : ML} {n : Nat → Int32} {q : Nat → Int64} {S : Int64} {I : MI} {L : ML}
theorem n_notes (hF : FixR b N) {k : Nat} {v : Int32} (hk : n 244 = nI k) (hk2 : k < 40) : Cq l D B mX12_notes [vr (some (b + 0)), vi v] (RI b r n G) L N none (RI b r (F_notes n k v) G) L := by
  refine Ct.of (M := mX12_notes) (by decide) (Nat.le_of_ble_eq_true rfl) (fun g (hR : Cr l D B RX12 cX12_notes 2 "notes" { frames := 0, cells := 0, slots := 0, locals := 0 } none 0 0 _ g) => ?_)
  have hC := hR.cx
  show g 0 [some (vr (some (b + 0))), some (vi v)] [] _ _ N 0 0
  refine G_aload_n 0 hC rfl dX12_notes_0 ?_
  refine M_getR 1 hC hF fl_X12_68_11 rfl rfl dX12_notes_1 ?_
  refine G_sipush 4 hC (nI 262) (by decide) dX12_notes_4 ?_
  refine G_aload_n 7 hC rfl dX12_notes_7 ?_
  refine M_getR 8 hC hF fl_X12_68_11 rfl rfl dX12_notes_8 ?_
  refine G_sipush 11 hC (nI 244) (by decide) dX12_notes_11 ?_
  refine N_iald 14 hC hF rfl (by omega) dX12_notes_14 ?_
  refine G_iadd 15 hC dX12_notes_15 ?_
  refine G_iload_n 16 hC rfl dX12_notes_16 ?_
  refine N_iast 17 hC hF (by rw [hk, nI_add]) (by omega) dX12_notes_17 ?_
  refine G_aload_n 18 hC rfl dX12_notes_18 ?_
  refine M_getR 19 hC hF fl_X12_68_11 rfl rfl dX12_notes_19 ?_
  refine G_sipush 22 hC (nI 244) (by decide) dX12_notes_22 ?_
  first | refine G_dup2 25 hC rfl rfl dX12_notes_25 ?_ | refine G_dup2L 25 hC dX12_notes_25 ?_
  refine N_iald 26 hC hF rfl (by omega) dX12_notes_26 ?_
  refine G_iconst 27 hC (nI 1) (by decide) dX12_notes_27 ?_
  refine G_iadd 28 hC dX12_notes_28 ?_
  refine N_iast 29 hC hF rfl (by omega) dX12_notes_29 ?_
  refine R_v 30 hR dX12_notes_30 (Nat.le_refl _) (Nat.le_refl _) ?_
  refine ⟨rfl, ?_, rfl, rfl⟩
  unfold F_notes
  rw [up_ne (show 244 ≠ 262 + k by omega), hk, nI_add]
theorem n_ends (hF : FixR b N) {t h k : Nat} {v : Int32} (ht : t < 20) (hh : h < 6) (hk : n 244 = nI k) (hk2 : k < 40) : Cq l D B mX12_ends [vr (some (b + 0)), vi (nI t), vi v, vi (nI h)] (RI b r n G) L N none (RI b r (F_ends r n t v h k) G) L := by
  refine Ct.of (M := mX12_ends) (by decide) (Nat.le_of_ble_eq_true rfl) (fun g (hR : Cr l D B RX12 cX12_ends 4 "ends" { frames := 1, cells := 0, slots := 0, locals := 23 } none 0 0 _ g) => ?_)
  have hC := hR.cx
  show g 0 [some (vr (some (b + 0))), some (vi (nI t)), some (vi v), some (vi (nI h))] [] _ _ N 0 0
  refine G_aload_n 0 hC rfl dX12_ends_0 ?_
  refine G_iload_n 1 hC rfl dX12_ends_1 ?_
  refine G_iconst 2 hC (nI 0) (by decide) dX12_ends_2 ?_
  refine G_iload_n 3 hC rfl dX12_ends_3 ?_
  refine G_callV0 4 hC (n_set hF (by omega) (by omega)) okX12_set lk_X12_154 ((hF.sh (o := 0) rfl (by decide)).1) rfl rfl rfl rfl (by decide) (by decide) (by decide) dX12_ends_4 ?_
  refine G_aload_n 7 hC rfl dX12_ends_7 ?_
  refine M_getR 8 hC hF fl_X12_68_11 rfl rfl dX12_ends_8 ?_
  refine G_sipush 11 hC (nI 242) (by decide) dX12_ends_11 ?_
  first | refine G_dup2 14 hC rfl rfl dX12_ends_14 ?_ | refine G_dup2L 14 hC dX12_ends_14 ?_
  refine N_iald 15 hC hF rfl (by omega) dX12_ends_15 ?_
  refine G_aload_n 16 hC rfl dX12_ends_16 ?_
  refine M_getR 17 hC hF fl_X12_38_11 rfl rfl dX12_ends_17 ?_
  refine G_iload_n 20 hC rfl dX12_ends_20 ?_
  refine N_ialdO 21 hC hF rfl (by decide) (by decide) rfl (by omega) dX12_ends_21 ?_
  refine G_iadd 22 hC dX12_ends_22 ?_
  refine N_iast 23 hC hF rfl (by omega) dX12_ends_23 ?_
  refine G_aload_n 24 hC rfl dX12_ends_24 ?_
  refine M_getR 25 hC hF fl_X12_68_11 rfl rfl dX12_ends_25 ?_
  refine G_sipush 28 hC (nI 250) (by decide) dX12_ends_28 ?_
  refine G_iload_n 31 hC rfl dX12_ends_31 ?_
  refine G_iaddN 32 hC dX12_ends_32 ?_
  refine G_bipush 33 hC (-9) (by decide) dX12_ends_33 ?_
  refine N_iast 35 hC hF rfl (by omega) dX12_ends_35 ?_
  refine G_aload_n 36 hC rfl dX12_ends_36 ?_
  refine M_getR 37 hC hF fl_X12_68_11 rfl rfl dX12_ends_37 ?_
  refine G_sipush 40 hC (nI 256) (by decide) dX12_ends_40 ?_
  refine G_iload_n 43 hC rfl dX12_ends_43 ?_
  refine G_iaddN 44 hC dX12_ends_44 ?_
  first | refine G_dup2 45 hC rfl rfl dX12_ends_45 ?_ | refine G_dup2L 45 hC dX12_ends_45 ?_
  refine N_iald 46 hC hF rfl (by omega) dX12_ends_46 ?_
  refine G_iconst 47 hC (nI 1) (by decide) dX12_ends_47 ?_
  refine G_iadd 48 hC dX12_ends_48 ?_
  refine N_iast 49 hC hF rfl (by omega) dX12_ends_49 ?_
  refine G_aload_n 50 hC rfl dX12_ends_50 ?_
  refine M_getR 51 hC hF fl_X12_68_11 rfl rfl dX12_ends_51 ?_
  refine G_sipush 54 hC (nI 247) (by decide) dX12_ends_54 ?_
  first | refine G_dup2 57 hC rfl rfl dX12_ends_57 ?_ | refine G_dup2L 57 hC dX12_ends_57 ?_
  refine N_iald 58 hC hF rfl (by omega) dX12_ends_58 ?_
  refine G_iconst 59 hC (nI 1) (by decide) dX12_ends_59 ?_
  refine G_isub 60 hC dX12_ends_60 ?_
  refine N_iast 61 hC hF rfl (by omega) dX12_ends_61 ?_
  refine G_aload_n 62 hC rfl dX12_ends_62 ?_
  refine G_bipush 63 hC (nI 100) (by decide) dX12_ends_63 ?_
  refine G_iload_n 65 hC rfl dX12_ends_65 ?_
  refine G_imulN 66 hC dX12_ends_66 ?_
  refine G_bipush 67 hC (nI 10) (by decide) dX12_ends_67 ?_
  refine G_iload_n 69 hC rfl dX12_ends_69 ?_
  refine G_imulN 70 hC dX12_ends_70 ?_
  refine G_iaddN 71 hC dX12_ends_71 ?_
  refine G_iload_n 72 hC rfl dX12_ends_72 ?_
  refine G_iadd 73 hC dX12_ends_73 ?_
  refine G_callV0 74 hC (n_notes hF (k := k) (by simp (disch := omega) only [up_ne, up_s]; exact hk) hk2) okX12_notes lk_X12_198 ((hF.sh (o := 0) rfl (by decide)).1) rfl rfl rfl rfl (by decide) (by decide) (by decide) dX12_ends_74 ?_
  refine R_v 77 hR dX12_ends_77 (Nat.le_refl _) (Nat.le_refl _) ?_
  refine ⟨rfl, ?_, rfl, rfl⟩
  unfold F_ends
  simp (disch := omega) only [up_ne, up_s]
theorem n_falls (hF : FixR b N) {t : Nat} {v : Int32} (ht : t < 20) : Cq l D B mX12_falls [vr (some (b + 0)), vi (nI t), vi v] (RI b r n G) L N none (RI b r (F_falls n t v) G) L := by
  refine Ct.of (M := mX12_falls) (by decide) (Nat.le_of_ble_eq_true rfl) (fun g (hR : Cr l D B RX12 cX12_falls 3 "falls" { frames := 1, cells := 0, slots := 0, locals := 23 } none 0 0 _ g) => ?_)
  have hC := hR.cx
  show g 0 [some (vr (some (b + 0))), some (vi (nI t)), some (vi v)] [] _ _ N 0 0
  refine G_aload_n 0 hC rfl dX12_falls_0 ?_
  refine G_iload_n 1 hC rfl dX12_falls_1 ?_
  refine G_iconst 2 hC (nI 0) (by decide) dX12_falls_2 ?_
  refine G_iload_n 3 hC rfl dX12_falls_3 ?_
  refine G_callV0 4 hC (n_set hF (by omega) (by omega)) okX12_set lk_X12_154 ((hF.sh (o := 0) rfl (by decide)).1) rfl rfl rfl rfl (by decide) (by decide) (by decide) dX12_falls_4 ?_
  refine G_aload_n 7 hC rfl dX12_falls_7 ?_
  refine M_getR 8 hC hF fl_X12_68_11 rfl rfl dX12_falls_8 ?_
  refine G_sipush 11 hC (nI 247) (by decide) dX12_falls_11 ?_
  first | refine G_dup2 14 hC rfl rfl dX12_falls_14 ?_ | refine G_dup2L 14 hC dX12_falls_14 ?_
  refine N_iald 15 hC hF rfl (by omega) dX12_falls_15 ?_
  refine G_iconst 16 hC (nI 1) (by decide) dX12_falls_16 ?_
  refine G_isub 17 hC dX12_falls_17 ?_
  refine N_iast 18 hC hF rfl (by omega) dX12_falls_18 ?_
  refine G_aload_n 19 hC rfl dX12_falls_19 ?_
  refine M_getR 20 hC hF fl_X12_68_11 rfl rfl dX12_falls_20 ?_
  refine G_sipush 23 hC (nI 248) (by decide) dX12_falls_23 ?_
  first | refine G_dup2 26 hC rfl rfl dX12_falls_26 ?_ | refine G_dup2L 26 hC dX12_falls_26 ?_
  refine N_iald 27 hC hF rfl (by omega) dX12_falls_27 ?_
  refine G_iconst 28 hC (nI 1) (by decide) dX12_falls_28 ?_
  refine G_isub 29 hC dX12_falls_29 ?_
  refine N_iast 30 hC hF rfl (by omega) dX12_falls_30 ?_
  refine R_v 31 hR dX12_falls_31 (Nat.le_refl _) (Nat.le_refl _) ?_
  refine ⟨rfl, ?_, rfl, rfl⟩
  unfold F_falls
  simp (disch := omega) only [up_ne, up_s]
theorem n_finds (hF : FixR b N) {s i : Nat} {v : Int64} (hs : s < 8) : Cq l D B mX12_finds [vr (some (b + 0)), vi (nI s), vi (nI i), vl v] (RI b r n G) (RLg b rl S q GL) N none (RI b r (F_finds n q s i v).1 G) (RLg b rl S (F_finds n q s i v).2 GL) := by
  refine Ct.of (M := mX12_finds) (by decide) (Nat.le_of_ble_eq_true rfl) (fun g (hR : Cr l D B RX12 cX12_finds 6 "finds" { frames := 0, cells := 0, slots := 0, locals := 0 } none 0 0 _ g) => ?_)
  have hC := hR.cx
  show g 0 [some (vr (some (b + 0))), some (vi (nI s)), some (vi (nI i)), some (vl v), none, none] [] _ _ N 0 0
  refine G_aload_n 0 hC rfl dX12_finds_0 ?_
  refine M_getR 1 hC hF fl_X12_68_11 rfl rfl dX12_finds_1 ?_
  refine G_sipush 4 hC (nI 302) (by decide) dX12_finds_4 ?_
  refine G_iload_n 7 hC rfl dX12_finds_7 ?_
  refine G_iaddN 8 hC dX12_finds_8 ?_
  refine N_iald 9 hC hF rfl (by omega) dX12_finds_9 ?_
  refine G_bipush 10 hC (-9) (by decide) dX12_finds_10 ?_
  refine G_icmp_eq 12 57 hC dX12_finds_12 (by decide) (fun h12 => ?_) (fun h12 => ?_)
  · refine G_iconst 57 hC (nI 1) (by decide) dX12_finds_57 ?_
    refine G_goto 58 62 hC dX12_finds_58 (by decide) ?_
    refine G_istore 62 hC (by decide) (ls' := [_, _, _, _, _, _]) rfl dX12_finds_62 ?_
    refine G_iload 64 hC rfl dX12_finds_64 ?_
    first | refine G_if_eq_b 66 100 hC dX12_finds_66 (by decide) (fun h66 => ?_) (fun h66 => ?_) | refine G_if_eq 66 100 hC dX12_finds_66 (by decide) (fun h66 => ?_) (fun h66 => ?_)
    · refine R_v 100 hR dX12_finds_100 (Nat.le_refl _) (Nat.le_refl _) ?_
      first
        | exact absurd h66 (by decide)
        | (have hb : F_better n q s i v := by
             unfold F_better
             first | exact Or.inl h12 | exact Or.inr (Or.inl ((lg_cmp_gt _ _).mp h26)) | exact Or.inr (Or.inr ⟨(lg_cmp_eq _ _).mp h40, Int32.not_le.mp h54⟩)
           refine ⟨rfl, ?_, ?_, rfl⟩ <;> rw [F_finds_t hb])
        | (have hb : ¬ F_better n q s i v := by
             unfold F_better
             rintro (z | z | ⟨z1, z2⟩)
             · exact h12 z
             · exact h26 ((lg_cmp_gt _ _).mpr z)
             · first | exact h40 ((lg_cmp_eq _ _).mpr z1) | exact absurd h54 (Int32.not_le.mpr z2)
           refine ⟨rfl, ?_, ?_, rfl⟩ <;> rw [F_finds_f hb])
    · refine G_aload_n 69 hC rfl dX12_finds_69 ?_
      refine M_getR 70 hC hF fl_X12_74_11 rfl rfl dX12_finds_70 ?_
      refine G_bipush 73 hC (nI 20) (by decide) dX12_finds_73 ?_
      refine G_iload_n 75 hC rfl dX12_finds_75 ?_
      refine G_iaddN 76 hC dX12_finds_76 ?_
      refine G_lload_n 77 hC rfl dX12_finds_77 ?_
      refine Q_last 78 hC hF rfl (by omega) dX12_finds_78 ?_
      refine G_aload_n 79 hC rfl dX12_finds_79 ?_
      refine M_getR 80 hC hF fl_X12_68_11 rfl rfl dX12_finds_80 ?_
      refine G_sipush 83 hC (nI 302) (by decide) dX12_finds_83 ?_
      refine G_iload_n 86 hC rfl dX12_finds_86 ?_
      refine G_iaddN 87 hC dX12_finds_87 ?_
      refine G_iload_n 88 hC rfl dX12_finds_88 ?_
      refine N_iast 89 hC hF rfl (by omega) dX12_finds_89 ?_
      refine G_aload_n 90 hC rfl dX12_finds_90 ?_
      refine M_getR 91 hC hF fl_X12_74_11 rfl rfl dX12_finds_91 ?_
      refine G_bipush 94 hC (nI 28) (by decide) dX12_finds_94 ?_
      refine G_iload_n 96 hC rfl dX12_finds_96 ?_
      refine G_iaddN 97 hC dX12_finds_97 ?_
      refine G_lload_n 98 hC rfl dX12_finds_98 ?_
      refine Q_last 99 hC hF rfl (by omega) dX12_finds_99 ?_
      refine R_v 100 hR dX12_finds_100 (Nat.le_refl _) (Nat.le_refl _) ?_
      first
        | exact absurd h66 (by decide)
        | (have hb : F_better n q s i v := by
             unfold F_better
             first | exact Or.inl h12 | exact Or.inr (Or.inl ((lg_cmp_gt _ _).mp h26)) | exact Or.inr (Or.inr ⟨(lg_cmp_eq _ _).mp h40, Int32.not_le.mp h54⟩)
           refine ⟨rfl, ?_, ?_, rfl⟩ <;> rw [F_finds_t hb])
        | (have hb : ¬ F_better n q s i v := by
             unfold F_better
             rintro (z | z | ⟨z1, z2⟩)
             · exact h12 z
             · exact h26 ((lg_cmp_gt _ _).mpr z)
             · first | exact h40 ((lg_cmp_eq _ _).mpr z1) | exact absurd h54 (Int32.not_le.mpr z2)
           refine ⟨rfl, ?_, ?_, rfl⟩ <;> rw [F_finds_f hb])
  · refine G_aload_n 15 hC rfl dX12_finds_15 ?_
    refine M_getR 16 hC hF fl_X12_74_11 rfl rfl dX12_finds_16 ?_
    refine G_bipush 19 hC (nI 20) (by decide) dX12_finds_19 ?_
    refine G_iload_n 21 hC rfl dX12_finds_21 ?_
    refine G_iaddN 22 hC dX12_finds_22 ?_
    refine Q_lald 23 hC hF rfl (by omega) dX12_finds_23 ?_
    refine G_lload_n 24 hC rfl dX12_finds_24 ?_
    refine G_lcmp 25 hC dX12_finds_25 ?_
    refine G_if_gt 26 57 hC dX12_finds_26 (by decide) (fun h26 => ?_) (fun h26 => ?_)
    · refine G_iconst 57 hC (nI 1) (by decide) dX12_finds_57 ?_
      refine G_goto 58 62 hC dX12_finds_58 (by decide) ?_
      refine G_istore 62 hC (by decide) (ls' := [_, _, _, _, _, _]) rfl dX12_finds_62 ?_
      refine G_iload 64 hC rfl dX12_finds_64 ?_
      first | refine G_if_eq_b 66 100 hC dX12_finds_66 (by decide) (fun h66 => ?_) (fun h66 => ?_) | refine G_if_eq 66 100 hC dX12_finds_66 (by decide) (fun h66 => ?_) (fun h66 => ?_)
      · refine R_v 100 hR dX12_finds_100 (Nat.le_refl _) (Nat.le_refl _) ?_
        first
          | exact absurd h66 (by decide)
          | (have hb : F_better n q s i v := by
               unfold F_better
               first | exact Or.inl h12 | exact Or.inr (Or.inl ((lg_cmp_gt _ _).mp h26)) | exact Or.inr (Or.inr ⟨(lg_cmp_eq _ _).mp h40, Int32.not_le.mp h54⟩)
             refine ⟨rfl, ?_, ?_, rfl⟩ <;> rw [F_finds_t hb])
          | (have hb : ¬ F_better n q s i v := by
               unfold F_better
               rintro (z | z | ⟨z1, z2⟩)
               · exact h12 z
               · exact h26 ((lg_cmp_gt _ _).mpr z)
               · first | exact h40 ((lg_cmp_eq _ _).mpr z1) | exact absurd h54 (Int32.not_le.mpr z2)
             refine ⟨rfl, ?_, ?_, rfl⟩ <;> rw [F_finds_f hb])
      · refine G_aload_n 69 hC rfl dX12_finds_69 ?_
        refine M_getR 70 hC hF fl_X12_74_11 rfl rfl dX12_finds_70 ?_
        refine G_bipush 73 hC (nI 20) (by decide) dX12_finds_73 ?_
        refine G_iload_n 75 hC rfl dX12_finds_75 ?_
        refine G_iaddN 76 hC dX12_finds_76 ?_
        refine G_lload_n 77 hC rfl dX12_finds_77 ?_
        refine Q_last 78 hC hF rfl (by omega) dX12_finds_78 ?_
        refine G_aload_n 79 hC rfl dX12_finds_79 ?_
        refine M_getR 80 hC hF fl_X12_68_11 rfl rfl dX12_finds_80 ?_
        refine G_sipush 83 hC (nI 302) (by decide) dX12_finds_83 ?_
        refine G_iload_n 86 hC rfl dX12_finds_86 ?_
        refine G_iaddN 87 hC dX12_finds_87 ?_
        refine G_iload_n 88 hC rfl dX12_finds_88 ?_
        refine N_iast 89 hC hF rfl (by omega) dX12_finds_89 ?_
        refine G_aload_n 90 hC rfl dX12_finds_90 ?_
        refine M_getR 91 hC hF fl_X12_74_11 rfl rfl dX12_finds_91 ?_
        refine G_bipush 94 hC (nI 28) (by decide) dX12_finds_94 ?_
        refine G_iload_n 96 hC rfl dX12_finds_96 ?_
        refine G_iaddN 97 hC dX12_finds_97 ?_
        refine G_lload_n 98 hC rfl dX12_finds_98 ?_
        refine Q_last 99 hC hF rfl (by omega) dX12_finds_99 ?_
        refine R_v 100 hR dX12_finds_100 (Nat.le_refl _) (Nat.le_refl _) ?_
        first
          | exact absurd h66 (by decide)
          | (have hb : F_better n q s i v := by
               unfold F_better
               first | exact Or.inl h12 | exact Or.inr (Or.inl ((lg_cmp_gt _ _).mp h26)) | exact Or.inr (Or.inr ⟨(lg_cmp_eq _ _).mp h40, Int32.not_le.mp h54⟩)
             refine ⟨rfl, ?_, ?_, rfl⟩ <;> rw [F_finds_t hb])
          | (have hb : ¬ F_better n q s i v := by
               unfold F_better
               rintro (z | z | ⟨z1, z2⟩)
               · exact h12 z
               · exact h26 ((lg_cmp_gt _ _).mpr z)
               · first | exact h40 ((lg_cmp_eq _ _).mpr z1) | exact absurd h54 (Int32.not_le.mpr z2)
             refine ⟨rfl, ?_, ?_, rfl⟩ <;> rw [F_finds_f hb])
    · refine G_aload_n 29 hC rfl dX12_finds_29 ?_
      refine M_getR 30 hC hF fl_X12_74_11 rfl rfl dX12_finds_30 ?_
      refine G_bipush 33 hC (nI 20) (by decide) dX12_finds_33 ?_
      refine G_iload_n 35 hC rfl dX12_finds_35 ?_
      refine G_iaddN 36 hC dX12_finds_36 ?_
      refine Q_lald 37 hC hF rfl (by omega) dX12_finds_37 ?_
      refine G_lload_n 38 hC rfl dX12_finds_38 ?_
      refine G_lcmp 39 hC dX12_finds_39 ?_
      first | refine G_if_ne_b 40 61 hC dX12_finds_40 (by decide) (fun h40 => ?_) (fun h40 => ?_) | refine G_if_ne 40 61 hC dX12_finds_40 (by decide) (fun h40 => ?_) (fun h40 => ?_)
      · refine G_iconst 61 hC (nI 0) (by decide) dX12_finds_61 ?_
        refine G_istore 62 hC (by decide) (ls' := [_, _, _, _, _, _]) rfl dX12_finds_62 ?_
        refine G_iload 64 hC rfl dX12_finds_64 ?_
        first | refine G_if_eq_b 66 100 hC dX12_finds_66 (by decide) (fun h66 => ?_) (fun h66 => ?_) | refine G_if_eq 66 100 hC dX12_finds_66 (by decide) (fun h66 => ?_) (fun h66 => ?_)
        · refine R_v 100 hR dX12_finds_100 (Nat.le_refl _) (Nat.le_refl _) ?_
          first
            | exact absurd h66 (by decide)
            | (have hb : F_better n q s i v := by
                 unfold F_better
                 first | exact Or.inl h12 | exact Or.inr (Or.inl ((lg_cmp_gt _ _).mp h26)) | exact Or.inr (Or.inr ⟨(lg_cmp_eq _ _).mp h40, Int32.not_le.mp h54⟩)
               refine ⟨rfl, ?_, ?_, rfl⟩ <;> rw [F_finds_t hb])
            | (have hb : ¬ F_better n q s i v := by
                 unfold F_better
                 rintro (z | z | ⟨z1, z2⟩)
                 · exact h12 z
                 · exact h26 ((lg_cmp_gt _ _).mpr z)
                 · first | exact h40 ((lg_cmp_eq _ _).mpr z1) | exact absurd h54 (Int32.not_le.mpr z2)
               refine ⟨rfl, ?_, ?_, rfl⟩ <;> rw [F_finds_f hb])
        · refine G_aload_n 69 hC rfl dX12_finds_69 ?_
          refine M_getR 70 hC hF fl_X12_74_11 rfl rfl dX12_finds_70 ?_
          refine G_bipush 73 hC (nI 20) (by decide) dX12_finds_73 ?_
          refine G_iload_n 75 hC rfl dX12_finds_75 ?_
          refine G_iaddN 76 hC dX12_finds_76 ?_
          refine G_lload_n 77 hC rfl dX12_finds_77 ?_
          refine Q_last 78 hC hF rfl (by omega) dX12_finds_78 ?_
          refine G_aload_n 79 hC rfl dX12_finds_79 ?_
          refine M_getR 80 hC hF fl_X12_68_11 rfl rfl dX12_finds_80 ?_
          refine G_sipush 83 hC (nI 302) (by decide) dX12_finds_83 ?_
          refine G_iload_n 86 hC rfl dX12_finds_86 ?_
          refine G_iaddN 87 hC dX12_finds_87 ?_
          refine G_iload_n 88 hC rfl dX12_finds_88 ?_
          refine N_iast 89 hC hF rfl (by omega) dX12_finds_89 ?_
          refine G_aload_n 90 hC rfl dX12_finds_90 ?_
          refine M_getR 91 hC hF fl_X12_74_11 rfl rfl dX12_finds_91 ?_
          refine G_bipush 94 hC (nI 28) (by decide) dX12_finds_94 ?_
          refine G_iload_n 96 hC rfl dX12_finds_96 ?_
          refine G_iaddN 97 hC dX12_finds_97 ?_
          refine G_lload_n 98 hC rfl dX12_finds_98 ?_
          refine Q_last 99 hC hF rfl (by omega) dX12_finds_99 ?_
          refine R_v 100 hR dX12_finds_100 (Nat.le_refl _) (Nat.le_refl _) ?_
          first
            | exact absurd h66 (by decide)
            | (have hb : F_better n q s i v := by
                 unfold F_better
                 first | exact Or.inl h12 | exact Or.inr (Or.inl ((lg_cmp_gt _ _).mp h26)) | exact Or.inr (Or.inr ⟨(lg_cmp_eq _ _).mp h40, Int32.not_le.mp h54⟩)
               refine ⟨rfl, ?_, ?_, rfl⟩ <;> rw [F_finds_t hb])
            | (have hb : ¬ F_better n q s i v := by
                 unfold F_better
                 rintro (z | z | ⟨z1, z2⟩)
                 · exact h12 z
                 · exact h26 ((lg_cmp_gt _ _).mpr z)
                 · first | exact h40 ((lg_cmp_eq _ _).mpr z1) | exact absurd h54 (Int32.not_le.mpr z2)
               refine ⟨rfl, ?_, ?_, rfl⟩ <;> rw [F_finds_f hb])
      · refine G_aload_n 43 hC rfl dX12_finds_43 ?_
        refine M_getR 44 hC hF fl_X12_68_11 rfl rfl dX12_finds_44 ?_
        refine G_sipush 47 hC (nI 302) (by decide) dX12_finds_47 ?_
        refine G_iload_n 50 hC rfl dX12_finds_50 ?_
        refine G_iaddN 51 hC dX12_finds_51 ?_
        refine N_iald 52 hC hF rfl (by omega) dX12_finds_52 ?_
        refine G_iload_n 53 hC rfl dX12_finds_53 ?_
        refine G_icmp_le 54 61 hC dX12_finds_54 (by decide) (fun h54 => ?_) (fun h54 => ?_)
        · refine G_iconst 61 hC (nI 0) (by decide) dX12_finds_61 ?_
          refine G_istore 62 hC (by decide) (ls' := [_, _, _, _, _, _]) rfl dX12_finds_62 ?_
          refine G_iload 64 hC rfl dX12_finds_64 ?_
          first | refine G_if_eq_b 66 100 hC dX12_finds_66 (by decide) (fun h66 => ?_) (fun h66 => ?_) | refine G_if_eq 66 100 hC dX12_finds_66 (by decide) (fun h66 => ?_) (fun h66 => ?_)
          · refine R_v 100 hR dX12_finds_100 (Nat.le_refl _) (Nat.le_refl _) ?_
            first
              | exact absurd h66 (by decide)
              | (have hb : F_better n q s i v := by
                   unfold F_better
                   first | exact Or.inl h12 | exact Or.inr (Or.inl ((lg_cmp_gt _ _).mp h26)) | exact Or.inr (Or.inr ⟨(lg_cmp_eq _ _).mp h40, Int32.not_le.mp h54⟩)
                 refine ⟨rfl, ?_, ?_, rfl⟩ <;> rw [F_finds_t hb])
              | (have hb : ¬ F_better n q s i v := by
                   unfold F_better
                   rintro (z | z | ⟨z1, z2⟩)
                   · exact h12 z
                   · exact h26 ((lg_cmp_gt _ _).mpr z)
                   · first | exact h40 ((lg_cmp_eq _ _).mpr z1) | exact absurd h54 (Int32.not_le.mpr z2)
                 refine ⟨rfl, ?_, ?_, rfl⟩ <;> rw [F_finds_f hb])
          · refine G_aload_n 69 hC rfl dX12_finds_69 ?_
            refine M_getR 70 hC hF fl_X12_74_11 rfl rfl dX12_finds_70 ?_
            refine G_bipush 73 hC (nI 20) (by decide) dX12_finds_73 ?_
            refine G_iload_n 75 hC rfl dX12_finds_75 ?_
            refine G_iaddN 76 hC dX12_finds_76 ?_
            refine G_lload_n 77 hC rfl dX12_finds_77 ?_
            refine Q_last 78 hC hF rfl (by omega) dX12_finds_78 ?_
            refine G_aload_n 79 hC rfl dX12_finds_79 ?_
            refine M_getR 80 hC hF fl_X12_68_11 rfl rfl dX12_finds_80 ?_
            refine G_sipush 83 hC (nI 302) (by decide) dX12_finds_83 ?_
            refine G_iload_n 86 hC rfl dX12_finds_86 ?_
            refine G_iaddN 87 hC dX12_finds_87 ?_
            refine G_iload_n 88 hC rfl dX12_finds_88 ?_
            refine N_iast 89 hC hF rfl (by omega) dX12_finds_89 ?_
            refine G_aload_n 90 hC rfl dX12_finds_90 ?_
            refine M_getR 91 hC hF fl_X12_74_11 rfl rfl dX12_finds_91 ?_
            refine G_bipush 94 hC (nI 28) (by decide) dX12_finds_94 ?_
            refine G_iload_n 96 hC rfl dX12_finds_96 ?_
            refine G_iaddN 97 hC dX12_finds_97 ?_
            refine G_lload_n 98 hC rfl dX12_finds_98 ?_
            refine Q_last 99 hC hF rfl (by omega) dX12_finds_99 ?_
            refine R_v 100 hR dX12_finds_100 (Nat.le_refl _) (Nat.le_refl _) ?_
            first
              | exact absurd h66 (by decide)
              | (have hb : F_better n q s i v := by
                   unfold F_better
                   first | exact Or.inl h12 | exact Or.inr (Or.inl ((lg_cmp_gt _ _).mp h26)) | exact Or.inr (Or.inr ⟨(lg_cmp_eq _ _).mp h40, Int32.not_le.mp h54⟩)
                 refine ⟨rfl, ?_, ?_, rfl⟩ <;> rw [F_finds_t hb])
              | (have hb : ¬ F_better n q s i v := by
                   unfold F_better
                   rintro (z | z | ⟨z1, z2⟩)
                   · exact h12 z
                   · exact h26 ((lg_cmp_gt _ _).mpr z)
                   · first | exact h40 ((lg_cmp_eq _ _).mpr z1) | exact absurd h54 (Int32.not_le.mpr z2)
                 refine ⟨rfl, ?_, ?_, rfl⟩ <;> rw [F_finds_f hb])
        · refine G_iconst 57 hC (nI 1) (by decide) dX12_finds_57 ?_
          refine G_goto 58 62 hC dX12_finds_58 (by decide) ?_
          refine G_istore 62 hC (by decide) (ls' := [_, _, _, _, _, _]) rfl dX12_finds_62 ?_
          refine G_iload 64 hC rfl dX12_finds_64 ?_
          first | refine G_if_eq_b 66 100 hC dX12_finds_66 (by decide) (fun h66 => ?_) (fun h66 => ?_) | refine G_if_eq 66 100 hC dX12_finds_66 (by decide) (fun h66 => ?_) (fun h66 => ?_)
          · refine R_v 100 hR dX12_finds_100 (Nat.le_refl _) (Nat.le_refl _) ?_
            first
              | exact absurd h66 (by decide)
              | (have hb : F_better n q s i v := by
                   unfold F_better
                   first | exact Or.inl h12 | exact Or.inr (Or.inl ((lg_cmp_gt _ _).mp h26)) | exact Or.inr (Or.inr ⟨(lg_cmp_eq _ _).mp h40, Int32.not_le.mp h54⟩)
                 refine ⟨rfl, ?_, ?_, rfl⟩ <;> rw [F_finds_t hb])
              | (have hb : ¬ F_better n q s i v := by
                   unfold F_better
                   rintro (z | z | ⟨z1, z2⟩)
                   · exact h12 z
                   · exact h26 ((lg_cmp_gt _ _).mpr z)
                   · first | exact h40 ((lg_cmp_eq _ _).mpr z1) | exact absurd h54 (Int32.not_le.mpr z2)
                 refine ⟨rfl, ?_, ?_, rfl⟩ <;> rw [F_finds_f hb])
          · refine G_aload_n 69 hC rfl dX12_finds_69 ?_
            refine M_getR 70 hC hF fl_X12_74_11 rfl rfl dX12_finds_70 ?_
            refine G_bipush 73 hC (nI 20) (by decide) dX12_finds_73 ?_
            refine G_iload_n 75 hC rfl dX12_finds_75 ?_
            refine G_iaddN 76 hC dX12_finds_76 ?_
            refine G_lload_n 77 hC rfl dX12_finds_77 ?_
            refine Q_last 78 hC hF rfl (by omega) dX12_finds_78 ?_
            refine G_aload_n 79 hC rfl dX12_finds_79 ?_
            refine M_getR 80 hC hF fl_X12_68_11 rfl rfl dX12_finds_80 ?_
            refine G_sipush 83 hC (nI 302) (by decide) dX12_finds_83 ?_
            refine G_iload_n 86 hC rfl dX12_finds_86 ?_
            refine G_iaddN 87 hC dX12_finds_87 ?_
            refine G_iload_n 88 hC rfl dX12_finds_88 ?_
            refine N_iast 89 hC hF rfl (by omega) dX12_finds_89 ?_
            refine G_aload_n 90 hC rfl dX12_finds_90 ?_
            refine M_getR 91 hC hF fl_X12_74_11 rfl rfl dX12_finds_91 ?_
            refine G_bipush 94 hC (nI 28) (by decide) dX12_finds_94 ?_
            refine G_iload_n 96 hC rfl dX12_finds_96 ?_
            refine G_iaddN 97 hC dX12_finds_97 ?_
            refine G_lload_n 98 hC rfl dX12_finds_98 ?_
            refine Q_last 99 hC hF rfl (by omega) dX12_finds_99 ?_
            refine R_v 100 hR dX12_finds_100 (Nat.le_refl _) (Nat.le_refl _) ?_
            first
              | exact absurd h66 (by decide)
              | (have hb : F_better n q s i v := by
                   unfold F_better
                   first | exact Or.inl h12 | exact Or.inr (Or.inl ((lg_cmp_gt _ _).mp h26)) | exact Or.inr (Or.inr ⟨(lg_cmp_eq _ _).mp h40, Int32.not_le.mp h54⟩)
                 refine ⟨rfl, ?_, ?_, rfl⟩ <;> rw [F_finds_t hb])
              | (have hb : ¬ F_better n q s i v := by
                   unfold F_better
                   rintro (z | z | ⟨z1, z2⟩)
                   · exact h12 z
                   · exact h26 ((lg_cmp_gt _ _).mpr z)
                   · first | exact h40 ((lg_cmp_eq _ _).mpr z1) | exact absurd h54 (Int32.not_le.mpr z2)
                 refine ⟨rfl, ?_, ?_, rfl⟩ <;> rw [F_finds_f hb])
end M3

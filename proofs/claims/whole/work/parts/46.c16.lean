/-! ===== the class: a course begins ===== -/
def F_bwK (k : MI) : Nat → MI
  | 0 => k
  | i + 1 => W_begin (F_bwK k i) (7 + i)
def F_bwL (kl : ML) : Nat → ML
  | 0 => kl
  | i + 1 => upd2 (upd2 (F_bwL kl i) (7 + i) 9 0) (7 + i) 10 0
def F_bhK (k : MI) : Nat → MI
  | 0 => k
  | i + 1 => upd2 (F_bhK k i) (27 + i) 1 (-9)
def F_bhL (N : NT) (P : Nat) (GL kl : ML) : Nat → ML
  | 0 => kl
  | i + 1 => upd2 (upd2 (F_bhL N P GL kl i) (27 + i) 0 0) (27 + i) 2 (GL ((N.1 (P + 3) i).getD 0) 3)
def F_b3 (k : MI) : Nat → MI
  | 0 => k
  | i + 1 => upd2 (upd2 (F_b3 k i) 4 i (-9)) 5 i (nI 0)
def F_b4 (k : MI) (x : Int32) : MI := upd2 (upd2 (upd2 (upd2 (upd2 (upd2 (upd2 (upd2 (upd2 (upd2 k 0 10 x) 0 9 (nI 0)) 0 11 (k 0 1)) 0 12 (nI 0)) 0 13 (nI 0)) 0 14 (nI 0)) 0 15 (-9)) 0 16 (nI 0)) 0 17 (nI 0)) 0 18 (nI 0)
/-- the plan's searches -/
def SeOk (c P : Nat) (N : NT) (ns : Nat) : Prop := ∀ s, s < ns → ∃ sa, N.1 (P + 3) s = some sa ∧ N.2.1 sa = (6, 4) ∧ OutC c sa
section C16
variable {l : Launch} {D : va_G} {B c P : Nat} {N : NT} {k G k2 : MI} {kl GL kl2 : ML} {L : ML}
theorem c_begin (hX : FixC c P N) (hP : FixP c P N) {ns : Nat} {x : Int32} (hns : G P 6 = nI ns) (hns2 : ns ≤ 8) (hSe : SeOk c P N ns) : Cq l D B mX0_begin [vr (some (c + 0)), vi x] (pt c 35 k G) (pt c 35 kl GL) N none (pt c 35 (F_b4 (F_b3 (F_bhK (F_bwK k 20) ns) 6) x) G) (pt c 35 (F_bhL N P GL (F_bwL kl 20) ns) GL) := by
  have hB := hX.b
  refine Ct.of (M := mX0_begin) (by decide) (Nat.le_of_ble_eq_true rfl) (fun g (hR : Cr l D B RX0 cX0_begin 3 "begin" { frames := 1, cells := 0, slots := 0, locals := 22 } none 0 0 _ g) => ?_)
  have hC := hR.cx
  have loop3 : ∀ (f i : Nat), 6 - i = f → i ≤ 6 → g 65 [some (vr (some (c + 0))), some (vi x), some (vi (nI i))] [] (pt c 35 (F_b3 (F_bhK (F_bwK k 20) ns) i) G) (pt c 35 (F_bhL N P GL (F_bwL kl 20) ns) GL) N 0 0 := by
    intro f
    induction f using Nat.strongRecOn with
    | _ f ih =>
      intro i hf hi
      refine G_iload_n 65 hC rfl dX0_begin_65 ?_
      refine G_bipush 66 hC (nI 6) (by decide) dX0_begin_66 ?_
      refine G_icmp_ge 68 92 hC dX0_begin_68 (by decide) (fun h68 => ?_) (fun h68 => ?_)
      · refine G_aload_n 92 hC rfl dX0_begin_92 ?_
        refine G_iload_n 93 hC rfl dX0_begin_93 ?_
        refine B_putI 94 hC hB (rfl) (fp_X0_38_0 _) rfl rfl rfl dX0_begin_94 ?_
        refine G_aload_n 97 hC rfl dX0_begin_97 ?_
        refine G_iconst 98 hC (nI 0) (by decide) dX0_begin_98 ?_
        refine B_putI 99 hC hB (rfl) (fp_X0_75_0 _) rfl rfl rfl dX0_begin_99 ?_
        refine G_aload_n 102 hC rfl dX0_begin_102 ?_
        refine G_aload_n 103 hC rfl dX0_begin_103 ?_
        refine B_getI 104 hC hB (rfl) fl_X0_46_0 rfl dX0_begin_104 ?_
        refine B_putI 107 hC hB (rfl) (fp_X0_78_0 _) rfl rfl rfl dX0_begin_107 ?_
        refine G_aload_n 110 hC rfl dX0_begin_110 ?_
        refine G_iconst 111 hC (nI 0) (by decide) dX0_begin_111 ?_
        refine B_putI 112 hC hB (rfl) (fp_X0_81_0 _) rfl rfl rfl dX0_begin_112 ?_
        refine G_aload_n 115 hC rfl dX0_begin_115 ?_
        refine G_iconst 116 hC (nI 0) (by decide) dX0_begin_116 ?_
        refine B_putI 117 hC hB (rfl) (fp_X0_84_0 _) rfl rfl rfl dX0_begin_117 ?_
        refine G_aload_n 120 hC rfl dX0_begin_120 ?_
        refine G_iconst 121 hC (nI 0) (by decide) dX0_begin_121 ?_
        refine B_putI 122 hC hB (rfl) (fp_X0_87_0 _) rfl rfl rfl dX0_begin_122 ?_
        refine G_aload_n 125 hC rfl dX0_begin_125 ?_
        refine G_bipush 126 hC (-9) (by decide) dX0_begin_126 ?_
        refine B_putI 128 hC hB (rfl) (fp_X0_90_0 _) rfl rfl rfl dX0_begin_128 ?_
        refine G_aload_n 131 hC rfl dX0_begin_131 ?_
        refine G_iconst 132 hC (nI 0) (by decide) dX0_begin_132 ?_
        refine B_putI 133 hC hB (rfl) (fp_X0_93_0 _) rfl rfl rfl dX0_begin_133 ?_
        refine G_aload_n 136 hC rfl dX0_begin_136 ?_
        refine G_iconst 137 hC (nI 0) (by decide) dX0_begin_137 ?_
        refine B_putI 138 hC hB (rfl) (fp_X0_96_0 _) rfl rfl rfl dX0_begin_138 ?_
        refine G_aload_n 141 hC rfl dX0_begin_141 ?_
        refine G_iconst 142 hC (nI 0) (by decide) dX0_begin_142 ?_
        refine B_putI 143 hC hB (rfl) (fp_X0_99_0 _) rfl (by first | rfl | decide) (by first | rfl | decide) dX0_begin_143 ?_
        refine R_v 146 hR dX0_begin_146 (Nat.le_refl _) (Nat.le_refl _) ?_
        have q := (nI_leI (by omega) (by omega)).mp h68
        have ei : i = 6 := by omega
        rw [ei]
        exact ⟨rfl, rfl, rfl, rfl⟩
      · have ai : i < 6 := by
          rcases Nat.lt_or_ge i 6 with q | q
          · exact q
          · exact absurd ((nI_leI (by omega) (by omega)).mpr q) h68
        refine G_aload_n 71 hC rfl dX0_begin_71 ?_
        refine G_getR 72 hC fl_X0_28_0 (hB _ _ (rfl) (by decide)) (hX.held) rfl dX0_begin_72 ?_
        refine G_iload_n 75 hC rfl dX0_begin_75 ?_
        refine G_bipush 76 hC (-9) (by decide) dX0_begin_76 ?_
        refine B_iast 78 hC hB (rfl) (by decide) (rfl) (by omega) dX0_begin_78 ?_
        refine G_aload_n 79 hC rfl dX0_begin_79 ?_
        refine G_getR 80 hC fl_X0_32_0 (hB _ _ (rfl) (by decide)) (hX.ended) rfl dX0_begin_80 ?_
        refine G_iload_n 83 hC rfl dX0_begin_83 ?_
        refine G_iconst 84 hC (nI 0) (by decide) dX0_begin_84 ?_
        refine B_iast 85 hC hB (rfl) (by decide) (rfl) (by omega) dX0_begin_85 ?_
        first | refine G_iincN 86 hC (by decide) rfl (ls' := [_, _, _]) rfl dX0_begin_86 ?_ | refine G_iinc 86 hC _ rfl (by decide) rfl (ls' := [_, _, _]) rfl dX0_begin_86 ?_
        refine G_goto 89 65 hC dX0_begin_89 (by decide) ?_
        exact ih (6 - (i + 1)) (by omega) (i + 1) rfl (by omega)
  have loop2 : ∀ (f i : Nat), ns - i = f → i ≤ ns → g 25 [some (vr (some (c + 0))), some (vi x), some (vi (nI i))] [] (pt c 35 (F_bhK (F_bwK k 20) i) G) (pt c 35 (F_bhL N P GL (F_bwL kl 20) i) GL) N 0 0 := by
    intro f
    induction f using Nat.strongRecOn with
    | _ f ih =>
      intro i hf hi
      refine G_iload_n 25 hC rfl dX0_begin_25 ?_
      refine G_aload_n 26 hC rfl dX0_begin_26 ?_
      refine G_getR 27 hC fl_X0_42_0 (hB _ _ (rfl) (by decide)) (hX.plan) rfl dX0_begin_27 ?_
      refine O_getI 30 hC (hP.sh) (hP.out) fl_X0_57_4 rfl dX0_begin_30 ?_
      rw [hns]
      refine G_icmp_ge 33 63 hC dX0_begin_33 (by decide) (fun h33 => ?_) (fun h33 => ?_)
      · refine G_iconst 63 hC (nI 0) (by decide) dX0_begin_63 ?_
        refine G_istore_n 64 hC 2 rfl (by decide) (ls' := [_, _, _]) rfl dX0_begin_64 ?_
        have q := (nI_leI (by omega) (by omega)).mp h33
        have ei : i = ns := by omega
        rw [ei]
        exact loop3 _ 0 rfl (by omega)
      · have ai : i < ns := by
          rcases Nat.lt_or_ge i ns with q | q
          · exact q
          · exact absurd ((nI_leI (by omega) (by omega)).mpr q) h33
        obtain ⟨sa, hsr, hss, hso⟩ := hSe i ai
        refine G_aload_n 36 hC rfl dX0_begin_36 ?_
        refine G_getR 37 hC fl_X0_19_0 (hB _ _ (rfl) (by decide)) (hX.hunts) rfl dX0_begin_37 ?_
        refine G_iload_n 40 hC rfl dX0_begin_40 ?_
        refine G_aald 41 hC (hB _ _ (rfl) (by decide)) (by decide) (by decide) (rfl) (by omega) (by omega) (hX.hu (by omega)) dX0_begin_41 ?_
        refine G_aload_n 42 hC rfl dX0_begin_42 ?_
        refine G_getR 43 hC fl_X0_42_0 (hB _ _ (rfl) (by decide)) (hX.plan) rfl dX0_begin_43 ?_
        refine G_getR 46 hC fl_X0_62_4 (hP.sh) (hP.rse) rfl dX0_begin_46 ?_
        refine G_iload_n 49 hC rfl dX0_begin_49 ?_
        refine G_aald 50 hC (hP.se) (by decide) (by decide) (rfl) (by omega) (by omega) (hsr) dX0_begin_50 ?_
        refine O_getL 51 hC (hss) (hso) fl_X0_66_6 rfl dX0_begin_51 ?_
        refine G_callV0 54 hC (c_Hunt_begin hB (shC_h (by omega))) okX2_begin lk_X0_72 (hB _ _ (shC_h (by omega)) (by decide)) rfl rfl rfl rfl (Nat.le_of_ble_eq_true rfl) (by decide) (by decide) dX0_begin_54 ?_
        first | refine G_iincN 57 hC (by decide) rfl (ls' := [_, _, _]) rfl dX0_begin_57 ?_ | refine G_iinc 57 hC _ rfl (by decide) rfl (ls' := [_, _, _]) rfl dX0_begin_57 ?_
        refine G_goto 60 25 hC dX0_begin_60 (by decide) ?_
        have y := ih (ns - (i + 1)) (by omega) (i + 1) rfl (by omega)
        unfold F_bhK F_bhL at y
        rw [hsr] at y
        exact y
  have loop1 : ∀ (f i : Nat), 20 - i = f → i ≤ 20 → g 2 [some (vr (some (c + 0))), some (vi x), some (vi (nI i))] [] (pt c 35 (F_bwK k i) G) (pt c 35 (F_bwL kl i) GL) N 0 0 := by
    intro f
    induction f using Nat.strongRecOn with
    | _ f ih =>
      intro i hf hi
      refine G_iload_n 2 hC rfl dX0_begin_2 ?_
      refine G_bipush 3 hC (nI 20) (by decide) dX0_begin_3 ?_
      refine G_icmp_ge 5 23 hC dX0_begin_5 (by decide) (fun h5 => ?_) (fun h5 => ?_)
      · refine G_iconst 23 hC (nI 0) (by decide) dX0_begin_23 ?_
        refine G_istore_n 24 hC 2 rfl (by decide) (ls' := [_, _, _]) rfl dX0_begin_24 ?_
        have q := (nI_leI (by omega) (by omega)).mp h5
        have ei : i = 20 := by omega
        rw [ei]
        exact loop2 _ 0 rfl (by omega)
      · have ai : i < 20 := by
          rcases Nat.lt_or_ge i 20 with q | q
          · exact q
          · exact absurd ((nI_leI (by omega) (by omega)).mpr q) h5
        refine G_aload_n 8 hC rfl dX0_begin_8 ?_
        refine G_getR 9 hC fl_X0_11_0 (hB _ _ (rfl) (by decide)) (hX.works) rfl dX0_begin_9 ?_
        refine G_iload_n 12 hC rfl dX0_begin_12 ?_
        refine G_aald 13 hC (hB _ _ (rfl) (by decide)) (by decide) (by decide) (rfl) (by omega) (by omega) (hX.wk (by omega)) dX0_begin_13 ?_
        refine G_callV0 14 hC (c_Work_begin hB (shC_w (by omega))) okX10_begin lk_X0_54 (hB _ _ (shC_w (by omega)) (by decide)) rfl rfl rfl rfl (Nat.le_of_ble_eq_true rfl) (by decide) (by decide) dX0_begin_14 ?_
        first | refine G_iincN 17 hC (by decide) rfl (ls' := [_, _, _]) rfl dX0_begin_17 ?_ | refine G_iinc 17 hC _ rfl (by decide) rfl (ls' := [_, _, _]) rfl dX0_begin_17 ?_
        refine G_goto 20 2 hC dX0_begin_20 (by decide) ?_
        exact ih (20 - (i + 1)) (by omega) (i + 1) rfl (by omega)
  show g 0 [some (vr (some (c + 0))), some (vi x), none] [] _ _ N 0 0
  refine G_iconst 0 hC (nI 0) (by decide) dX0_begin_0 ?_
  refine G_istore_n 1 hC 2 rfl (by decide) (ls' := [_, _, _]) rfl dX0_begin_1 ?_
  exact loop1 _ 0 rfl (by omega)
end C16

/-! ===== the class: a share's steps ===== -/
theorem F_fo_0 {N : NT} {la z i : Nat} (h : F_fo N la z (nI i) = 0) (hi : i < 2 ^ 31) : i < z ∧ ∃ p, N.1 la i = some p := by
  unfold F_fo at h
  split at h
  · rename_i y
    refine ⟨inR_lt y hi, ?_⟩
    rw [nI_clamp hi] at h
    split at h
    · exact absurd h (by decide)
    · rename_i q
      exact Option.ne_none_iff_exists'.mp q
  · exact absurd h (by decide)
theorem GrOk_s {c : Nat} {N : NT} {la z i p : Nat} (h : GrOk c N la z) (hi : i < z) (hp : N.1 la i = some p) : ∃ np y, N.2.1 p = (3, 2) ∧ N.1 p 1 = some np ∧ N.2.1 np = (13, y) ∧ y ≤ 12 ∧ OutC c np := by
  rcases h i hi with q | ⟨p1, np, y, q, w⟩
  · rw [q] at hp; cases hp
  · rw [q] at hp; cases hp; exact ⟨np, y, w⟩
noncomputable def F_sg (d : Int32) (y i o oh : Nat) (k : MI) (kl : ML) : Int32 × (MI × ML) := if d = 0 then (nI 6, (k, kl)) else if kl oh 2 < kl o 9 / d.toInt64 then (-1, (k, kl)) else if inR (k o 8) y then (nI 0, (k, kl)) else (-1, F_of k kl oh (kl o 9 / d.toInt64) (nI i))
noncomputable def F_si (GL : ML) (d : Int32) (np y i o oh it : Nat) (k : MI) (kl : ML) : Int32 × (MI × ML) := if it < y then F_sg d y i o oh (W_rdK k o) (W_rdL kl o (F_worth (GL np it))) else F_sg d y i o oh k kl
noncomputable def F_sil (N : NT) (G : MI) (GL : ML) (sa ga la z i o oh : Nat) (k : MI) (kl : ML) : Int32 × (MI × ML) :=
  if ¬ G ga 0 = G sa 1 then (nI 3, (k, kl)) else if ¬ F_fo N la z (nI i) = 0 then (F_fo N la z (nI i), (k, kl)) else F_si GL (G sa 2) ((N.1 ((N.1 la i).getD 0) 1).getD 0) (N.2.1 ((N.1 ((N.1 la i).getD 0) 1).getD 0)).2 i o oh (k o 8).toNatClampNeg k kl
section FSG
variable {N : NT} {G : MI} {GL : ML} {d : Int32} {sa ga la z np y i o oh it p : Nat} {k : MI} {kl : ML}
theorem F_sg_0 (h : d = 0) : F_sg d y i o oh k kl = (nI 6, (k, kl)) := by unfold F_sg; rw [if_pos h]
theorem F_sg_1 (h : ¬ d = 0) (h1 : kl oh 2 < kl o 9 / d.toInt64) : F_sg d y i o oh k kl = (-1, (k, kl)) := by unfold F_sg; rw [if_neg h, if_pos h1]
theorem F_sg_2 (h : ¬ d = 0) (h1 : kl o 9 / d.toInt64 ≤ kl oh 2) (h2 : inR (k o 8) y) : F_sg d y i o oh k kl = (nI 0, (k, kl)) := by unfold F_sg; rw [if_neg h, if_neg (Int64.not_lt.mpr h1), if_pos h2]
theorem F_sg_3 (h : ¬ d = 0) (h1 : kl o 9 / d.toInt64 ≤ kl oh 2) (h2 : ¬ inR (k o 8) y) : F_sg d y i o oh k kl = (-1, F_of k kl oh (kl o 9 / d.toInt64) (nI i)) := by unfold F_sg; rw [if_neg h, if_neg (Int64.not_lt.mpr h1), if_neg h2]
theorem F_si_t (h : it < y) : F_si GL d np y i o oh it k kl = F_sg d y i o oh (W_rdK k o) (W_rdL kl o (F_worth (GL np it))) := by unfold F_si; rw [if_pos h]
theorem F_si_f (h : ¬ it < y) : F_si GL d np y i o oh it k kl = F_sg d y i o oh k kl := by unfold F_si; rw [if_neg h]
theorem F_sil_c (h : ¬ G ga 0 = G sa 1) : F_sil N G GL sa ga la z i o oh k kl = (nI 3, (k, kl)) := by unfold F_sil; rw [if_pos h]
theorem F_sil_f (hk : G ga 0 = G sa 1) (h : ¬ F_fo N la z (nI i) = 0) : F_sil N G GL sa ga la z i o oh k kl = (F_fo N la z (nI i), (k, kl)) := by unfold F_sil; rw [if_neg (fun q => q hk), if_pos h]
theorem F_sil_ok (hk : G ga 0 = G sa 1) (hi : i < z) (hz : z ≤ 12) (hp : N.1 la i = some p) (hr : N.1 p 1 = some np) (hn : N.2.1 np = (13, y)) (h8 : k o 8 = nI it) (hit : it ≤ 12) : F_sil N G GL sa ga la z i o oh k kl = F_si GL (G sa 2) np y i o oh it k kl := by
  unfold F_sil
  rw [if_neg (fun q => q hk), if_neg (fun q => q (F_fo_ok hi hz hp)), hp, Option.getD_some, hr, Option.getD_some, hn, h8, nI_clamp (by omega)]
end FSG
noncomputable def F_shW (fr to : Int32) (o : Nat) (W : Int32 × (MI × ML)) : MI × ML :=
  if 0 < W.1 then (upd2 (upd2 W.2.1 o 0 (nI 3)) o 1 W.1, W.2.2) else if W.1 = -1 then (if to ≤ fr + W_nlK W.2.1 o o 7 then upd2 (W_nlK W.2.1 o) o 0 (nI 2) else W_nlK W.2.1 o, upd2 W.2.2 o 9 0) else W.2
/-- a share, its search and its grid -/
def ShC (c : Nat) (N : NT) (a sa ga la z : Nat) : Prop := N.2.1 a = (7, 7) ∧ OutC c a ∧ N.1 a 3 = some sa ∧ N.2.1 sa = (6, 4) ∧ OutC c sa ∧ N.1 sa 0 = some ga ∧ N.2.1 ga = (1, 2) ∧ OutC c ga ∧ N.1 ga 1 = some la ∧ N.2.1 la = (16, z) ∧ z ≤ 12 ∧ GrOk c N la z
section C4
variable {l : Launch} {D : va_G} {B c : Nat} {N : NT} {k G : MI} {kl GL : ML} {I : MI} {L : ML}
theorem c_sil (hB : BlkC c N) {a sa ga la z o oh fr ln it : Nat} (hS : ShC c N a sa ga la z) (hw : shC o = (9, 13)) (hh : shC oh = (2, 3)) (hfr : G a 5 = nI fr) (hl : k o 7 = nI ln) (hfl : fr + ln < 2 ^ 31) (hi : k o 8 = nI it) (hit : it ≤ 12) : Cq l D B mX7_stepInLine [vr (some a), vr (some (c + o)), vr (some (c + oh))] (pt c 35 k G) (pt c 35 kl GL) N (some (vi (F_sil N G GL sa ga la z (fr + ln) o oh k kl).1)) (pt c 35 (F_sil N G GL sa ga la z (fr + ln) o oh k kl).2.1 G) (pt c 35 (F_sil N G GL sa ga la z (fr + ln) o oh k kl).2.2 GL) := by
  obtain ⟨hs, ho, hr, hss, hso, hsr, hg, hgo, hgr, hn, hz, hpl⟩ := hS
  obtain ⟨W, hW⟩ : ∃ W, F_sil N G GL sa ga la z (fr + ln) o oh k kl = W := ⟨_, rfl⟩
  rw [hW]
  refine Ct.of (M := mX7_stepInLine) (by decide) (Nat.le_of_ble_eq_true rfl) (fun g (hR : Cr l D B RX7 cX7_stepInLine 8 "stepInLine" { frames := 2, cells := 0, slots := 0, locals := 42 } (some .int) 0 0 _ g) => ?_)
  have hC := hR.cx
  have tail : ∀ (p np y : Nat) (k1 : MI) (kl1 : ML) (x4 : Option MV), N.2.1 p = (3, 2) → N.1 p 1 = some np → N.2.1 np = (13, y) → y ≤ 12 → F_sg (G sa 2) y (fr + ln) o oh k1 kl1 = W → g 92 [some (vr (some a)), some (vr (some (c + o))), some (vr (some (c + oh))), some (vi (nI (fr + ln))), x4, some (vr (some p)), none, none] [] (pt c 35 k1 G) (pt c 35 kl1 GL) N 0 0 := by
    intro p np y k1 kl1 x4 hps hpr hpn hy hE
    refine G_aload_n 92 hC rfl dX7_stepInLine_92 ?_
    refine G_getR 93 hC fl_X7_9_7 (hs) (hr) rfl dX7_stepInLine_93 ?_
    refine O_getI 96 hC (hss) (hso) fl_X7_82_6 rfl dX7_stepInLine_96 ?_
    first | refine G_if_ne_b 99 105 hC dX7_stepInLine_99 (by decide) (fun h99 => ?_) (fun h99 => ?_) | refine G_if_ne 99 105 hC dX7_stepInLine_99 (by decide) (fun h99 => ?_) (fun h99 => ?_)
    · refine G_aload_n 105 hC rfl dX7_stepInLine_105 ?_
      refine B_getL 106 hC hB (hw) fl_X7_85_9 rfl dX7_stepInLine_106 ?_
      refine G_aload_n 109 hC rfl dX7_stepInLine_109 ?_
      refine G_getR 110 hC fl_X7_9_7 (hs) (hr) rfl dX7_stepInLine_110 ?_
      refine O_getI 113 hC (hss) (hso) fl_X7_82_6 rfl dX7_stepInLine_113 ?_
      refine G_i2l 116 hC dX7_stepInLine_116 ?_
      refine G_ldiv 117 hC (i64_ne0 h99) dX7_stepInLine_117 ?_
      refine G_lstore 118 hC (by decide) (ls' := [_, _, _, _, _, _, _, _]) rfl dX7_stepInLine_118 ?_
      refine G_lload 120 hC rfl dX7_stepInLine_120 ?_
      refine G_aload_n 122 hC rfl dX7_stepInLine_122 ?_
      refine B_getL 123 hC hB (hh) fl_X7_89_2 rfl dX7_stepInLine_123 ?_
      refine G_lcmp 126 hC dX7_stepInLine_126 ?_
      refine G_if_le 127 132 hC dX7_stepInLine_127 (by decide) (fun h127 => ?_) (fun h127 => ?_)
      · refine G_aload 132 hC rfl dX7_stepInLine_132 ?_
        refine G_aload_n 134 hC rfl dX7_stepInLine_134 ?_
        refine B_getI 135 hC hB (hw) fl_X7_65_9 rfl dX7_stepInLine_135 ?_
        refine G_callV1 138 hC (c_Line_has hps hpr hpn hy) okX3_has lk_X7_68 (hps) rfl rfl rfl rfl (Nat.le_of_ble_eq_true rfl) (by decide) (by decide) dX7_stepInLine_138 ?_
        first | refine G_if_eq_b 141 146 hC dX7_stepInLine_141 (by decide) (fun h141 => ?_) (fun h141 => ?_) | refine G_if_eq 141 146 hC dX7_stepInLine_141 (by decide) (fun h141 => ?_) (fun h141 => ?_)
        · refine G_aload_n 146 hC rfl dX7_stepInLine_146 ?_
          refine G_lload 147 hC rfl dX7_stepInLine_147 ?_
          refine G_iload_n 149 hC rfl dX7_stepInLine_149 ?_
          refine G_callV0 150 hC (c_offer hB hh) okX2_offer lk_X7_94 (hB _ _ hh (by decide)) rfl rfl rfl rfl (Nat.le_of_ble_eq_true rfl) (by decide) (by decide) dX7_stepInLine_150 ?_
          refine G_iconst 153 hC (-1) (by decide) dX7_stepInLine_153 ?_
          refine R_i 154 hR (by first | rfl | exact narrow_bI _) dX7_stepInLine_154 (Nat.le_refl _) (Nat.le_refl _) ?_
          rw [← hE, F_sg_3 h99 ((lg_cmp_le _ _).mp h127) h141]
          exact ⟨rfl, rfl, rfl, rfl⟩
        · refine G_iconst 144 hC (nI 0) (by decide) dX7_stepInLine_144 ?_
          refine R_i 145 hR (by first | rfl | exact narrow_bI _) dX7_stepInLine_145 (Nat.le_refl _) (Nat.le_refl _) ?_
          rw [← hE, F_sg_2 h99 ((lg_cmp_le _ _).mp h127) h141]
          exact ⟨rfl, rfl, rfl, rfl⟩
      · refine G_iconst 130 hC (-1) (by decide) dX7_stepInLine_130 ?_
        refine R_i 131 hR (by first | rfl | exact narrow_bI _) dX7_stepInLine_131 (Nat.le_refl _) (Nat.le_refl _) ?_
        rw [← hE, F_sg_1 h99 (Int64.not_le.mp (fun z => h127 ((lg_cmp_le _ _).mpr z)))]
        exact ⟨rfl, rfl, rfl, rfl⟩
    · refine G_bipush 102 hC (nI 6) (by decide) dX7_stepInLine_102 ?_
      refine R_i 104 hR (by first | rfl | exact narrow_bI _) dX7_stepInLine_104 (Nat.le_refl _) (Nat.le_refl _) ?_
      rw [← hE, F_sg_0 h99]
      exact ⟨rfl, rfl, rfl, rfl⟩
  show g 0 [some (vr (some a)), some (vr (some (c + o))), some (vr (some (c + oh))), none, none, none, none, none] [] _ _ N 0 0
  refine G_aload_n 0 hC rfl dX7_stepInLine_0 ?_
  refine O_getI 1 hC (hs) (ho) fl_X7_19_7 rfl dX7_stepInLine_1 ?_
  rw [hfr]
  refine G_aload_n 4 hC rfl dX7_stepInLine_4 ?_
  refine B_getI 5 hC hB (hw) fl_X7_42_9 rfl dX7_stepInLine_5 ?_
  rw [hl]
  refine G_iaddN 8 hC dX7_stepInLine_8 ?_
  refine G_istore_n 9 hC 3 rfl (by decide) (ls' := [_, _, _, _, _, _, _, _]) rfl dX7_stepInLine_9 ?_
  refine G_aload_n 10 hC rfl dX7_stepInLine_10 ?_
  refine G_getR 11 hC fl_X7_9_7 (hs) (hr) rfl dX7_stepInLine_11 ?_
  refine G_getR 14 hC fl_X7_45_6 (hss) (hsr) rfl dX7_stepInLine_14 ?_
  refine O_getI 17 hC (hg) (hgo) fl_X7_51_1 rfl dX7_stepInLine_17 ?_
  refine G_aload_n 20 hC rfl dX7_stepInLine_20 ?_
  refine G_getR 21 hC fl_X7_9_7 (hs) (hr) rfl dX7_stepInLine_21 ?_
  refine O_getI 24 hC (hss) (hso) fl_X7_56_6 rfl dX7_stepInLine_24 ?_
  refine G_icmp_eq 27 32 hC dX7_stepInLine_27 (by decide) (fun h27 => ?_) (fun h27 => ?_)
  · have hk := h27
    refine G_aload_n 32 hC rfl dX7_stepInLine_32 ?_
    refine G_getR 33 hC fl_X7_9_7 (hs) (hr) rfl dX7_stepInLine_33 ?_
    refine G_getR 36 hC fl_X7_45_6 (hss) (hsr) rfl dX7_stepInLine_36 ?_
    refine G_iload_n 39 hC rfl dX7_stepInLine_39 ?_
    refine G_callV1 40 hC (c_faultOf hg hgr hn hz) okX1_faultOf lk_X7_57 (hg) rfl rfl rfl rfl (Nat.le_of_ble_eq_true rfl) (by decide) (by decide) dX7_stepInLine_40 ?_
    refine G_istore 43 hC (by decide) (ls' := [_, _, _, _, _, _, _, _]) rfl dX7_stepInLine_43 ?_
    refine G_iload 45 hC rfl dX7_stepInLine_45 ?_
    first | refine G_if_eq_b 47 53 hC dX7_stepInLine_47 (by decide) (fun h47 => ?_) (fun h47 => ?_) | refine G_if_eq 47 53 hC dX7_stepInLine_47 (by decide) (fun h47 => ?_) (fun h47 => ?_)
    · obtain ⟨hiz, p, hp⟩ := F_fo_0 h47 (by omega)
      obtain ⟨np, y, hps, hpr, hpn, hy, hpo⟩ := GrOk_s hpl hiz hp
      refine G_aload_n 53 hC rfl dX7_stepInLine_53 ?_
      refine G_getR 54 hC fl_X7_9_7 (hs) (hr) rfl dX7_stepInLine_54 ?_
      refine G_getR 57 hC fl_X7_45_6 (hss) (hsr) rfl dX7_stepInLine_57 ?_
      refine G_getR 60 hC fl_X7_61_1 (hg) (hgr) rfl dX7_stepInLine_60 ?_
      refine G_iload_n 63 hC rfl dX7_stepInLine_63 ?_
      refine G_aald 64 hC (hn) (by decide) (by decide) (rfl) (by omega) (by omega) (hp) dX7_stepInLine_64 ?_
      refine G_astore 65 hC (by decide) (ls' := [_, _, _, _, _, _, _, _]) rfl dX7_stepInLine_65 ?_
      refine G_aload 67 hC rfl dX7_stepInLine_67 ?_
      refine G_aload_n 69 hC rfl dX7_stepInLine_69 ?_
      refine B_getI 70 hC hB (hw) fl_X7_65_9 rfl dX7_stepInLine_70 ?_
      rw [hi]
      refine G_callV1 73 hC (c_Line_has hps hpr hpn hy) okX3_has lk_X7_68 (hps) rfl rfl rfl rfl (Nat.le_of_ble_eq_true rfl) (by decide) (by decide) dX7_stepInLine_73 ?_
      first | refine G_if_eq_b 76 92 hC dX7_stepInLine_76 (by decide) (fun h76 => ?_) (fun h76 => ?_) | refine G_if_eq 76 92 hC dX7_stepInLine_76 (by decide) (fun h76 => ?_) (fun h76 => ?_)
      · refine tail _ _ _ _ _ _ hps hpr hpn hy ?_
        rw [← hW, F_sil_ok hk hiz hz hp hpr hpn hi hit]
        first | (rw [F_si_t a76]; rfl) | (rw [F_si_f (fun q => h76 (inR_nI q (by omega)))])
      · have a76 := inR_lt h76 (by omega)
        refine G_aload_n 79 hC rfl dX7_stepInLine_79 ?_
        refine G_aload 80 hC rfl dX7_stepInLine_80 ?_
        refine G_aload_n 82 hC rfl dX7_stepInLine_82 ?_
        refine B_getI 83 hC hB (hw) fl_X7_65_9 rfl dX7_stepInLine_83 ?_
        rw [hi]
        refine G_callV1 86 hC (c_worth hps hpr hpn hpo hy a76) okX3_worth lk_X7_74 (hps) rfl rfl rfl rfl (Nat.le_of_ble_eq_true rfl) (by decide) (by decide) dX7_stepInLine_86 ?_
        refine G_callV0 89 hC (c_read hB hw) okX10_read lk_X7_78 (hB _ _ hw (by decide)) rfl rfl rfl rfl (Nat.le_of_ble_eq_true rfl) (by decide) (by decide) dX7_stepInLine_89 ?_
        refine tail _ _ _ _ _ _ hps hpr hpn hy ?_
        rw [← hW, F_sil_ok hk hiz hz hp hpr hpn hi hit]
        first | (rw [F_si_t a76]; rfl) | (rw [F_si_f (fun q => h76 (inR_nI q (by omega)))])
    · refine G_iload 50 hC rfl dX7_stepInLine_50 ?_
      refine R_i 52 hR (by first | rfl | exact narrow_bI _) dX7_stepInLine_52 (Nat.le_refl _) (Nat.le_refl _) ?_
      have hk := h27
      rw [← hW, F_sil_f hk h47]
      exact ⟨rfl, rfl, rfl, rfl⟩
  · refine G_iconst 30 hC (nI 3) (by decide) dX7_stepInLine_30 ?_
    refine R_i 31 hR (by first | rfl | exact narrow_bI _) dX7_stepInLine_31 (Nat.le_refl _) (Nat.le_refl _) ?_
    rw [← hW, F_sil_c h27]
    exact ⟨rfl, rfl, rfl, rfl⟩
theorem c_Share_no (hB : BlkC c N) {a o : Nat} (hs : N.2.1 a = (7, 7)) (ho : OutC c a) (hw : shC o = (9, 13)) (hft : G a 6 ≤ G a 5) : Cq l D B mX7_step [vr (some a), vr (some (c + o)), vr (some (c + 2))] (pt c 35 k G) L N none (pt c 35 (upd2 k o 0 (nI 2)) G) L := by
  refine Ct.of (M := mX7_step) (by decide) (Nat.le_of_ble_eq_true rfl) (fun g (hR : Cr l D B RX7 cX7_step 4 "step" { frames := 3, cells := 0, slots := 0, locals := 69 } none 0 0 _ g) => ?_)
  have hC := hR.cx
  show g 0 [some (vr (some a)), some (vr (some (c + o))), some (vr (some (c + 2))), none] [] _ _ N 0 0
  refine G_aload_n 0 hC rfl dX7_step_0 ?_
  refine O_getI 1 hC (hs) (ho) fl_X7_19_7 rfl dX7_step_1 ?_
  refine G_aload_n 4 hC rfl dX7_step_4 ?_
  refine O_getI 5 hC (hs) (ho) fl_X7_22_7 rfl dX7_step_5 ?_
  refine G_icmp_lt 8 17 hC dX7_step_8 (by decide) (fun h8 => ?_) (fun h8 => ?_)
  · exact absurd hft (Int32.not_le.mpr h8)
  · refine G_aload_n 11 hC rfl dX7_step_11 ?_
    refine G_iconst 12 hC (nI 2) (by decide) dX7_step_12 ?_
    refine B_putI 13 hC hB (hw) (fp_X7_25_9 _) rfl rfl rfl dX7_step_13 ?_
    refine R_v 16 hR dX7_step_16 (Nat.le_refl _) (Nat.le_refl _) ?_
    exact ⟨rfl, rfl, rfl, rfl⟩
theorem c_Share_step (hB : BlkC c N) {a sa ga la z o nu fr ln it : Nat} (hS : ShC c N a sa ga la z) (hw : shC o = (9, 13)) (hnu : G a 4 = nI nu) (hnu2 : nu < 8) (hhr : N.1 (c + 2) nu = some (c + (27 + nu))) (hft : ¬ G a 6 ≤ G a 5) (hfr : G a 5 = nI fr) (hl : k o 7 = nI ln) (hfl : fr + ln < 2 ^ 31) (hi : k o 8 = nI it) (hit : it ≤ 12) : Cq l D B mX7_step [vr (some a), vr (some (c + o)), vr (some (c + 2))] (pt c 35 k G) (pt c 35 kl GL) N none (pt c 35 (F_shW (G a 5) (G a 6) o (F_sil N G GL sa ga la z (fr + ln) o (27 + nu) k kl)).1 G) (pt c 35 (F_shW (G a 5) (G a 6) o (F_sil N G GL sa ga la z (fr + ln) o (27 + nu) k kl)).2 GL) := by
  have hsil := c_sil (l := l) (D := D) (B := B) (kl := kl) (GL := GL) hB hS hw (shC_h hnu2) hfr hl hfl hi hit
  obtain ⟨hs, ho, -⟩ := hS
  obtain ⟨W, hW⟩ : ∃ W, F_sil N G GL sa ga la z (fr + ln) o (27 + nu) k kl = W := ⟨_, rfl⟩
  rw [hW] at hsil ⊢
  refine Ct.of (M := mX7_step) (by decide) (Nat.le_of_ble_eq_true rfl) (fun g (hR : Cr l D B RX7 cX7_step 4 "step" { frames := 3, cells := 0, slots := 0, locals := 69 } none 0 0 _ g) => ?_)
  have hC := hR.cx
  show g 0 [some (vr (some a)), some (vr (some (c + o))), some (vr (some (c + 2))), none] [] _ _ N 0 0
  refine G_aload_n 0 hC rfl dX7_step_0 ?_
  refine O_getI 1 hC (hs) (ho) fl_X7_19_7 rfl dX7_step_1 ?_
  refine G_aload_n 4 hC rfl dX7_step_4 ?_
  refine O_getI 5 hC (hs) (ho) fl_X7_22_7 rfl dX7_step_5 ?_
  refine G_icmp_lt 8 17 hC dX7_step_8 (by decide) (fun h8 => ?_) (fun h8 => ?_)
  · refine G_aload_n 17 hC rfl dX7_step_17 ?_
    refine G_aload_n 18 hC rfl dX7_step_18 ?_
    refine G_aload_n 19 hC rfl dX7_step_19 ?_
    refine G_aload_n 20 hC rfl dX7_step_20 ?_
    refine O_getI 21 hC (hs) (ho) fl_X7_15_7 rfl dX7_step_21 ?_
    refine G_aald 24 hC (hB _ _ (rfl) (by decide)) (by decide) (by decide) (hnu) (by omega) (by omega) (hhr) dX7_step_24 ?_
    refine G_callV1 25 hC (hsil) okX7_stepInLine lk_X7_30 (hs) rfl rfl rfl rfl (Nat.le_of_ble_eq_true rfl) (by decide) (by decide) dX7_step_25 ?_
    refine G_istore_n 28 hC 3 rfl (by decide) (ls' := [_, _, _, _]) rfl dX7_step_28 ?_
    refine G_iload_n 29 hC rfl dX7_step_29 ?_
    refine G_if_le 30 38 hC dX7_step_30 (by decide) (fun h30 => ?_) (fun h30 => ?_)
    · refine G_iload_n 38 hC rfl dX7_step_38 ?_
      refine G_iconst 39 hC (-1) (by decide) dX7_step_39 ?_
      refine G_icmp_eq 40 44 hC dX7_step_40 (by decide) (fun h40 => ?_) (fun h40 => ?_)
      · refine G_aload_n 44 hC rfl dX7_step_44 ?_
        refine G_callV0 45 hC (c_nextLine hB hw) okX10_nextLine lk_X7_38 (hB _ _ hw (by decide)) rfl rfl rfl rfl (Nat.le_of_ble_eq_true rfl) (by decide) (by decide) dX7_step_45 ?_
        refine G_aload_n 48 hC rfl dX7_step_48 ?_
        refine O_getI 49 hC (hs) (ho) fl_X7_19_7 rfl dX7_step_49 ?_
        refine G_aload_n 52 hC rfl dX7_step_52 ?_
        refine B_getI 53 hC hB (hw) fl_X7_42_9 rfl dX7_step_53 ?_
        refine G_iadd 56 hC dX7_step_56 ?_
        refine G_aload_n 57 hC rfl dX7_step_57 ?_
        refine O_getI 58 hC (hs) (ho) fl_X7_22_7 rfl dX7_step_58 ?_
        refine G_icmp_lt 61 69 hC dX7_step_61 (by decide) (fun h61 => ?_) (fun h61 => ?_)
        · refine R_v 69 hR dX7_step_69 (Nat.le_refl _) (Nat.le_refl _) ?_
          unfold F_shW
          rw [if_neg (Int32.not_lt.mpr h30), if_pos h40]
          first | (have q : ¬ G a 6 ≤ G a 5 + W_nlK W.2.1 o o 7 := Int32.not_le.mpr h61; rw [if_neg q]; exact ⟨rfl, rfl, rfl, rfl⟩) | (have q : G a 6 ≤ G a 5 + W_nlK W.2.1 o o 7 := Int32.not_lt.mp h61; rw [if_pos q]; exact ⟨rfl, rfl, rfl, rfl⟩)
        · refine G_aload_n 64 hC rfl dX7_step_64 ?_
          refine G_iconst 65 hC (nI 2) (by decide) dX7_step_65 ?_
          refine B_putI 66 hC hB (hw) (fp_X7_25_9 _) rfl rfl rfl dX7_step_66 ?_
          refine R_v 69 hR dX7_step_69 (Nat.le_refl _) (Nat.le_refl _) ?_
          unfold F_shW
          rw [if_neg (Int32.not_lt.mpr h30), if_pos h40]
          first | (have q : ¬ G a 6 ≤ G a 5 + W_nlK W.2.1 o o 7 := Int32.not_le.mpr h61; rw [if_neg q]; exact ⟨rfl, rfl, rfl, rfl⟩) | (have q : G a 6 ≤ G a 5 + W_nlK W.2.1 o o 7 := Int32.not_lt.mp h61; rw [if_pos q]; exact ⟨rfl, rfl, rfl, rfl⟩)
      · refine R_v 43 hR dX7_step_43 (Nat.le_refl _) (Nat.le_refl _) ?_
        unfold F_shW
        rw [if_neg (Int32.not_lt.mpr h30), if_neg h40]
        exact ⟨rfl, rfl, rfl, rfl⟩
    · skip
      · refine G_aload_n 33 hC rfl dX7_step_33 ?_
        refine G_iload_n 34 hC rfl dX7_step_34 ?_
        refine G_callV0 35 hC (c_fail hB hw) okX10_fail lk_X7_34 (hB _ _ hw (by decide)) rfl rfl rfl rfl (Nat.le_of_ble_eq_true rfl) (by decide) (by decide) dX7_step_35 ?_
        refine G_iload_n 38 hC rfl dX7_step_38 ?_
        refine G_iconst 39 hC (-1) (by decide) dX7_step_39 ?_
        refine G_icmp_eq 40 44 hC dX7_step_40 (by decide) (fun h40 => ?_) (fun h40 => ?_)
        · exact absurd (by rw [h40]; decide) h30
        · refine R_v 43 hR dX7_step_43 (Nat.le_refl _) (Nat.le_refl _) ?_
          unfold F_shW
          rw [if_pos (Int32.not_le.mp h30)]
          exact ⟨rfl, rfl, rfl, rfl⟩
  · exact absurd (Int32.not_lt.mp h8) hft
end C4

/-! ===== the class: two courses found the same, the whole ===== -/
abbrev HAs (k : MI) (kl : ML) (G : MI) (GL : ML) (d s : Nat) : Prop := k (27 + s) 1 = G (d + (27 + s)) 1 ∧ kl (27 + s) 0 = GL (d + (27 + s)) 0
section C20
variable {l : Launch} {D : va_G} {B c d P : Nat} {N : NT} {k G : MI} {kl GL : ML} {L : ML}
theorem c_foundAs (hX : FixC c P N) (hY : FixC d P N) (hP : FixP c P N) (hcd : d + 35 ≤ c ∨ c + 35 ≤ d) {nt ns : Nat} (hnt : G P 5 = nI nt) (hnt2 : nt ≤ 20) (hns : G P 6 = nI ns) (hns2 : ns ≤ 8) (hT : TkOk c P N nt) {v1 v2 : Int64} (hA1 : Cq l D B mX0_answerOf [vr (some (c + 0)), vi (k 0 15)] (pt c 35 k G) (pt c 35 kl GL) N (some (vl v1)) (pt c 35 k G) (pt c 35 kl GL)) (hA2 : Cq l D B mX0_answerOf [vr (some (d + 0)), vi (k 0 15)] (pt c 35 k G) (pt c 35 kl GL) N (some (vl v2)) (pt c 35 k G) (pt c 35 kl GL)) {p : Prop} [Decidable p] (hp : p ↔ ((k 0 15 = G (d + 0) 15 ∧ v1 = v2) ∧ ∀ t, t < nt → EA k G (tkA N P t) d t) ∧ ∀ s, s < ns → HAs k kl G GL d s) : Cq l D B mX0_foundAs [vr (some (c + 0)), vr (some (d + 0))] (pt c 35 k G) (pt c 35 kl GL) N (some (vi (bI p))) (pt c 35 k G) (pt c 35 kl GL) := by
  have hB := hX.b
  have hD := hY.b
  refine Ct.of (M := mX0_foundAs) (by decide) (Nat.le_of_ble_eq_true rfl) (fun g (hR : Cr l D B RX0 cX0_foundAs 3 "foundAs" { frames := 2, cells := 0, slots := 0, locals := 44 } (some .boolean) 0 0 _ g) => ?_)
  have hC := hR.cx
  have loop2 : ∀ (f i : Nat), ns - i = f → i ≤ ns → (k 0 15 = G (d + 0) 15 ∧ v1 = v2) → (∀ t, t < nt → EA k G (tkA N P t) d t) → (∀ s, s < i → HAs k kl G GL d s) → g 65 [some (vr (some (c + 0))), some (vr (some (d + 0))), some (vi (nI i))] [] (pt c 35 k G) (pt c 35 kl GL) N 0 0 := by
    intro f
    induction f using Nat.strongRecOn with
    | _ f ih =>
      intro i hf hi hq hall hsr
      refine G_iload_n 65 hC rfl dX0_foundAs_65 ?_
      refine G_aload_n 66 hC rfl dX0_foundAs_66 ?_
      refine G_getR 67 hC fl_X0_42_0 (hB _ _ (rfl) (by decide)) (hX.plan) rfl dX0_foundAs_67 ?_
      refine O_getI 70 hC (hP.sh) (hP.out) fl_X0_57_4 rfl dX0_foundAs_70 ?_
      rw [hns]
      refine G_icmp_ge 73 127 hC dX0_foundAs_73 (by decide) (fun h73 => ?_) (fun h73 => ?_)
      · refine G_iconst 127 hC (nI 1) (by decide) dX0_foundAs_127 ?_
        refine R_i 128 hR (by first | rfl | exact narrow_bI _) dX0_foundAs_128 (Nat.le_refl _) (Nat.le_refl _) ?_
        have q := (nI_leI (by omega) (by omega)).mp h73
        have ei : i = ns := by omega
        subst ei
        exact ⟨congrArg (fun z => some (vi z)) (bI_t (hp.mpr ⟨⟨hq, hall⟩, hsr⟩)), rfl, rfl, rfl⟩
      · have ai : i < ns := by
          rcases Nat.lt_or_ge i ns with q | q
          · exact q
          · exact absurd ((nI_leI (by omega) (by omega)).mpr q) h73
        refine G_aload_n 76 hC rfl dX0_foundAs_76 ?_
        refine G_getR 77 hC fl_X0_19_0 (hB _ _ (rfl) (by decide)) (hX.hunts) rfl dX0_foundAs_77 ?_
        refine G_iload_n 80 hC rfl dX0_foundAs_80 ?_
        refine G_aald 81 hC (hB _ _ (rfl) (by decide)) (by decide) (by decide) (rfl) (by omega) (by omega) (hX.hu (by omega)) dX0_foundAs_81 ?_
        refine B_getI 82 hC hB (shC_h (by omega)) fl_X0_223_2 rfl dX0_foundAs_82 ?_
        refine G_aload_n 85 hC rfl dX0_foundAs_85 ?_
        refine G_getR 86 hC fl_X0_19_0 (hD 0 _ rfl (by decide)) (hY.hunts) rfl dX0_foundAs_86 ?_
        refine G_iload_n 89 hC rfl dX0_foundAs_89 ?_
        refine G_aald 90 hC (hD 2 _ rfl (by decide)) (by decide) (by decide) (rfl) (by omega) (by omega) (hY.hu (by omega)) dX0_foundAs_90 ?_
        refine O_getI 91 hC (hD _ _ (shC_h (by omega)) (by decide)) (OutD hcd (by omega)) fl_X0_223_2 rfl dX0_foundAs_91 ?_
        refine G_icmp_ne 94 119 hC dX0_foundAs_94 (by decide) (fun h94 => ?_) (fun h94 => ?_)
        · refine G_iconst 119 hC (nI 0) (by decide) dX0_foundAs_119 ?_
          refine R_i 120 hR (by first | rfl | exact narrow_bI _) dX0_foundAs_120 (Nat.le_refl _) (Nat.le_refl _) ?_
          first | exact ⟨congrArg (fun z => some (vi z)) (bI_f (fun y => h94 ((hp.mp y).2 i ai).1)), rfl, rfl, rfl⟩ | exact ⟨congrArg (fun z => some (vi z)) (bI_f (fun y => h116 ((lg_cmp_eq _ _).mpr ((hp.mp y).2 i ai).2))), rfl, rfl, rfl⟩
        · refine G_aload_n 97 hC rfl dX0_foundAs_97 ?_
          refine G_getR 98 hC fl_X0_19_0 (hB _ _ (rfl) (by decide)) (hX.hunts) rfl dX0_foundAs_98 ?_
          refine G_iload_n 101 hC rfl dX0_foundAs_101 ?_
          refine G_aald 102 hC (hB _ _ (rfl) (by decide)) (by decide) (by decide) (rfl) (by omega) (by omega) (hX.hu (by omega)) dX0_foundAs_102 ?_
          refine B_getL 103 hC hB (shC_h (by omega)) fl_X0_226_2 rfl dX0_foundAs_103 ?_
          refine G_aload_n 106 hC rfl dX0_foundAs_106 ?_
          refine G_getR 107 hC fl_X0_19_0 (hD 0 _ rfl (by decide)) (hY.hunts) rfl dX0_foundAs_107 ?_
          refine G_iload_n 110 hC rfl dX0_foundAs_110 ?_
          refine G_aald 111 hC (hD 2 _ rfl (by decide)) (by decide) (by decide) (rfl) (by omega) (by omega) (hY.hu (by omega)) dX0_foundAs_111 ?_
          refine O_getL 112 hC (hD _ _ (shC_h (by omega)) (by decide)) (OutD hcd (by omega)) fl_X0_226_2 rfl dX0_foundAs_112 ?_
          refine G_lcmp 115 hC dX0_foundAs_115 ?_
          first | refine G_if_eq_b 116 121 hC dX0_foundAs_116 (by decide) (fun h116 => ?_) (fun h116 => ?_) | refine G_if_eq 116 121 hC dX0_foundAs_116 (by decide) (fun h116 => ?_) (fun h116 => ?_)
          · first | refine G_iincN 121 hC (by decide) rfl (ls' := [_, _, _]) rfl dX0_foundAs_121 ?_ | refine G_iinc 121 hC _ rfl (by decide) rfl (ls' := [_, _, _]) rfl dX0_foundAs_121 ?_
            refine G_goto 124 65 hC dX0_foundAs_124 (by decide) ?_
            refine ih (ns - (i + 1)) (by omega) (i + 1) rfl (by omega) hq hall (fun t ht => ?_)
            rcases Nat.lt_or_ge t i with y | y
            · exact hsr t y
            · have et : t = i := by omega
              subst et
              exact ⟨h94, (lg_cmp_eq _ _).mp h116⟩
          · refine G_iconst 119 hC (nI 0) (by decide) dX0_foundAs_119 ?_
            refine R_i 120 hR (by first | rfl | exact narrow_bI _) dX0_foundAs_120 (Nat.le_refl _) (Nat.le_refl _) ?_
            first | exact ⟨congrArg (fun z => some (vi z)) (bI_f (fun y => h94 ((hp.mp y).2 i ai).1)), rfl, rfl, rfl⟩ | exact ⟨congrArg (fun z => some (vi z)) (bI_f (fun y => h116 ((lg_cmp_eq _ _).mpr ((hp.mp y).2 i ai).2))), rfl, rfl, rfl⟩
  have loop1 : ∀ (f i : Nat), nt - i = f → i ≤ nt → (k 0 15 = G (d + 0) 15 ∧ v1 = v2) → (∀ t, t < i → EA k G (tkA N P t) d t) → g 35 [some (vr (some (c + 0))), some (vr (some (d + 0))), some (vi (nI i))] [] (pt c 35 k G) (pt c 35 kl GL) N 0 0 := by
    intro f
    induction f using Nat.strongRecOn with
    | _ f ih =>
      intro i hf hi hq hall
      refine G_iload_n 35 hC rfl dX0_foundAs_35 ?_
      refine G_aload_n 36 hC rfl dX0_foundAs_36 ?_
      refine G_getR 37 hC fl_X0_42_0 (hB _ _ (rfl) (by decide)) (hX.plan) rfl dX0_foundAs_37 ?_
      refine O_getI 40 hC (hP.sh) (hP.out) fl_X0_102_4 rfl dX0_foundAs_40 ?_
      rw [hnt]
      refine G_icmp_ge 43 63 hC dX0_foundAs_43 (by decide) (fun h43 => ?_) (fun h43 => ?_)
      · refine G_iconst 63 hC (nI 0) (by decide) dX0_foundAs_63 ?_
        refine G_istore_n 64 hC 2 rfl (by decide) (ls' := [_, _, _]) rfl dX0_foundAs_64 ?_
        have q := (nI_leI (by omega) (by omega)).mp h43
        have ei : i = nt := by omega
        subst ei
        exact loop2 _ 0 rfl (Nat.zero_le _) hq hall (fun t ht => absurd ht (Nat.not_lt_zero t))
      · have ai : i < nt := by
          rcases Nat.lt_or_ge i nt with q | q
          · exact q
          · exact absurd ((nI_leI (by omega) (by omega)).mpr q) h43
        obtain ⟨a, hTr, hTs, hTo⟩ := hT i ai
        refine G_aload_n 46 hC rfl dX0_foundAs_46 ?_
        refine G_aload_n 47 hC rfl dX0_foundAs_47 ?_
        refine G_iload_n 48 hC rfl dX0_foundAs_48 ?_
        refine G_callV1 49 hC (c_endedAs hX hY hP hcd (by omega) hTr hTs hTo) okX0_endedAs lk_X0_219 (hB _ _ (rfl) (by decide)) rfl rfl rfl rfl (Nat.le_of_ble_eq_true rfl) (by decide) (by decide) dX0_foundAs_49 ?_
        first | refine G_if_ne_b 52 57 hC dX0_foundAs_52 (by decide) (fun h52 => ?_) (fun h52 => ?_) | refine G_if_ne 52 57 hC dX0_foundAs_52 (by decide) (fun h52 => ?_) (fun h52 => ?_)
        · first | refine G_iincN 57 hC (by decide) rfl (ls' := [_, _, _]) rfl dX0_foundAs_57 ?_ | refine G_iinc 57 hC _ rfl (by decide) rfl (ls' := [_, _, _]) rfl dX0_foundAs_57 ?_
          refine G_goto 60 35 hC dX0_foundAs_60 (by decide) ?_
          refine ih (nt - (i + 1)) (by omega) (i + 1) rfl (by omega) hq (fun t ht => ?_)
          rcases Nat.lt_or_ge t i with y | y
          · exact hall t y
          · have et : t = i := by omega
            subst et
            rw [tkA_of hTr]
            exact h52
        · refine G_iconst 55 hC (nI 0) (by decide) dX0_foundAs_55 ?_
          refine R_i 56 hR (by first | rfl | exact narrow_bI _) dX0_foundAs_56 (Nat.le_refl _) (Nat.le_refl _) ?_
          exact ⟨congrArg (fun z => some (vi z)) (bI_f (fun y => h52 (by have z := (hp.mp y).1.2 i ai; rw [tkA_of hTr] at z; exact z))), rfl, rfl, rfl⟩
  show g 0 [some (vr (some (c + 0))), some (vr (some (d + 0))), none] [] _ _ N 0 0
  refine G_aload_n 0 hC rfl dX0_foundAs_0 ?_
  refine B_getI 1 hC hB (rfl) fl_X0_90_0 rfl dX0_foundAs_1 ?_
  refine G_aload_n 4 hC rfl dX0_foundAs_4 ?_
  refine O_getI 5 hC (hD 0 _ rfl (by decide)) (OutD hcd (by decide)) fl_X0_90_0 rfl dX0_foundAs_5 ?_
  refine G_icmp_ne 8 31 hC dX0_foundAs_8 (by decide) (fun h8 => ?_) (fun h8 => ?_)
  · refine G_iconst 31 hC (nI 0) (by decide) dX0_foundAs_31 ?_
    refine R_i 32 hR (by first | rfl | exact narrow_bI _) dX0_foundAs_32 (Nat.le_refl _) (Nat.le_refl _) ?_
    first | exact ⟨congrArg (fun z => some (vi z)) (bI_f (fun y => h8 (hp.mp y).1.1.1)), rfl, rfl, rfl⟩ | exact ⟨congrArg (fun z => some (vi z)) (bI_f (fun y => h28 ((lg_cmp_eq _ _).mpr (hp.mp y).1.1.2))), rfl, rfl, rfl⟩
  · refine G_aload_n 11 hC rfl dX0_foundAs_11 ?_
    refine G_aload_n 12 hC rfl dX0_foundAs_12 ?_
    refine B_getI 13 hC hB (rfl) fl_X0_90_0 rfl dX0_foundAs_13 ?_
    refine G_callV1 16 hC (hA1) okX0_answerOf lk_X0_215 (hB _ _ (rfl) (by decide)) rfl rfl rfl rfl (Nat.le_of_ble_eq_true rfl) (by decide) (by decide) dX0_foundAs_16 ?_
    refine G_aload_n 19 hC rfl dX0_foundAs_19 ?_
    refine G_aload_n 20 hC rfl dX0_foundAs_20 ?_
    refine B_getI 21 hC hB (rfl) fl_X0_90_0 rfl dX0_foundAs_21 ?_
    refine G_callV1 24 hC (hA2) okX0_answerOf lk_X0_215 (hD 0 _ rfl (by decide)) rfl rfl rfl rfl (Nat.le_of_ble_eq_true rfl) (by decide) (by decide) dX0_foundAs_24 ?_
    refine G_lcmp 27 hC dX0_foundAs_27 ?_
    first | refine G_if_eq_b 28 33 hC dX0_foundAs_28 (by decide) (fun h28 => ?_) (fun h28 => ?_) | refine G_if_eq 28 33 hC dX0_foundAs_28 (by decide) (fun h28 => ?_) (fun h28 => ?_)
    · refine G_iconst 33 hC (nI 0) (by decide) dX0_foundAs_33 ?_
      refine G_istore_n 34 hC 2 rfl (by decide) (ls' := [_, _, _]) rfl dX0_foundAs_34 ?_
      exact loop1 _ 0 rfl (Nat.zero_le _) ⟨h8, (lg_cmp_eq _ _).mp h28⟩ (fun t ht => absurd ht (Nat.not_lt_zero t))
    · refine G_iconst 31 hC (nI 0) (by decide) dX0_foundAs_31 ?_
      refine R_i 32 hR (by first | rfl | exact narrow_bI _) dX0_foundAs_32 (Nat.le_refl _) (Nat.le_refl _) ?_
      first | exact ⟨congrArg (fun z => some (vi z)) (bI_f (fun y => h8 (hp.mp y).1.1.1)), rfl, rfl, rfl⟩ | exact ⟨congrArg (fun z => some (vi z)) (bI_f (fun y => h28 ((lg_cmp_eq _ _).mpr (hp.mp y).1.1.2))), rfl, rfl, rfl⟩
end C20

/-! ===== the class: failed shares are done again ===== -/
section C17
variable {l : Launch} {D : va_G} {B c P : Nat} {N : NT} {k G : MI} {kl GL : ML} {L : ML}
theorem c_failedAgain (hX : FixC c P N) (hP : FixP c P N) {nt : Nat} (hnt : G P 5 = nI nt) (hnt2 : nt ≤ 20) (hT : TkOk c P N nt) {Km : Nat → MI} {Kl : Nat → ML} (hk0 : Km 0 = k) (hl0 : Kl 0 = kl)
    (hN : ∀ i, i < nt → (Km i (7 + i) 0 = nI 3 → ∀ a, N.1 (P + 2) i = some a → ¬ N.2.1 a = (7, 7)) → Km (i + 1) = Km i ∧ Kl (i + 1) = Kl i)
    (hY : ∀ i a, i < nt → N.1 (P + 2) i = some a → Km i (7 + i) 0 = nI 3 → N.2.1 a = (7, 7) → ∃ nu, nu < 8 ∧ G a 4 = nI nu ∧ ∃ k2 kl2 x, Cq l D B mX7_doAgain [vr (some a), vr (some (c + 3)), vr (some (c + (27 + nu)))] (pt c 35 (Km i) G) (pt c 35 (Kl i) GL) N (some (vi x)) (pt c 35 k2 G) (pt c 35 kl2 GL) ∧ Km (i + 1) = upd2 k2 (7 + i) 6 x ∧ Kl (i + 1) = kl2) :
    Cq l D B mX0_doFailedSharesAgain [vr (some (c + 0))] (pt c 35 k G) (pt c 35 kl GL) N none (pt c 35 (Km nt) G) (pt c 35 (Kl nt) GL) := by
  have hB := hX.b
  refine Ct.of (M := mX0_doFailedSharesAgain) (by decide) (Nat.le_of_ble_eq_true rfl) (fun g (hR : Cr l D B RX0 cX0_doFailedSharesAgain 4 "doFailedSharesAgain" { frames := 4, cells := 0, slots := 0, locals := 95 } none 0 0 _ g) => ?_)
  have hC := hR.cx
  have loop : ∀ (f i : Nat) (x2 x3 : Option MV), (x2 = none ∨ ∃ p, x2 = some (vr p)) → nt - i = f → i ≤ nt → g 2 [some (vr (some (c + 0))), some (vi (nI i)), x2, x3] [] (pt c 35 (Km i) G) (pt c 35 (Kl i) GL) N 0 0 := by
    intro f
    induction f using Nat.strongRecOn with
    | _ f ih =>
      intro i x2 x3 hx2 hf hi
      refine G_iload_n 2 hC rfl dX0_doFailedSharesAgain_2 ?_
      refine G_aload_n 3 hC rfl dX0_doFailedSharesAgain_3 ?_
      refine G_getR 4 hC fl_X0_42_0 (hB _ _ (rfl) (by decide)) (hX.plan) rfl dX0_doFailedSharesAgain_4 ?_
      refine O_getI 7 hC (hP.sh) (hP.out) fl_X0_102_4 rfl dX0_doFailedSharesAgain_7 ?_
      rw [hnt]
      refine G_icmp_ge 10 80 hC dX0_doFailedSharesAgain_10 (by decide) (fun h10 => ?_) (fun h10 => ?_)
      · refine R_v 80 hR dX0_doFailedSharesAgain_80 (Nat.le_refl _) (Nat.le_refl _) ?_
        have q := (nI_leI (by omega) (by omega)).mp h10
        have ei : i = nt := by omega
        rw [ei]
        exact ⟨rfl, rfl, rfl, rfl⟩
      · have ai : i < nt := by
          rcases Nat.lt_or_ge i nt with q | q
          · exact q
          · exact absurd ((nI_leI (by omega) (by omega)).mpr q) h10
        obtain ⟨a, hTr, hTs, hTo⟩ := hT i ai
        refine G_aload_n 13 hC rfl dX0_doFailedSharesAgain_13 ?_
        refine G_getR 14 hC fl_X0_11_0 (hB _ _ (rfl) (by decide)) (hX.works) rfl dX0_doFailedSharesAgain_14 ?_
        refine G_iload_n 17 hC rfl dX0_doFailedSharesAgain_17 ?_
        refine G_aald 18 hC (hB _ _ (rfl) (by decide)) (by decide) (by decide) (rfl) (by omega) (by omega) (hX.wk (by omega)) dX0_doFailedSharesAgain_18 ?_
        refine B_getI 19 hC hB (shC_w (by omega)) fl_X0_135_9 rfl dX0_doFailedSharesAgain_19 ?_
        refine G_iconst 22 hC (nI 3) (by decide) dX0_doFailedSharesAgain_22 ?_
        refine G_icmp_ne 23 74 hC dX0_doFailedSharesAgain_23 (by decide) (fun h23 => ?_) (fun h23 => ?_)
        · first | refine G_iincN 74 hC (by decide) rfl (ls' := [_, _, _, _]) rfl dX0_doFailedSharesAgain_74 ?_ | refine G_iinc 74 hC _ rfl (by decide) rfl (ls' := [_, _, _, _]) rfl dX0_doFailedSharesAgain_74 ?_
          refine G_goto 77 2 hC dX0_doFailedSharesAgain_77 (by decide) ?_
          have y := ih (nt - (i + 1)) (by omega) (i + 1)
          first | (rw [hK, hKl] at y; refine y _ _ ?_ rfl (Nat.succ_le_of_lt ai); first | exact Or.inl rfl | exact Or.inr ⟨_, rfl⟩ | assumption) | (have hq : (Km i (7 + i) 0 = nI 3 → ∀ a, N.1 (P + 2) i = some a → ¬ N.2.1 a = (7, 7)) := (by intro q3 a1 hr1 hk1; rw [hTr] at hr1; cases hr1; first | exact hk hk1 | exact h23 q3); obtain ⟨q1, q2⟩ := hN i ai hq; rw [q1, q2] at y; refine y _ _ ?_ rfl (Nat.succ_le_of_lt ai); first | exact Or.inl rfl | exact Or.inr ⟨_, rfl⟩ | assumption)
        · refine G_aload_n 26 hC rfl dX0_doFailedSharesAgain_26 ?_
          refine G_getR 27 hC fl_X0_42_0 (hB _ _ (rfl) (by decide)) (hX.plan) rfl dX0_doFailedSharesAgain_27 ?_
          refine G_getR 30 hC fl_X0_142_4 (hP.sh) (hP.rtk) rfl dX0_doFailedSharesAgain_30 ?_
          refine G_iload_n 33 hC rfl dX0_doFailedSharesAgain_33 ?_
          refine G_aald 34 hC (hP.tk) (by decide) (by decide) (rfl) (by omega) (by omega) (hTr) dX0_doFailedSharesAgain_34 ?_
          rcases hx2 with rfl | ⟨p2, rfl⟩
          · refine G_astore_n 35 hC 3 rfl (by decide) (ls' := [_, _, _, _]) rfl dX0_doFailedSharesAgain_35 ?_
            refine G_aload_n 36 hC rfl dX0_doFailedSharesAgain_36 ?_
            refine T_instIf 37 74 hC hTs dX0_doFailedSharesAgain_37 dX0_doFailedSharesAgain_40 (by decide) (fun hk => ?_) (fun hk => ?_)
            · refine G_aload_n 43 hC rfl dX0_doFailedSharesAgain_43 ?_
              refine G_castY 44 hC (q := (RX7, TX7, 7)) hk rfl cl_X0_197 dX0_doFailedSharesAgain_44 ?_
              refine G_astore_n 47 hC 2 rfl (by decide) (ls' := [_, _, _, _]) rfl dX0_doFailedSharesAgain_47 ?_
              obtain ⟨nu, hnu2, hnu, k2, kl2, xx, hM, hK, hKl⟩ := hY i a ai hTr h23 hk
              refine G_aload_n 48 hC rfl dX0_doFailedSharesAgain_48 ?_
              refine G_getR 49 hC fl_X0_11_0 (hB _ _ (rfl) (by decide)) (hX.works) rfl dX0_doFailedSharesAgain_49 ?_
              refine G_iload_n 52 hC rfl dX0_doFailedSharesAgain_52 ?_
              refine G_aald 53 hC (hB _ _ (rfl) (by decide)) (by decide) (by decide) (rfl) (by omega) (by omega) (hX.wk (by omega)) dX0_doFailedSharesAgain_53 ?_
              refine G_aload_n 54 hC rfl dX0_doFailedSharesAgain_54 ?_
              refine G_aload_n 55 hC rfl dX0_doFailedSharesAgain_55 ?_
              refine G_getR 56 hC fl_X0_24_0 (hB _ _ (rfl) (by decide)) (hX.spare) rfl dX0_doFailedSharesAgain_56 ?_
              refine G_aload_n 59 hC rfl dX0_doFailedSharesAgain_59 ?_
              refine G_getR 60 hC fl_X0_19_0 (hB _ _ (rfl) (by decide)) (hX.hunts) rfl dX0_doFailedSharesAgain_60 ?_
              refine G_aload_n 63 hC rfl dX0_doFailedSharesAgain_63 ?_
              refine O_getI 64 hC hk hTo fl_X0_199_7 rfl dX0_doFailedSharesAgain_64 ?_
              refine G_aald 67 hC (hB _ _ (rfl) (by decide)) (by decide) (by decide) (hnu) (by omega) (by omega) (hX.hu (by omega)) dX0_doFailedSharesAgain_67 ?_
              refine G_callV1 68 hC (hM) okX7_doAgain lk_X0_202 (hk) rfl rfl rfl rfl (Nat.le_of_ble_eq_true rfl) (by decide) (by decide) dX0_doFailedSharesAgain_68 ?_
              refine B_putI 71 hC hB (shC_w (by omega)) (fp_X0_206_9 _) rfl rfl rfl dX0_doFailedSharesAgain_71 ?_
              first | refine G_iincN 74 hC (by decide) rfl (ls' := [_, _, _, _]) rfl dX0_doFailedSharesAgain_74 ?_ | refine G_iinc 74 hC _ rfl (by decide) rfl (ls' := [_, _, _, _]) rfl dX0_doFailedSharesAgain_74 ?_
              refine G_goto 77 2 hC dX0_doFailedSharesAgain_77 (by decide) ?_
              have y := ih (nt - (i + 1)) (by omega) (i + 1)
              first | (rw [hK, hKl] at y; refine y _ _ ?_ rfl (Nat.succ_le_of_lt ai); first | exact Or.inl rfl | exact Or.inr ⟨_, rfl⟩ | assumption) | (have hq : (Km i (7 + i) 0 = nI 3 → ∀ a, N.1 (P + 2) i = some a → ¬ N.2.1 a = (7, 7)) := (by intro q3 a1 hr1 hk1; rw [hTr] at hr1; cases hr1; first | exact hk hk1 | exact h23 q3); obtain ⟨q1, q2⟩ := hN i ai hq; rw [q1, q2] at y; refine y _ _ ?_ rfl (Nat.succ_le_of_lt ai); first | exact Or.inl rfl | exact Or.inr ⟨_, rfl⟩ | assumption)
            · first | refine G_iincN 74 hC (by decide) rfl (ls' := [_, _, _, _]) rfl dX0_doFailedSharesAgain_74 ?_ | refine G_iinc 74 hC _ rfl (by decide) rfl (ls' := [_, _, _, _]) rfl dX0_doFailedSharesAgain_74 ?_
              refine G_goto 77 2 hC dX0_doFailedSharesAgain_77 (by decide) ?_
              have y := ih (nt - (i + 1)) (by omega) (i + 1)
              first | (rw [hK, hKl] at y; refine y _ _ ?_ rfl (Nat.succ_le_of_lt ai); first | exact Or.inl rfl | exact Or.inr ⟨_, rfl⟩ | assumption) | (have hq : (Km i (7 + i) 0 = nI 3 → ∀ a, N.1 (P + 2) i = some a → ¬ N.2.1 a = (7, 7)) := (by intro q3 a1 hr1 hk1; rw [hTr] at hr1; cases hr1; first | exact hk hk1 | exact h23 q3); obtain ⟨q1, q2⟩ := hN i ai hq; rw [q1, q2] at y; refine y _ _ ?_ rfl (Nat.succ_le_of_lt ai); first | exact Or.inl rfl | exact Or.inr ⟨_, rfl⟩ | assumption)
          · refine G_astore_n 35 hC 3 rfl (by decide) (ls' := [_, _, _, _]) rfl dX0_doFailedSharesAgain_35 ?_
            refine G_aload_n 36 hC rfl dX0_doFailedSharesAgain_36 ?_
            refine T_instIf 37 74 hC hTs dX0_doFailedSharesAgain_37 dX0_doFailedSharesAgain_40 (by decide) (fun hk => ?_) (fun hk => ?_)
            · refine G_aload_n 43 hC rfl dX0_doFailedSharesAgain_43 ?_
              refine G_castY 44 hC (q := (RX7, TX7, 7)) hk rfl cl_X0_197 dX0_doFailedSharesAgain_44 ?_
              refine G_astore_n 47 hC 2 rfl (by decide) (ls' := [_, _, _, _]) rfl dX0_doFailedSharesAgain_47 ?_
              obtain ⟨nu, hnu2, hnu, k2, kl2, xx, hM, hK, hKl⟩ := hY i a ai hTr h23 hk
              refine G_aload_n 48 hC rfl dX0_doFailedSharesAgain_48 ?_
              refine G_getR 49 hC fl_X0_11_0 (hB _ _ (rfl) (by decide)) (hX.works) rfl dX0_doFailedSharesAgain_49 ?_
              refine G_iload_n 52 hC rfl dX0_doFailedSharesAgain_52 ?_
              refine G_aald 53 hC (hB _ _ (rfl) (by decide)) (by decide) (by decide) (rfl) (by omega) (by omega) (hX.wk (by omega)) dX0_doFailedSharesAgain_53 ?_
              refine G_aload_n 54 hC rfl dX0_doFailedSharesAgain_54 ?_
              refine G_aload_n 55 hC rfl dX0_doFailedSharesAgain_55 ?_
              refine G_getR 56 hC fl_X0_24_0 (hB _ _ (rfl) (by decide)) (hX.spare) rfl dX0_doFailedSharesAgain_56 ?_
              refine G_aload_n 59 hC rfl dX0_doFailedSharesAgain_59 ?_
              refine G_getR 60 hC fl_X0_19_0 (hB _ _ (rfl) (by decide)) (hX.hunts) rfl dX0_doFailedSharesAgain_60 ?_
              refine G_aload_n 63 hC rfl dX0_doFailedSharesAgain_63 ?_
              refine O_getI 64 hC hk hTo fl_X0_199_7 rfl dX0_doFailedSharesAgain_64 ?_
              refine G_aald 67 hC (hB _ _ (rfl) (by decide)) (by decide) (by decide) (hnu) (by omega) (by omega) (hX.hu (by omega)) dX0_doFailedSharesAgain_67 ?_
              refine G_callV1 68 hC (hM) okX7_doAgain lk_X0_202 (hk) rfl rfl rfl rfl (Nat.le_of_ble_eq_true rfl) (by decide) (by decide) dX0_doFailedSharesAgain_68 ?_
              refine B_putI 71 hC hB (shC_w (by omega)) (fp_X0_206_9 _) rfl rfl rfl dX0_doFailedSharesAgain_71 ?_
              first | refine G_iincN 74 hC (by decide) rfl (ls' := [_, _, _, _]) rfl dX0_doFailedSharesAgain_74 ?_ | refine G_iinc 74 hC _ rfl (by decide) rfl (ls' := [_, _, _, _]) rfl dX0_doFailedSharesAgain_74 ?_
              refine G_goto 77 2 hC dX0_doFailedSharesAgain_77 (by decide) ?_
              have y := ih (nt - (i + 1)) (by omega) (i + 1)
              first | (rw [hK, hKl] at y; refine y _ _ ?_ rfl (Nat.succ_le_of_lt ai); first | exact Or.inl rfl | exact Or.inr ⟨_, rfl⟩ | assumption) | (have hq : (Km i (7 + i) 0 = nI 3 → ∀ a, N.1 (P + 2) i = some a → ¬ N.2.1 a = (7, 7)) := (by intro q3 a1 hr1 hk1; rw [hTr] at hr1; cases hr1; first | exact hk hk1 | exact h23 q3); obtain ⟨q1, q2⟩ := hN i ai hq; rw [q1, q2] at y; refine y _ _ ?_ rfl (Nat.succ_le_of_lt ai); first | exact Or.inl rfl | exact Or.inr ⟨_, rfl⟩ | assumption)
            · first | refine G_iincN 74 hC (by decide) rfl (ls' := [_, _, _, _]) rfl dX0_doFailedSharesAgain_74 ?_ | refine G_iinc 74 hC _ rfl (by decide) rfl (ls' := [_, _, _, _]) rfl dX0_doFailedSharesAgain_74 ?_
              refine G_goto 77 2 hC dX0_doFailedSharesAgain_77 (by decide) ?_
              have y := ih (nt - (i + 1)) (by omega) (i + 1)
              first | (rw [hK, hKl] at y; refine y _ _ ?_ rfl (Nat.succ_le_of_lt ai); first | exact Or.inl rfl | exact Or.inr ⟨_, rfl⟩ | assumption) | (have hq : (Km i (7 + i) 0 = nI 3 → ∀ a, N.1 (P + 2) i = some a → ¬ N.2.1 a = (7, 7)) := (by intro q3 a1 hr1 hk1; rw [hTr] at hr1; cases hr1; first | exact hk hk1 | exact h23 q3); obtain ⟨q1, q2⟩ := hN i ai hq; rw [q1, q2] at y; refine y _ _ ?_ rfl (Nat.succ_le_of_lt ai); first | exact Or.inl rfl | exact Or.inr ⟨_, rfl⟩ | assumption)
  show g 0 [some (vr (some (c + 0))), none, none, none] [] _ _ N 0 0
  refine G_iconst 0 hC (nI 0) (by decide) dX0_doFailedSharesAgain_0 ?_
  refine G_istore_n 1 hC 1 rfl (by decide) (ls' := [_, _, _, _]) rfl dX0_doFailedSharesAgain_1 ?_
  have y := loop _ 0 none none (Or.inl rfl) rfl (Nat.zero_le _)
  rw [hk0, hl0] at y
  exact y
end C17

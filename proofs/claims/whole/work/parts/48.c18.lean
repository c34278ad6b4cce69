/-! ===== the class: a run is closed ===== -/
theorem nI_m1 {j : Nat} : nI j + Int32.ofInt (-1) = nI j - nI 1 := by rw [Int32.sub_eq_add_neg]; rfl
def F_sw : Nat → Nat → MI → MI
  | 0, _, k => k
  | f + 1, i, k => F_sw f (i + 1) (if k (7 + i) 0 = 0 then W_ew k i (nI 5) else k)
section C18
variable {l : Launch} {D : va_G} {B c P : Nat} {N : NT} {k G : MI} {kl GL : ML} {L : ML}
theorem c_stopAll (hX : FixC c P N) (hP : FixP c P N) {nt th : Nat} (hnt : G P 5 = nI nt) (hnt2 : nt ≤ 20) (hth : k 0 10 = nI th) (hth2 : th ≤ 6) {Km : Nat → MI} (hk0 : Km th = k)
    (hS : ∀ j, j < th → (Km (j + 1) 4 j = -9 ∧ Km j = Km (j + 1)) ∨ ∃ t a nc, t < 20 ∧ Km (j + 1) 4 j = nI t ∧ N.1 (P + 2) t = some a ∧ TkS N a ∧ OutC c a ∧ Km (j + 1) 0 9 = nI nc ∧ nc < 40 ∧ Km j = W_leave (upd2 (Km (j + 1)) (7 + t) 0 (nI 5)) (G a 1) t j nc) :
    Cq l D B mX0_stopAll [vr (some (c + 0))] (pt c 35 k G) L N (some (vi (k 0 17))) (pt c 35 (upd2 (F_sw nt 0 (Km 0)) 0 16 (nI 3)) G) L := by
  have hB := hX.b
  refine Ct.of (M := mX0_stopAll) (by decide) (Nat.le_of_ble_eq_true rfl) (fun g (hR : Cr l D B RX0 cX0_stopAll 4 "stopAll" { frames := 2, cells := 0, slots := 0, locals := 45 } (some .int) 0 0 _ g) => ?_)
  have hC := hR.cx
  have loop2 : ∀ (f : Nat) (x3 : Option MV) (i : Nat) (k1 : MI), nt - i = f → i ≤ nt → F_sw f i k1 = F_sw nt 0 (Km 0) → g 56 [some (vr (some (c + 0))), some (vi (k 0 17)), some (vi (nI i)), x3] [] (pt c 35 k1 G) L N 0 0 := by
    intro f
    induction f using Nat.strongRecOn with
    | _ f ih =>
      intro x3 i k1 hf hi hE
      refine G_iload_n 56 hC rfl dX0_stopAll_56 ?_
      refine G_aload_n 57 hC rfl dX0_stopAll_57 ?_
      refine G_getR 58 hC fl_X0_42_0 (hB _ _ (rfl) (by decide)) (hX.plan) rfl dX0_stopAll_58 ?_
      refine O_getI 61 hC (hP.sh) (hP.out) fl_X0_102_4 rfl dX0_stopAll_61 ?_
      rw [hnt]
      refine G_icmp_ge 64 91 hC dX0_stopAll_64 (by decide) (fun h64 => ?_) (fun h64 => ?_)
      · refine G_aload_n 91 hC rfl dX0_stopAll_91 ?_
        refine G_iconst 92 hC (nI 3) (by decide) dX0_stopAll_92 ?_
        refine B_putI 93 hC hB (rfl) (fp_X0_93_0 _) rfl rfl rfl dX0_stopAll_93 ?_
        refine G_iload_n 96 hC rfl dX0_stopAll_96 ?_
        refine R_i 97 hR (by first | rfl | exact narrow_bI _) dX0_stopAll_97 (Nat.le_refl _) (Nat.le_refl _) ?_
        have q := (nI_leI (by omega) (by omega)).mp h64
        have q2 : f = 0 := by omega
        subst q2
        rw [← hE]
        exact ⟨rfl, rfl, rfl, rfl⟩
      · have ai : i < nt := by
          rcases Nat.lt_or_ge i nt with q | q
          · exact q
          · exact absurd ((nI_leI (by omega) (by omega)).mpr q) h64
        obtain ⟨f, rfl⟩ : ∃ f1, f = f1 + 1 := ⟨f - 1, by omega⟩
        refine G_aload_n 67 hC rfl dX0_stopAll_67 ?_
        refine G_getR 68 hC fl_X0_11_0 (hB _ _ (rfl) (by decide)) (hX.works) rfl dX0_stopAll_68 ?_
        refine G_iload_n 71 hC rfl dX0_stopAll_71 ?_
        refine G_aald 72 hC (hB _ _ (rfl) (by decide)) (by decide) (by decide) (rfl) (by omega) (by omega) (hX.wk (by omega)) dX0_stopAll_72 ?_
        refine B_getI 73 hC hB (shC_w (by omega)) fl_X0_135_9 rfl dX0_stopAll_73 ?_
        first | refine G_if_ne_b 76 85 hC dX0_stopAll_76 (by decide) (fun h76 => ?_) (fun h76 => ?_) | refine G_if_ne 76 85 hC dX0_stopAll_76 (by decide) (fun h76 => ?_) (fun h76 => ?_)
        · first | refine G_iincN 85 hC (by decide) rfl (ls' := [_, _, _, _]) rfl dX0_stopAll_85 ?_ | refine G_iinc 85 hC _ rfl (by decide) rfl (ls' := [_, _, _, _]) rfl dX0_stopAll_85 ?_
          refine G_goto 88 56 hC dX0_stopAll_88 (by decide) ?_
          refine ih f (Nat.lt_succ_self f) _ (i + 1) _ (by omega) (by omega) ?_
          rw [← hE]
          show F_sw f (i + 1) _ = F_sw f (i + 1) _
          refine congrArg (F_sw f (i + 1)) ?_
          first | (rw [if_pos h76]; done) | (rw [if_neg h76]; done)
        · refine G_aload_n 79 hC rfl dX0_stopAll_79 ?_
          refine G_iload_n 80 hC rfl dX0_stopAll_80 ?_
          refine G_iconst 81 hC (nI 5) (by decide) dX0_stopAll_81 ?_
          refine G_callV0 82 hC (c_endWaiting hX (by omega)) okX0_endWaiting lk_X0_194 (hB _ _ (rfl) (by decide)) rfl rfl rfl rfl (Nat.le_of_ble_eq_true rfl) (by decide) (by decide) dX0_stopAll_82 ?_
          first | refine G_iincN 85 hC (by decide) rfl (ls' := [_, _, _, _]) rfl dX0_stopAll_85 ?_ | refine G_iinc 85 hC _ rfl (by decide) rfl (ls' := [_, _, _, _]) rfl dX0_stopAll_85 ?_
          refine G_goto 88 56 hC dX0_stopAll_88 (by decide) ?_
          refine ih f (Nat.lt_succ_self f) _ (i + 1) _ (by omega) (by omega) ?_
          rw [← hE]
          show F_sw f (i + 1) _ = F_sw f (i + 1) _
          refine congrArg (F_sw f (i + 1)) ?_
          first | (rw [if_pos h76]; done) | (rw [if_neg h76]; done)
  have loop1 : ∀ (j : Nat) (x3 : Option MV), j ≤ th → g 12 [some (vr (some (c + 0))), some (vi (k 0 17)), some (vi (nI j - nI 1)), x3] [] (pt c 35 (Km j) G) L N 0 0 := by
    intro j
    induction j with
    | zero =>
      intro x3 hj
      refine G_iload_n 12 hC rfl dX0_stopAll_12 ?_
      refine G_if_lt 13 54 hC dX0_stopAll_13 (by decide) (fun h13 => ?_) (fun h13 => ?_)
      · refine G_iconst 54 hC (nI 0) (by decide) dX0_stopAll_54 ?_
        refine G_istore_n 55 hC 2 rfl (by decide) (ls' := [_, _, _, _]) rfl dX0_stopAll_55 ?_
        exact loop2 _ _ 0 _ rfl (Nat.zero_le _) rfl
      · exact absurd (by decide) h13
    | succ j ih =>
      intro x3 hj
      rw [show nI (j + 1) - nI 1 = nI j from pk_sub (by omega)]
      refine G_iload_n 12 hC rfl dX0_stopAll_12 ?_
      refine G_if_lt 13 54 hC dX0_stopAll_13 (by decide) (fun h13 => ?_) (fun h13 => ?_)
      · exact absurd h13 (nI_pos (by omega))
      · refine G_aload_n 16 hC rfl dX0_stopAll_16 ?_
        refine G_getR 17 hC fl_X0_28_0 (hB _ _ (rfl) (by decide)) (hX.held) rfl dX0_stopAll_17 ?_
        refine G_iload_n 20 hC rfl dX0_stopAll_20 ?_
        refine B_iald 21 hC hB (rfl) (by decide) (rfl) (by omega) dX0_stopAll_21 ?_
        rcases hS j (by omega) with ⟨hh, hK⟩ | ⟨t, a, nc, ht, hh, hTr, hTs, hTo, hnc, hnc2, hK⟩
        all_goals rw [hh]
        · refine G_istore_n 22 hC 3 rfl (by decide) (ls' := [_, _, _, _]) rfl dX0_stopAll_22 ?_
          refine G_iload_n 23 hC rfl dX0_stopAll_23 ?_
          refine G_bipush 24 hC (-9) (by decide) dX0_stopAll_24 ?_
          refine G_icmp_ne 26 32 hC dX0_stopAll_26 (by decide) (fun h26 => ?_) (fun h26 => ?_)
          · exact absurd rfl h26
          · refine G_goto 29 48 hC dX0_stopAll_29 (by decide) ?_
            refine G_iinc 48 hC _ rfl (by decide) rfl (ls' := [_, _, _, _]) rfl dX0_stopAll_48 ?_
            refine G_goto 51 12 hC dX0_stopAll_51 (by decide) ?_
            rw [nI_m1]
            rw [← hK]
            exact ih _ (by omega)
        · refine G_istore_n 22 hC 3 rfl (by decide) (ls' := [_, _, _, _]) rfl dX0_stopAll_22 ?_
          refine G_iload_n 23 hC rfl dX0_stopAll_23 ?_
          refine G_bipush 24 hC (-9) (by decide) dX0_stopAll_24 ?_
          refine G_icmp_ne 26 32 hC dX0_stopAll_26 (by decide) (fun h26 => ?_) (fun h26 => ?_)
          · refine G_aload_n 32 hC rfl dX0_stopAll_32 ?_
            refine G_getR 33 hC fl_X0_11_0 (hB _ _ (rfl) (by decide)) (hX.works) rfl dX0_stopAll_33 ?_
            refine G_iload_n 36 hC rfl dX0_stopAll_36 ?_
            refine G_aald 37 hC (hB _ _ (rfl) (by decide)) (by decide) (by decide) (rfl) (by omega) (by omega) (hX.wk (by omega)) dX0_stopAll_37 ?_
            refine G_iconst 38 hC (nI 5) (by decide) dX0_stopAll_38 ?_
            refine B_putI 39 hC hB (shC_w (by omega)) (fp_X0_135_9 _) rfl rfl rfl dX0_stopAll_39 ?_
            refine G_aload_n 42 hC rfl dX0_stopAll_42 ?_
            refine G_iload_n 43 hC rfl dX0_stopAll_43 ?_
            refine G_iload_n 44 hC rfl dX0_stopAll_44 ?_
            refine G_callV0 45 hC (c_leave hX hP ht (by omega) hTr hTs hTo (by simp (disch := omega) only [upd2_ne]; exact hnc) hnc2) okX0_leave lk_X0_181 (hB _ _ (rfl) (by decide)) rfl rfl rfl rfl (Nat.le_of_ble_eq_true rfl) (by decide) (by decide) dX0_stopAll_45 ?_
            refine G_iinc 48 hC _ rfl (by decide) rfl (ls' := [_, _, _, _]) rfl dX0_stopAll_48 ?_
            refine G_goto 51 12 hC dX0_stopAll_51 (by decide) ?_
            rw [nI_m1]
            rw [← hK]
            exact ih _ (by omega)
          · exact absurd h26 (nI_ne9 (by omega))
  show g 0 [some (vr (some (c + 0))), none, none, none] [] _ _ N 0 0
  refine G_aload_n 0 hC rfl dX0_stopAll_0 ?_
  refine B_getI 1 hC hB (rfl) fl_X0_96_0 rfl dX0_stopAll_1 ?_
  refine G_istore_n 4 hC 1 rfl (by decide) (ls' := [_, _, _, _]) rfl dX0_stopAll_4 ?_
  refine G_aload_n 5 hC rfl dX0_stopAll_5 ?_
  refine B_getI 6 hC hB (rfl) fl_X0_38_0 rfl dX0_stopAll_6 ?_
  rw [hth]
  refine G_iconst 9 hC (nI 1) (by decide) dX0_stopAll_9 ?_
  refine G_isub 10 hC dX0_stopAll_10 ?_
  refine G_istore_n 11 hC 2 rfl (by decide) (ls' := [_, _, _, _]) rfl dX0_stopAll_11 ?_
  have y := loop1 th none (Nat.le_refl _)
  rw [hk0] at y
  exact y
end C18

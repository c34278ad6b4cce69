/-! ===== the class: a thread goes on with its task, the step ===== -/
/-- a step of the task a on the work at o, whatever its kind -/
def StepC (l : Launch) (D : va_G) (B c : Nat) (N : NT) (a o : Nat) (k : MI) (kl : ML) (G : MI) (GL : ML) (k2 : MI) (kl2 : ML) : Prop :=
  (N.2.1 a = (8, 6) ∧ Cq l D B mX9_step [vr (some a), vr (some (c + o)), vr (some (c + 2))] (pt c 35 k G) (pt c 35 kl GL) N none (pt c 35 k2 G) (pt c 35 kl2 GL)) ∨ (N.2.1 a = (5, 5) ∧ Cq l D B mX5_step [vr (some a), vr (some (c + o)), vr (some (c + 2))] (pt c 35 k G) (pt c 35 kl GL) N none (pt c 35 k2 G) (pt c 35 kl2 GL)) ∨ (N.2.1 a = (7, 7) ∧ Cq l D B mX7_step [vr (some a), vr (some (c + o)), vr (some (c + 2))] (pt c 35 k G) (pt c 35 kl GL) N none (pt c 35 k2 G) (pt c 35 kl2 GL))
def usedK (N : NT) (a : Nat) (k : MI) (o : Nat) : Int32 := if N.2.1 a = (7, 7) then k o 7 else k o 2
section TS
variable {l : Launch} {D : va_G} {B : Nat} {cc : ByteArray} {nL : Nat} {mn : String} {R : Room} {g : GT} {ls : List (Option MV)} {st : List MV} {k G k2 : MI} {kl GL kl2 : ML} {N : NT} {kc ks c : Nat} {L : ML}
theorem T_step (pc : Nat) (hC : Cx l D B RX0 cc nL mn R g) {a o : Nat} (hS : StepC l D B c N a o k kl G GL k2 kl2) (hcat : (st.map mcat).sum ≤ 8) (hR9 : mX9_step.fr + 1 ≤ R.frames ∧ 8 + (mX9_step.nL + 11) + mX9_step.lo ≤ R.locals) (hR5 : mX5_step.fr + 1 ≤ R.frames ∧ 8 + (mX5_step.nL + 11) + mX5_step.lo ≤ R.locals) (hR7 : mX7_step.fr + 1 ≤ R.frames ∧ 8 + (mX7_step.nL + 11) + mX7_step.lo ≤ R.locals) (hf : kc ≤ R.cells ∧ ks ≤ R.slots) (hd : decode cc pc = .ok (.invokevirtual 167, 3)) (kk : g (pc + 3) ls st (pt c 35 k2 G) (pt c 35 kl2 GL) N kc ks) : g pc ls (vr (some (c + 2)) :: vr (some (c + o)) :: vr (some a) :: st) (pt c 35 k G) (pt c 35 kl GL) N kc ks := by
  rcases hS with ⟨h, hM⟩ | ⟨h, hM⟩ | ⟨h, hM⟩
  · exact G_callU pc hC (q := (RX9, TX9, 6)) hM ouX9_step_X9 lk_X0_167 h rfl rfl rfl hcat hR9 hf hd (fun v' I' L' N' h => by obtain ⟨rfl, rfl, rfl, rfl⟩ := h; exact kk)
  · exact G_callU pc hC (q := (RX5, TX5, 5)) hM ouX5_step_X5 lk_X0_167 h rfl rfl rfl hcat hR5 hf hd (fun v' I' L' N' h => by obtain ⟨rfl, rfl, rfl, rfl⟩ := h; exact kk)
  · exact G_callU pc hC (q := (RX7, TX7, 7)) hM ouX7_step_X7 lk_X0_167 h rfl rfl rfl hcat hR7 hf hd (fun v' I' L' N' h => by obtain ⟨rfl, rfl, rfl, rfl⟩ := h; exact kk)
theorem T_used (pc : Nat) (hC : Cx l D B RX0 cc nL mn R g) (hB : BlkC c N) {a o : Nat} (hT : TkS N a) (hw : shC o = (9, 13)) (hcat : (st.map mcat).sum ≤ 8) (hR8 : mX8_usedBy.fr + 1 ≤ R.frames ∧ 8 + (mX8_usedBy.nL + 11) + mX8_usedBy.lo ≤ R.locals) (hR7 : mX7_usedBy.fr + 1 ≤ R.frames ∧ 8 + (mX7_usedBy.nL + 11) + mX7_usedBy.lo ≤ R.locals) (hf : kc ≤ R.cells ∧ ks ≤ R.slots) (hd : decode cc pc = .ok (.invokevirtual 174, 3)) (kk : g (pc + 3) ls (vi (usedK N a k o) :: st) (pt c 35 k G) L N kc ks) : g pc ls (vr (some (c + o)) :: vr (some a) :: st) (pt c 35 k G) L N kc ks := by
  unfold usedK at kk
  rcases hT with h | h | h
  · rw [if_neg (by rw [h]; decide)] at kk
    exact G_callU pc hC (q := (RX9, TX9, 6)) (c_Task_usedBy hB hw) ouX8_usedBy_X9 lk_X0_174 h rfl rfl rfl hcat hR8 hf hd (fun v' I' L' N' h => by obtain ⟨rfl, rfl, rfl, rfl⟩ := h; exact kk)
  · rw [if_neg (by rw [h]; decide)] at kk
    exact G_callU pc hC (q := (RX5, TX5, 5)) (c_Task_usedBy hB hw) ouX8_usedBy_X5 lk_X0_174 h rfl rfl rfl hcat hR8 hf hd (fun v' I' L' N' h => by obtain ⟨rfl, rfl, rfl, rfl⟩ := h; exact kk)
  · rw [if_pos h] at kk
    exact G_callU pc hC (q := (RX7, TX7, 7)) (c_Share_usedBy hB hw) ouX7_usedBy_X7 lk_X0_174 h rfl rfl rfl hcat hR7 hf hd (fun v' I' L' N' h => by obtain ⟨rfl, rfl, rfl, rfl⟩ := h; exact kk)
end TS
def F_gw (N : NT) (G : MI) (a t th nc : Nat) (k : MI) : MI := if k (7 + t) 0 = nI 1 then (if usedK N a k (7 + t) < G a 2 then k else W_leave (upd2 k (7 + t) 0 (nI 4)) (G a 1) t th nc) else W_leave k (G a 1) t th nc
section C11
variable {l : Launch} {D : va_G} {B c P : Nat} {N : NT} {k G k2 : MI} {kl GL kl2 : ML} {I : MI} {L : ML}
theorem c_goW_step (hX : FixC c P N) (hP : FixP c P N) {t th nc a : Nat} (ht : t < 20) (hth : th < 6) (hTr : N.1 (P + 2) t = some a) (hTs : TkS N a) (hTo : OutC c a) (hst : k (7 + t) 11 = 0) (hit : k (7 + t) 12 = 0) (hstep : StepC l D B c N a (7 + t) (upd2 k (7 + t) 3 (k (7 + t) 3 + nI 1)) kl G GL k2 kl2) (hnc : k2 0 9 = nI nc) (hnc2 : nc < 40) : Cq l D B mX0_goOnWith [vr (some (c + 0)), vi (nI t), vi (nI th)] (pt c 35 k G) (pt c 35 kl GL) N none (pt c 35 (F_gw N G a t th nc (upd2 k2 (7 + t) 2 (k2 (7 + t) 2 + nI 1))) G) (pt c 35 kl2 GL) := by
  have hB := hX.b
  refine Ct.of (M := mX0_goOnWith) (by decide) (Nat.le_of_ble_eq_true rfl) (fun g (hR : Cr l D B RX0 cX0_goOnWith 5 "goOnWith" { frames := 4, cells := 0, slots := 0, locals := 92 } none 0 0 _ g) => ?_)
  have hC := hR.cx
  show g 0 [some (vr (some (c + 0))), some (vi (nI t)), some (vi (nI th)), none, none] [] _ _ N 0 0
  refine G_aload_n 0 hC rfl dX0_goOnWith_0 ?_
  refine G_getR 1 hC fl_X0_42_0 (hB _ _ (rfl) (by decide)) (hX.plan) rfl dX0_goOnWith_1 ?_
  refine G_getR 4 hC fl_X0_142_4 (hP.sh) (hP.rtk) rfl dX0_goOnWith_4 ?_
  refine G_iload_n 7 hC rfl dX0_goOnWith_7 ?_
  refine G_aald 8 hC (hP.tk) (by decide) (by decide) (rfl) (by omega) (by omega) (hTr) dX0_goOnWith_8 ?_
  refine G_astore_n 9 hC 3 rfl (by decide) (ls' := [_, _, _, _, _]) rfl dX0_goOnWith_9 ?_
  refine G_aload_n 10 hC rfl dX0_goOnWith_10 ?_
  refine G_getR 11 hC fl_X0_11_0 (hB _ _ (rfl) (by decide)) (hX.works) rfl dX0_goOnWith_11 ?_
  refine G_iload_n 14 hC rfl dX0_goOnWith_14 ?_
  refine G_aald 15 hC (hB _ _ (rfl) (by decide)) (by decide) (by decide) (rfl) (by omega) (by omega) (hX.wk (by omega)) dX0_goOnWith_15 ?_
  refine G_astore 16 hC (by decide) (ls' := [_, _, _, _, _]) rfl dX0_goOnWith_16 ?_
  refine G_aload 18 hC rfl dX0_goOnWith_18 ?_
  refine G_dup 20 hC rfl dX0_goOnWith_20 ?_
  refine B_getI 21 hC hB (shC_w (by omega)) fl_X0_141_9 rfl dX0_goOnWith_21 ?_
  refine G_iconst 24 hC (nI 1) (by decide) dX0_goOnWith_24 ?_
  refine G_iadd 25 hC dX0_goOnWith_25 ?_
  refine B_putI 26 hC hB (shC_w (by omega)) (fp_X0_141_9 _) rfl rfl rfl dX0_goOnWith_26 ?_
  refine G_aload 29 hC rfl dX0_goOnWith_29 ?_
  refine B_getI 31 hC hB (shC_w (by omega)) fl_X0_161_9 rfl dX0_goOnWith_31 ?_
  first | refine G_if_eq_b 34 46 hC dX0_goOnWith_34 (by decide) (fun h34 => ?_) (fun h34 => ?_) | refine G_if_eq 34 46 hC dX0_goOnWith_34 (by decide) (fun h34 => ?_) (fun h34 => ?_)
  · refine G_aload 46 hC rfl dX0_goOnWith_46 ?_
    refine B_getI 48 hC hB (shC_w (by omega)) fl_X0_164_9 rfl dX0_goOnWith_48 ?_
    first | refine G_if_eq_b 51 64 hC dX0_goOnWith_51 (by decide) (fun h51 => ?_) (fun h51 => ?_) | refine G_if_eq 51 64 hC dX0_goOnWith_51 (by decide) (fun h51 => ?_) (fun h51 => ?_)
    · refine G_aload_n 64 hC rfl dX0_goOnWith_64 ?_
      refine G_aload 65 hC rfl dX0_goOnWith_65 ?_
      refine G_aload_n 67 hC rfl dX0_goOnWith_67 ?_
      refine G_getR 68 hC fl_X0_19_0 (hB _ _ (rfl) (by decide)) (hX.hunts) rfl dX0_goOnWith_68 ?_
      refine T_step 71 hC hstep (by decide) (by decide) (by decide) (by decide) (by decide) dX0_goOnWith_71 ?_
      refine G_aload 74 hC rfl dX0_goOnWith_74 ?_
      refine G_dup 76 hC rfl dX0_goOnWith_76 ?_
      refine B_getI 77 hC hB (shC_w (by omega)) fl_X0_171_9 rfl dX0_goOnWith_77 ?_
      refine G_iconst 80 hC (nI 1) (by decide) dX0_goOnWith_80 ?_
      refine G_iadd 81 hC dX0_goOnWith_81 ?_
      refine B_putI 82 hC hB (shC_w (by omega)) (fp_X0_171_9 _) rfl rfl rfl dX0_goOnWith_82 ?_
      obtain ⟨k3, hk3⟩ : ∃ k3, (upd2 k2 (7 + t) 2 (k2 (7 + t) 2 + nI 1)) = k3 := ⟨_, rfl⟩
      have hnc3 : k3 0 9 = nI nc := by
        rw [← hk3]; simp (disch := omega) only [upd2_ne]; exact hnc
      rw [hk3]
      · refine G_aload 85 hC rfl dX0_goOnWith_85 ?_
        refine B_getI 87 hC hB (shC_w (by omega)) fl_X0_135_9 rfl dX0_goOnWith_87 ?_
        refine G_iconst 90 hC (nI 1) (by decide) dX0_goOnWith_90 ?_
        refine G_icmp_ne 91 113 hC dX0_goOnWith_91 (by decide) (fun h91 => ?_) (fun h91 => ?_)
        · refine G_aload 113 hC rfl dX0_goOnWith_113 ?_
          refine B_getI 115 hC hB (shC_w (by omega)) fl_X0_135_9 rfl dX0_goOnWith_115 ?_
          refine G_iconst 118 hC (nI 1) (by decide) dX0_goOnWith_118 ?_
          refine G_icmp_eq 119 128 hC dX0_goOnWith_119 (by decide) (fun h119 => ?_) (fun h119 => ?_)
          · refine R_v 128 hR dX0_goOnWith_128 (Nat.le_refl _) (Nat.le_refl _) ?_
            rw [hk3]
            unfold F_gw
            first | exact absurd h119 h91 | (rw [if_pos h119, if_pos h104]; exact ⟨rfl, rfl, rfl, rfl⟩) | (rw [if_neg h119]; exact ⟨rfl, rfl, rfl, rfl⟩)
          · refine G_aload_n 122 hC rfl dX0_goOnWith_122 ?_
            refine G_iload_n 123 hC rfl dX0_goOnWith_123 ?_
            refine G_iload_n 124 hC rfl dX0_goOnWith_124 ?_
            have hnc4 := hnc3
            refine G_callV0 125 hC (c_leave hX hP ht hth hTr hTs hTo hnc4 hnc2) okX0_leave lk_X0_181 (hB _ _ (rfl) (by decide)) rfl rfl rfl rfl (Nat.le_of_ble_eq_true rfl) (by decide) (by decide) dX0_goOnWith_125 ?_
            refine R_v 128 hR dX0_goOnWith_128 (Nat.le_refl _) (Nat.le_refl _) ?_
            rw [hk3]
            unfold F_gw
            first | exact absurd h119 h91 | (rw [if_pos h119, if_pos h104]; exact ⟨rfl, rfl, rfl, rfl⟩) | (rw [if_neg h119]; exact ⟨rfl, rfl, rfl, rfl⟩)
        · refine G_aload_n 94 hC rfl dX0_goOnWith_94 ?_
          refine G_aload 95 hC rfl dX0_goOnWith_95 ?_
          refine T_used 97 hC hB hTs (shC_w ht) (by decide) (by decide) (by decide) (by decide) dX0_goOnWith_97 ?_
          refine G_aload_n 100 hC rfl dX0_goOnWith_100 ?_
          refine T_budget 101 hC (hTs) (hTo) dX0_goOnWith_101 ?_
          refine G_icmp_lt 104 113 hC dX0_goOnWith_104 (by decide) (fun h104 => ?_) (fun h104 => ?_)
          · refine G_aload 113 hC rfl dX0_goOnWith_113 ?_
            refine B_getI 115 hC hB (shC_w (by omega)) fl_X0_135_9 rfl dX0_goOnWith_115 ?_
            refine G_iconst 118 hC (nI 1) (by decide) dX0_goOnWith_118 ?_
            refine G_icmp_eq 119 128 hC dX0_goOnWith_119 (by decide) (fun h119 => ?_) (fun h119 => ?_)
            · refine R_v 128 hR dX0_goOnWith_128 (Nat.le_refl _) (Nat.le_refl _) ?_
              rw [hk3]
              unfold F_gw
              first | exact absurd h119 h91 | (rw [if_pos h119, if_pos h104]; exact ⟨rfl, rfl, rfl, rfl⟩) | (rw [if_neg h119]; exact ⟨rfl, rfl, rfl, rfl⟩)
            · refine G_aload_n 122 hC rfl dX0_goOnWith_122 ?_
              refine G_iload_n 123 hC rfl dX0_goOnWith_123 ?_
              refine G_iload_n 124 hC rfl dX0_goOnWith_124 ?_
              have hnc4 := hnc3
              refine G_callV0 125 hC (c_leave hX hP ht hth hTr hTs hTo hnc4 hnc2) okX0_leave lk_X0_181 (hB _ _ (rfl) (by decide)) rfl rfl rfl rfl (Nat.le_of_ble_eq_true rfl) (by decide) (by decide) dX0_goOnWith_125 ?_
              refine R_v 128 hR dX0_goOnWith_128 (Nat.le_refl _) (Nat.le_refl _) ?_
              rw [hk3]
              unfold F_gw
              first | exact absurd h119 h91 | (rw [if_pos h119, if_pos h104]; exact ⟨rfl, rfl, rfl, rfl⟩) | (rw [if_neg h119]; exact ⟨rfl, rfl, rfl, rfl⟩)
          · refine G_aload 107 hC rfl dX0_goOnWith_107 ?_
            refine G_iconst 109 hC (nI 4) (by decide) dX0_goOnWith_109 ?_
            skip
            · refine B_putI 110 hC hB (shC_w (by omega)) (fp_X0_135_9 _) rfl rfl rfl dX0_goOnWith_110 ?_
              refine G_aload 113 hC rfl dX0_goOnWith_113 ?_
              refine B_getI 115 hC hB (shC_w (by omega)) fl_X0_135_9 rfl dX0_goOnWith_115 ?_
              refine G_iconst 118 hC (nI 1) (by decide) dX0_goOnWith_118 ?_
              refine G_icmp_eq 119 128 hC dX0_goOnWith_119 (by decide) (fun h119 => ?_) (fun h119 => ?_)
              · exfalso
                revert h119
                simp (disch := omega) only [upd2_ne, upd2_row, up_ne, up_s]
                decide
              · refine G_aload_n 122 hC rfl dX0_goOnWith_122 ?_
                refine G_iload_n 123 hC rfl dX0_goOnWith_123 ?_
                refine G_iload_n 124 hC rfl dX0_goOnWith_124 ?_
                have hnc4 : upd2 k3 (7 + t) 0 (nI 4) 0 9 = nI nc := by
                  simp (disch := omega) only [upd2_ne, upd2_row, up_ne, up_s]; exact hnc3
                refine G_callV0 125 hC (c_leave hX hP ht hth hTr hTs hTo hnc4 hnc2) okX0_leave lk_X0_181 (hB _ _ (rfl) (by decide)) rfl rfl rfl rfl (Nat.le_of_ble_eq_true rfl) (by decide) (by decide) dX0_goOnWith_125 ?_
                refine R_v 128 hR dX0_goOnWith_128 (Nat.le_refl _) (Nat.le_refl _) ?_
                rw [hk3]
                unfold F_gw
                rw [if_pos h91, if_neg h104]
                exact ⟨rfl, rfl, rfl, rfl⟩
    · exfalso
      revert h51
      simp (disch := omega) only [upd2_ne, upd2_row, up_ne, up_s]
      exact fun q => q hit
  · exfalso
    revert h34
    simp (disch := omega) only [upd2_ne, upd2_row, up_ne, up_s]
    exact fun q => q hst
end C11

/-! ===== the class: answers ===== -/
def foundK (N : NT) (a : Nat) (GL kl : ML) (o : Nat) : Int64 := if N.2.1 a = (8, 6) then GL a 4 else if N.2.1 a = (5, 5) then kl o 10 else (-9223372036854775808)
section TF
variable {l : Launch} {D : va_G} {B : Nat} {cc : ByteArray} {nL : Nat} {mn : String} {R : Room} {g : GT} {ls : List (Option MV)} {st : List MV} {k G k2 : MI} {kl GL kl2 : ML} {N : NT} {kc ks c : Nat} {I : MI}
theorem T_found (pc : Nat) (hC : Cx l D B RX0 cc nL mn R g) (hB : BlkC c N) {a o : Nat} (hT : TkS N a) (ho : OutC c a) (hw : shC o = (9, 13)) (hcat : (st.map mcat).sum ≤ 8) (hR9 : mX9_foundBy.fr + 1 ≤ R.frames ∧ 8 + (mX9_foundBy.nL + 11) + mX9_foundBy.lo ≤ R.locals) (hR5 : mX5_foundBy.fr + 1 ≤ R.frames ∧ 8 + (mX5_foundBy.nL + 11) + mX5_foundBy.lo ≤ R.locals) (hR7 : mX7_foundBy.fr + 1 ≤ R.frames ∧ 8 + (mX7_foundBy.nL + 11) + mX7_foundBy.lo ≤ R.locals) (hf : kc ≤ R.cells ∧ ks ≤ R.slots) (hd : decode cc pc = .ok (.invokevirtual 211, 3)) (kk : g (pc + 3) ls (vl (foundK N a GL kl o) :: st) I (pt c 35 kl GL) N kc ks) : g pc ls (vr (some (c + o)) :: vr (some a) :: st) I (pt c 35 kl GL) N kc ks := by
  unfold foundK at kk
  rcases hT with h | h | h
  · rw [if_pos h] at kk
    exact G_callU pc hC (q := (RX9, TX9, 6)) (c_Way_foundBy h ho) ouX9_foundBy_X9 lk_X0_211 h rfl rfl rfl hcat hR9 hf hd (fun v' I' L' N' h => by obtain ⟨rfl, rfl, rfl, rfl⟩ := h; exact kk)
  · rw [if_neg (by rw [h]; decide), if_pos h] at kk
    exact G_callU pc hC (q := (RX5, TX5, 5)) (c_Reader_foundBy hB hw) ouX5_foundBy_X5 lk_X0_211 h rfl rfl rfl hcat hR5 hf hd (fun v' I' L' N' h => by obtain ⟨rfl, rfl, rfl, rfl⟩ := h; exact kk)
  · rw [if_neg (by rw [h]; decide), if_neg (by rw [h]; decide)] at kk
    exact G_callU pc hC (q := (RX7, TX7, 7)) c_Share_foundBy ouX7_foundBy_X7 lk_X0_211 h rfl rfl rfl hcat hR7 hf hd (fun v' I' L' N' h => by obtain ⟨rfl, rfl, rfl, rfl⟩ := h; exact kk)
end TF
section C14
variable {l : Launch} {D : va_G} {B c P : Nat} {N : NT} {k G k2 : MI} {kl GL kl2 : ML} {L : ML}
theorem c_answer_no (hX : FixC c P N) (hP : FixP c P N) {nt : Nat} {x : Int32} (hnt : G P 5 = nI nt) (hnt2 : nt ≤ 20) (hno : ∀ j, j < nt → x = nI j → ¬ k (7 + j) 0 = nI 2) : Cq l D B mX0_answerOf [vr (some (c + 0)), vi x] (pt c 35 k G) L N (some (vl (-9223372036854775808))) (pt c 35 k G) L := by
  have hB := hX.b
  refine Ct.of (M := mX0_answerOf) (by decide) (Nat.le_of_ble_eq_true rfl) (fun g (hR : Cr l D B RX0 cX0_answerOf 2 "answerOf" { frames := 1, cells := 0, slots := 0, locals := 21 } (some .long) 0 0 _ g) => ?_)
  have hC := hR.cx
  show g 0 [some (vr (some (c + 0))), some (vi x)] [] _ _ N 0 0
  refine G_iload_n 0 hC rfl dX0_answerOf_0 ?_
  refine G_if_lt 1 28 hC dX0_answerOf_1 (by decide) (fun h1 => ?_) (fun h1 => ?_)
  · refine G_ldc2 28 hC kc_X0_209 dX0_answerOf_28 ?_
    refine R_l 31 hR dX0_answerOf_31 (Nat.le_refl _) (Nat.le_refl _) ?_
    exact ⟨rfl, rfl, rfl, rfl⟩
  · refine G_iload_n 4 hC rfl dX0_answerOf_4 ?_
    refine G_aload_n 5 hC rfl dX0_answerOf_5 ?_
    refine G_getR 6 hC fl_X0_42_0 (hB _ _ (rfl) (by decide)) (hX.plan) rfl dX0_answerOf_6 ?_
    refine O_getI 9 hC (hP.sh) (hP.out) fl_X0_102_4 rfl dX0_answerOf_9 ?_
    rw [hnt]
    refine G_icmp_ge 12 28 hC dX0_answerOf_12 (by decide) (fun h12 => ?_) (fun h12 => ?_)
    · refine G_ldc2 28 hC kc_X0_209 dX0_answerOf_28 ?_
      refine R_l 31 hR dX0_answerOf_31 (Nat.le_refl _) (Nat.le_refl _) ?_
      exact ⟨rfl, rfl, rfl, rfl⟩
    · obtain ⟨j, hj, rfl⟩ := inR_of (hasy2 hnt2 h1 h12) (by omega)
      · refine G_aload_n 15 hC rfl dX0_answerOf_15 ?_
        refine G_getR 16 hC fl_X0_11_0 (hB _ _ (rfl) (by decide)) (hX.works) rfl dX0_answerOf_16 ?_
        refine G_iload_n 19 hC rfl dX0_answerOf_19 ?_
        refine G_aald 20 hC (hB _ _ (rfl) (by decide)) (by decide) (by decide) (rfl) (by omega) (by omega) (hX.wk (by omega)) dX0_answerOf_20 ?_
        refine B_getI 21 hC hB (shC_w (by omega)) fl_X0_135_9 rfl dX0_answerOf_21 ?_
        refine G_iconst 24 hC (nI 2) (by decide) dX0_answerOf_24 ?_
        refine G_icmp_eq 25 32 hC dX0_answerOf_25 (by decide) (fun h25 => ?_) (fun h25 => ?_)
        · exact absurd h25 (hno j hj rfl)
        · refine G_ldc2 28 hC kc_X0_209 dX0_answerOf_28 ?_
          refine R_l 31 hR dX0_answerOf_31 (Nat.le_refl _) (Nat.le_refl _) ?_
          exact ⟨rfl, rfl, rfl, rfl⟩
theorem c_answer_yes (hX : FixC c P N) (hP : FixP c P N) {nt t a : Nat} (hnt : G P 5 = nI nt) (hnt2 : nt ≤ 20) (ht : t < nt) (hTr : N.1 (P + 2) t = some a) (hTs : TkS N a) (hTo : OutC c a) (hpr : k (7 + t) 0 = nI 2) : Cq l D B mX0_answerOf [vr (some (c + 0)), vi (nI t)] (pt c 35 k G) (pt c 35 kl GL) N (some (vl (foundK N a GL kl (7 + t)))) (pt c 35 k G) (pt c 35 kl GL) := by
  have hB := hX.b
  refine Ct.of (M := mX0_answerOf) (by decide) (Nat.le_of_ble_eq_true rfl) (fun g (hR : Cr l D B RX0 cX0_answerOf 2 "answerOf" { frames := 1, cells := 0, slots := 0, locals := 21 } (some .long) 0 0 _ g) => ?_)
  have hC := hR.cx
  show g 0 [some (vr (some (c + 0))), some (vi (nI t))] [] _ _ N 0 0
  refine G_iload_n 0 hC rfl dX0_answerOf_0 ?_
  refine G_if_lt 1 28 hC dX0_answerOf_1 (by decide) (fun h1 => ?_) (fun h1 => ?_)
  · exact absurd h1 (nI_pos (by omega))
  · refine G_iload_n 4 hC rfl dX0_answerOf_4 ?_
    refine G_aload_n 5 hC rfl dX0_answerOf_5 ?_
    refine G_getR 6 hC fl_X0_42_0 (hB _ _ (rfl) (by decide)) (hX.plan) rfl dX0_answerOf_6 ?_
    refine O_getI 9 hC (hP.sh) (hP.out) fl_X0_102_4 rfl dX0_answerOf_9 ?_
    rw [hnt]
    refine G_icmp_ge 12 28 hC dX0_answerOf_12 (by decide) (fun h12 => ?_) (fun h12 => ?_)
    · exact absurd ((nI_leI (by omega) (by omega)).mp h12) (by omega)
    · refine G_aload_n 15 hC rfl dX0_answerOf_15 ?_
      refine G_getR 16 hC fl_X0_11_0 (hB _ _ (rfl) (by decide)) (hX.works) rfl dX0_answerOf_16 ?_
      refine G_iload_n 19 hC rfl dX0_answerOf_19 ?_
      refine G_aald 20 hC (hB _ _ (rfl) (by decide)) (by decide) (by decide) (rfl) (by omega) (by omega) (hX.wk (by omega)) dX0_answerOf_20 ?_
      refine B_getI 21 hC hB (shC_w (by omega)) fl_X0_135_9 rfl dX0_answerOf_21 ?_
      refine G_iconst 24 hC (nI 2) (by decide) dX0_answerOf_24 ?_
      refine G_icmp_eq 25 32 hC dX0_answerOf_25 (by decide) (fun h25 => ?_) (fun h25 => ?_)
      · refine G_aload_n 32 hC rfl dX0_answerOf_32 ?_
        refine G_getR 33 hC fl_X0_42_0 (hB _ _ (rfl) (by decide)) (hX.plan) rfl dX0_answerOf_33 ?_
        refine G_getR 36 hC fl_X0_142_4 (hP.sh) (hP.rtk) rfl dX0_answerOf_36 ?_
        refine G_iload_n 39 hC rfl dX0_answerOf_39 ?_
        refine G_aald 40 hC (hP.tk) (by decide) (by decide) (rfl) (by omega) (by omega) (hTr) dX0_answerOf_40 ?_
        refine G_aload_n 41 hC rfl dX0_answerOf_41 ?_
        refine G_getR 42 hC fl_X0_11_0 (hB _ _ (rfl) (by decide)) (hX.works) rfl dX0_answerOf_42 ?_
        refine G_iload_n 45 hC rfl dX0_answerOf_45 ?_
        refine G_aald 46 hC (hB _ _ (rfl) (by decide)) (by decide) (by decide) (rfl) (by omega) (by omega) (hX.wk (by omega)) dX0_answerOf_46 ?_
        refine T_found 47 hC hB hTs hTo (shC_w (by omega)) (by decide) (by decide) (by decide) (by decide) (by decide) dX0_answerOf_47 ?_
        refine R_l 50 hR dX0_answerOf_50 (Nat.le_refl _) (Nat.le_refl _) ?_
        exact ⟨rfl, rfl, rfl, rfl⟩
      · exact absurd hpr h25
end C14

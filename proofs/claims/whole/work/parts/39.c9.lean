/-! ===== the class: which way is taken ===== -/
section TW
variable {l : Launch} {D : va_G} {B : Nat} {cc : ByteArray} {nL : Nat} {mn : String} {R : Room} {g : GT} {ls : List (Option MV)} {st : List MV} {k G : MI} {N : NT} {kc ks c : Nat} {L : ML}
theorem T_isWay (pc : Nat) (hC : Cx l D B RX0 cc nL mn R g) {a : Nat} (hT : TkS N a) (ho : OutC c a) (hcat : (st.map mcat).sum ≤ 8) (hR : mX8_isWay.fr + 1 ≤ R.frames ∧ 8 + (mX8_isWay.nL + 11) + mX8_isWay.lo ≤ R.locals) (hf : kc ≤ R.cells ∧ ks ≤ R.slots) (hd : decode cc pc = .ok (.invokevirtual 184, 3)) (kk : g (pc + 3) ls (vi (bI (¬ G a 0 = nI 4)) :: st) (pt c 35 k G) L N kc ks) : g pc ls (vr (some a) :: st) (pt c 35 k G) L N kc ks := by
  rcases hT with h | h | h
  · exact G_callU pc hC (q := (RX9, TX9, 6)) (c_isWay8 h ho) ouX8_isWay_X9 lk_X0_184 h rfl rfl rfl hcat hR hf hd (fun v' I' L' N' h => by obtain ⟨rfl, rfl, rfl, rfl⟩ := h; exact kk)
  · exact G_callU pc hC (q := (RX5, TX5, 5)) (c_isWay5 h ho) ouX8_isWay_X5 lk_X0_184 h rfl rfl rfl hcat hR hf hd (fun v' I' L' N' h => by obtain ⟨rfl, rfl, rfl, rfl⟩ := h; exact kk)
  · exact G_callU pc hC (q := (RX7, TX7, 7)) (c_isWay7 h ho) ouX8_isWay_X7 lk_X0_184 h rfl rfl rfl hcat hR hf hd (fun v' I' L' N' h => by obtain ⟨rfl, rfl, rfl, rfl⟩ := h; exact kk)
end TW
def F_tw1 (G : MI) (N : NT) (P i : Nat) (k : MI) : MI := if G (tkA N P i) 0 = nI 4 then k else if k (7 + i) 0 = 0 then W_ew k i (nI 5) else if k (7 + i) 0 = nI 1 then upd2 k (7 + i) 11 (nI 1) else k
def F_tw (G : MI) (N : NT) (P : Nat) : Nat → Nat → MI → MI
  | 0, _, k => k
  | f + 1, i, k => F_tw G N P f (i + 1) (F_tw1 G N P i k)
def F_take (G : MI) (N : NT) (P nt t : Nat) (k : MI) : MI := F_tw G N P (nt - (t + 1)) (t + 1) (upd2 k 0 15 (nI t))
def F_lw (k G : MI) (N : NT) (P : Nat) : Nat → Nat → Option Nat
  | 0, _ => none
  | f + 1, i => if G (tkA N P i) 0 = nI 4 then F_lw k G N P f (i + 1) else if k (7 + i) 0 = 0 ∨ k (7 + i) 0 = nI 1 then none else if k (7 + i) 0 = nI 2 then some i else F_lw k G N P f (i + 1)
def F_lk (G : MI) (N : NT) (P nt : Nat) (k : MI) : Option Nat → MI
  | none => k
  | some t => F_take G N P nt t k
section C9
variable {l : Launch} {D : va_G} {B c P : Nat} {N : NT} {k G : MI} {kl GL : ML} {I : MI} {L : ML}
theorem c_takeWay (hX : FixC c P N) (hP : FixP c P N) {nt t : Nat} (hnt : G P 5 = nI nt) (hnt2 : nt ≤ 20) (hT : TkOk c P N nt) (ht : t < nt) : Cq l D B mX0_takeWay [vr (some (c + 0)), vi (nI t)] (pt c 35 k G) L N none (pt c 35 (F_take G N P nt t k) G) L := by
  have hB := hX.b
  obtain ⟨Z, hE0⟩ : ∃ Z, F_tw G N P (nt - (t + 1)) (t + 1) (upd2 k 0 15 (nI t)) = Z := ⟨_, rfl⟩
  unfold F_take
  rw [hE0]
  refine Ct.of (M := mX0_takeWay) (by decide) (Nat.le_of_ble_eq_true rfl) (fun g (hR : Cr l D B RX0 cX0_takeWay 3 "takeWay" { frames := 1, cells := 0, slots := 0, locals := 22 } none 0 0 _ g) => ?_)
  have hC := hR.cx
  have loop : ∀ (f i : Nat) (k : MI), nt - i = f → i ≤ nt → F_tw G N P f i k = Z → g 9 [some (vr (some (c + 0))), some (vi (nI t)), some (vi (nI i))] [] (pt c 35 k G) L N 0 0 := by
    intro f
    induction f using Nat.strongRecOn with
    | _ f ih =>
      intro i k hf hi hE
      refine G_iload_n 9 hC rfl dX0_takeWay_9 ?_
      refine G_aload_n 10 hC rfl dX0_takeWay_10 ?_
      refine G_getR 11 hC fl_X0_42_0 (hB _ _ (rfl) (by decide)) (hX.plan) rfl dX0_takeWay_11 ?_
      refine O_getI 14 hC (hP.sh) (hP.out) fl_X0_102_4 rfl dX0_takeWay_14 ?_
      rw [hnt]
      refine G_icmp_ge 17 88 hC dX0_takeWay_17 (by decide) (fun h17 => ?_) (fun h17 => ?_)
      · refine R_v 88 hR dX0_takeWay_88 (Nat.le_refl _) (Nat.le_refl _) ?_
        have q := (nI_leI (by omega) (by omega)).mp h17
        have q2 : f = 0 := by omega
        subst q2
        rw [← hE]
        exact ⟨rfl, rfl, rfl, rfl⟩
      · have a17 : i < nt := by
          rcases Nat.lt_or_ge i nt with q | q
          · exact q
          · exact absurd ((nI_leI (by omega) (by omega)).mpr q) h17
        obtain ⟨a, hTr, hTs, hTo⟩ := hT i a17
        obtain ⟨f, rfl⟩ : ∃ f1, f = f1 + 1 := ⟨f - 1, by omega⟩
        refine G_aload_n 20 hC rfl dX0_takeWay_20 ?_
        refine G_getR 21 hC fl_X0_42_0 (hB _ _ (rfl) (by decide)) (hX.plan) rfl dX0_takeWay_21 ?_
        refine G_getR 24 hC fl_X0_142_4 (hP.sh) (hP.rtk) rfl dX0_takeWay_24 ?_
        refine G_iload_n 27 hC rfl dX0_takeWay_27 ?_
        refine G_aald 28 hC (hP.tk) (by decide) (by decide) (rfl) (by omega) (by omega) (hTr) dX0_takeWay_28 ?_
        refine T_isWay 29 hC hTs hTo (by decide) (by decide) (by decide) dX0_takeWay_29 ?_
        first | refine G_if_ne_b 32 38 hC dX0_takeWay_32 (by decide) (fun h32 => ?_) (fun h32 => ?_) | refine G_if_ne 32 38 hC dX0_takeWay_32 (by decide) (fun h32 => ?_) (fun h32 => ?_)
        · refine G_aload_n 38 hC rfl dX0_takeWay_38 ?_
          refine G_getR 39 hC fl_X0_11_0 (hB _ _ (rfl) (by decide)) (hX.works) rfl dX0_takeWay_39 ?_
          refine G_iload_n 42 hC rfl dX0_takeWay_42 ?_
          refine G_aald 43 hC (hB _ _ (rfl) (by decide)) (by decide) (by decide) (rfl) (by omega) (by omega) (hX.wk (by omega)) dX0_takeWay_43 ?_
          refine B_getI 44 hC hB (shC_w (by omega)) fl_X0_135_9 rfl dX0_takeWay_44 ?_
          first | refine G_if_ne_b 47 59 hC dX0_takeWay_47 (by decide) (fun h47 => ?_) (fun h47 => ?_) | refine G_if_ne 47 59 hC dX0_takeWay_47 (by decide) (fun h47 => ?_) (fun h47 => ?_)
          · refine G_aload_n 59 hC rfl dX0_takeWay_59 ?_
            refine G_getR 60 hC fl_X0_11_0 (hB _ _ (rfl) (by decide)) (hX.works) rfl dX0_takeWay_60 ?_
            refine G_iload_n 63 hC rfl dX0_takeWay_63 ?_
            refine G_aald 64 hC (hB _ _ (rfl) (by decide)) (by decide) (by decide) (rfl) (by omega) (by omega) (hX.wk (by omega)) dX0_takeWay_64 ?_
            refine B_getI 65 hC hB (shC_w (by omega)) fl_X0_135_9 rfl dX0_takeWay_65 ?_
            refine G_iconst 68 hC (nI 1) (by decide) dX0_takeWay_68 ?_
            refine G_icmp_ne 69 82 hC dX0_takeWay_69 (by decide) (fun h69 => ?_) (fun h69 => ?_)
            · first | refine G_iincN 82 hC (by decide) rfl (ls' := [_, _, _]) rfl dX0_takeWay_82 ?_ | refine G_iinc 82 hC _ rfl (by decide) rfl (ls' := [_, _, _]) rfl dX0_takeWay_82 ?_
              refine G_goto 85 9 hC dX0_takeWay_85 (by decide) ?_
              refine ih f (Nat.lt_succ_self f) (i + 1) _ (by omega) (by omega) ?_
              rw [← hE]
              show F_tw G N P f (i + 1) _ = F_tw G N P f (i + 1) (F_tw1 G N P i k)
              refine congrArg (F_tw G N P f (i + 1)) ?_
              unfold F_tw1
              rw [tkA_of hTr]
              first | (rw [if_neg h32, if_pos h47]; done) | (rw [if_neg h32, if_neg h47, if_neg h69]; done) | (rw [if_neg h32, if_neg h47, if_pos h69]; done) | (rw [if_pos (Classical.not_not.mp h32)]; done)
            · refine G_aload_n 72 hC rfl dX0_takeWay_72 ?_
              refine G_getR 73 hC fl_X0_11_0 (hB _ _ (rfl) (by decide)) (hX.works) rfl dX0_takeWay_73 ?_
              refine G_iload_n 76 hC rfl dX0_takeWay_76 ?_
              refine G_aald 77 hC (hB _ _ (rfl) (by decide)) (by decide) (by decide) (rfl) (by omega) (by omega) (hX.wk (by omega)) dX0_takeWay_77 ?_
              refine G_iconst 78 hC (nI 1) (by decide) dX0_takeWay_78 ?_
              refine B_putI 79 hC hB (shC_w (by omega)) (fp_X0_161_9 _) rfl (by first | rfl | decide) (by first | rfl | decide) dX0_takeWay_79 ?_
              first | refine G_iincN 82 hC (by decide) rfl (ls' := [_, _, _]) rfl dX0_takeWay_82 ?_ | refine G_iinc 82 hC _ rfl (by decide) rfl (ls' := [_, _, _]) rfl dX0_takeWay_82 ?_
              refine G_goto 85 9 hC dX0_takeWay_85 (by decide) ?_
              refine ih f (Nat.lt_succ_self f) (i + 1) _ (by omega) (by omega) ?_
              rw [← hE]
              show F_tw G N P f (i + 1) _ = F_tw G N P f (i + 1) (F_tw1 G N P i k)
              refine congrArg (F_tw G N P f (i + 1)) ?_
              unfold F_tw1
              rw [tkA_of hTr]
              first | (rw [if_neg h32, if_pos h47]; done) | (rw [if_neg h32, if_neg h47, if_neg h69]; done) | (rw [if_neg h32, if_neg h47, if_pos h69]; done) | (rw [if_pos (Classical.not_not.mp h32)]; done)
          · refine G_aload_n 50 hC rfl dX0_takeWay_50 ?_
            refine G_iload_n 51 hC rfl dX0_takeWay_51 ?_
            refine G_iconst 52 hC (nI 5) (by decide) dX0_takeWay_52 ?_
            refine G_callV0 53 hC (c_endWaiting hX (by omega)) okX0_endWaiting lk_X0_194 (hB _ _ (rfl) (by decide)) rfl rfl rfl rfl (Nat.le_of_ble_eq_true rfl) (by decide) (by decide) dX0_takeWay_53 ?_
            refine G_goto 56 82 hC dX0_takeWay_56 (by decide) ?_
            first | refine G_iincN 82 hC (by decide) rfl (ls' := [_, _, _]) rfl dX0_takeWay_82 ?_ | refine G_iinc 82 hC _ rfl (by decide) rfl (ls' := [_, _, _]) rfl dX0_takeWay_82 ?_
            refine G_goto 85 9 hC dX0_takeWay_85 (by decide) ?_
            refine ih f (Nat.lt_succ_self f) (i + 1) _ (by omega) (by omega) ?_
            rw [← hE]
            show F_tw G N P f (i + 1) _ = F_tw G N P f (i + 1) (F_tw1 G N P i k)
            refine congrArg (F_tw G N P f (i + 1)) ?_
            unfold F_tw1
            rw [tkA_of hTr]
            first | (rw [if_neg h32, if_pos h47]; done) | (rw [if_neg h32, if_neg h47, if_neg h69]; done) | (rw [if_neg h32, if_neg h47, if_pos h69]; done) | (rw [if_pos (Classical.not_not.mp h32)]; done)
        · refine G_goto 35 82 hC dX0_takeWay_35 (by decide) ?_
          first | refine G_iincN 82 hC (by decide) rfl (ls' := [_, _, _]) rfl dX0_takeWay_82 ?_ | refine G_iinc 82 hC _ rfl (by decide) rfl (ls' := [_, _, _]) rfl dX0_takeWay_82 ?_
          refine G_goto 85 9 hC dX0_takeWay_85 (by decide) ?_
          refine ih f (Nat.lt_succ_self f) (i + 1) _ (by omega) (by omega) ?_
          rw [← hE]
          show F_tw G N P f (i + 1) _ = F_tw G N P f (i + 1) (F_tw1 G N P i k)
          refine congrArg (F_tw G N P f (i + 1)) ?_
          unfold F_tw1
          rw [tkA_of hTr]
          first | (rw [if_neg h32, if_pos h47]; done) | (rw [if_neg h32, if_neg h47, if_neg h69]; done) | (rw [if_neg h32, if_neg h47, if_pos h69]; done) | (rw [if_pos (Classical.not_not.mp h32)]; done)
  show g 0 [some (vr (some (c + 0))), some (vi (nI t)), none] [] _ _ N 0 0
  refine G_aload_n 0 hC rfl dX0_takeWay_0 ?_
  refine G_iload_n 1 hC rfl dX0_takeWay_1 ?_
  refine B_putI 2 hC hB (rfl) (fp_X0_90_0 _) rfl rfl rfl dX0_takeWay_2 ?_
  refine G_iload_n 5 hC rfl dX0_takeWay_5 ?_
  refine G_iconst 6 hC (nI 1) (by decide) dX0_takeWay_6 ?_
  refine G_iaddN 7 hC dX0_takeWay_7 ?_
  refine G_istore_n 8 hC 2 rfl (by decide) (ls' := [_, _, _]) rfl dX0_takeWay_8 ?_
  exact loop _ (t + 1) _ rfl (by omega) hE0
theorem c_look_no (hX : FixC c P N) (htk : ¬ k 0 15 = -9) : Cq l D B mX0_lookWhatIsTaken [vr (some (c + 0))] (pt c 35 k G) L N none (pt c 35 k G) L := by
  have hB := hX.b
  refine Ct.of (M := mX0_lookWhatIsTaken) (by decide) (Nat.le_of_ble_eq_true rfl) (fun g (hR : Cr l D B RX0 cX0_lookWhatIsTaken 2 "lookWhatIsTaken" { frames := 2, cells := 0, slots := 0, locals := 44 } none 0 0 _ g) => ?_)
  have hC := hR.cx
  show g 0 [some (vr (some (c + 0))), none] [] _ _ N 0 0
  refine G_aload_n 0 hC rfl dX0_lookWhatIsTaken_0 ?_
  refine B_getI 1 hC hB (rfl) fl_X0_90_0 rfl dX0_lookWhatIsTaken_1 ?_
  refine G_bipush 4 hC (-9) (by decide) dX0_lookWhatIsTaken_4 ?_
  refine G_icmp_eq 6 10 hC dX0_lookWhatIsTaken_6 (by decide) (fun h6 => ?_) (fun h6 => ?_)
  · exact absurd h6 htk
  · refine R_v 9 hR dX0_lookWhatIsTaken_9 (Nat.le_refl _) (Nat.le_refl _) ?_
    exact ⟨rfl, rfl, rfl, rfl⟩
theorem c_look (hX : FixC c P N) (hP : FixP c P N) {nt : Nat} (hnt : G P 5 = nI nt) (hnt2 : nt ≤ 20) (hT : TkOk c P N nt) (htk : k 0 15 = -9) : Cq l D B mX0_lookWhatIsTaken [vr (some (c + 0))] (pt c 35 k G) L N none (pt c 35 (F_lk G N P nt k (F_lw k G N P nt 0)) G) L := by
  have hB := hX.b
  obtain ⟨Z, hE0⟩ : ∃ Z, F_lw k G N P nt 0 = Z := ⟨_, rfl⟩
  rw [hE0]
  refine Ct.of (M := mX0_lookWhatIsTaken) (by decide) (Nat.le_of_ble_eq_true rfl) (fun g (hR : Cr l D B RX0 cX0_lookWhatIsTaken 2 "lookWhatIsTaken" { frames := 2, cells := 0, slots := 0, locals := 44 } none 0 0 _ g) => ?_)
  have hC := hR.cx
  have loop : ∀ (f i : Nat), nt - i = f → i ≤ nt → F_lw k G N P f i = Z → g 12 [some (vr (some (c + 0))), some (vi (nI i))] [] (pt c 35 k G) L N 0 0 := by
    intro f
    induction f using Nat.strongRecOn with
    | _ f ih =>
      intro i hf hi hE
      refine G_iload_n 12 hC rfl dX0_lookWhatIsTaken_12 ?_
      refine G_aload_n 13 hC rfl dX0_lookWhatIsTaken_13 ?_
      refine G_getR 14 hC fl_X0_42_0 (hB _ _ (rfl) (by decide)) (hX.plan) rfl dX0_lookWhatIsTaken_14 ?_
      refine O_getI 17 hC (hP.sh) (hP.out) fl_X0_102_4 rfl dX0_lookWhatIsTaken_17 ?_
      rw [hnt]
      refine G_icmp_ge 20 79 hC dX0_lookWhatIsTaken_20 (by decide) (fun h20 => ?_) (fun h20 => ?_)
      · refine R_v 79 hR dX0_lookWhatIsTaken_79 (Nat.le_refl _) (Nat.le_refl _) ?_
        have q := (nI_leI (by omega) (by omega)).mp h20
        have q2 : f = 0 := by omega
        subst q2
        rw [← hE]
        exact ⟨rfl, rfl, rfl, rfl⟩
      · have a20 : i < nt := by
          rcases Nat.lt_or_ge i nt with q | q
          · exact q
          · exact absurd ((nI_leI (by omega) (by omega)).mpr q) h20
        obtain ⟨a, hTr, hTs, hTo⟩ := hT i a20
        obtain ⟨f, rfl⟩ : ∃ f1, f = f1 + 1 := ⟨f - 1, by omega⟩
        refine G_aload_n 23 hC rfl dX0_lookWhatIsTaken_23 ?_
        refine G_getR 24 hC fl_X0_42_0 (hB _ _ (rfl) (by decide)) (hX.plan) rfl dX0_lookWhatIsTaken_24 ?_
        refine G_getR 27 hC fl_X0_142_4 (hP.sh) (hP.rtk) rfl dX0_lookWhatIsTaken_27 ?_
        refine G_iload_n 30 hC rfl dX0_lookWhatIsTaken_30 ?_
        refine G_aald 31 hC (hP.tk) (by decide) (by decide) (rfl) (by omega) (by omega) (hTr) dX0_lookWhatIsTaken_31 ?_
        refine T_isWay 32 hC hTs hTo (by decide) (by decide) (by decide) dX0_lookWhatIsTaken_32 ?_
        first | refine G_if_ne_b 35 41 hC dX0_lookWhatIsTaken_35 (by decide) (fun h35 => ?_) (fun h35 => ?_) | refine G_if_ne 35 41 hC dX0_lookWhatIsTaken_35 (by decide) (fun h35 => ?_) (fun h35 => ?_)
        · refine G_aload_n 41 hC rfl dX0_lookWhatIsTaken_41 ?_
          refine G_getR 42 hC fl_X0_11_0 (hB _ _ (rfl) (by decide)) (hX.works) rfl dX0_lookWhatIsTaken_42 ?_
          refine G_iload_n 45 hC rfl dX0_lookWhatIsTaken_45 ?_
          refine G_aald 46 hC (hB _ _ (rfl) (by decide)) (by decide) (by decide) (rfl) (by omega) (by omega) (hX.wk (by omega)) dX0_lookWhatIsTaken_46 ?_
          refine G_callV1 47 hC (c_isLeft hB (shC_w (by omega))) okX10_isLeft lk_X0_188 (hB _ _ (shC_w (by omega)) (by decide)) rfl rfl rfl rfl (Nat.le_of_ble_eq_true rfl) (by decide) (by decide) dX0_lookWhatIsTaken_47 ?_
          first | refine G_if_eq_b 50 54 hC dX0_lookWhatIsTaken_50 (by decide) (fun h50 => ?_) (fun h50 => ?_) | refine G_if_eq 50 54 hC dX0_lookWhatIsTaken_50 (by decide) (fun h50 => ?_) (fun h50 => ?_)
          · refine G_aload_n 54 hC rfl dX0_lookWhatIsTaken_54 ?_
            refine G_getR 55 hC fl_X0_11_0 (hB _ _ (rfl) (by decide)) (hX.works) rfl dX0_lookWhatIsTaken_55 ?_
            refine G_iload_n 58 hC rfl dX0_lookWhatIsTaken_58 ?_
            refine G_aald 59 hC (hB _ _ (rfl) (by decide)) (by decide) (by decide) (rfl) (by omega) (by omega) (hX.wk (by omega)) dX0_lookWhatIsTaken_59 ?_
            refine B_getI 60 hC hB (shC_w (by omega)) fl_X0_135_9 rfl dX0_lookWhatIsTaken_60 ?_
            refine G_iconst 63 hC (nI 2) (by decide) dX0_lookWhatIsTaken_63 ?_
            refine G_icmp_ne 64 73 hC dX0_lookWhatIsTaken_64 (by decide) (fun h64 => ?_) (fun h64 => ?_)
            · first | refine G_iincN 73 hC (by decide) rfl (ls' := [_, _]) rfl dX0_lookWhatIsTaken_73 ?_ | refine G_iinc 73 hC _ rfl (by decide) rfl (ls' := [_, _]) rfl dX0_lookWhatIsTaken_73 ?_
              refine G_goto 76 12 hC dX0_lookWhatIsTaken_76 (by decide) ?_
              refine ih f (Nat.lt_succ_self f) (i + 1) (by omega) (by omega) ?_
              rw [← hE]
              conv => rhs; unfold F_lw
              rw [tkA_of hTr]
              first | (rw [if_neg h35, if_neg h50, if_neg h64]; done) | (rw [if_pos (Classical.not_not.mp h35)]; done)
            · refine G_aload_n 67 hC rfl dX0_lookWhatIsTaken_67 ?_
              refine G_iload_n 68 hC rfl dX0_lookWhatIsTaken_68 ?_
              refine G_callV0 69 hC (c_takeWay hX hP hnt hnt2 hT a20) okX0_takeWay lk_X0_191 (hB _ _ (rfl) (by decide)) rfl rfl rfl rfl (Nat.le_of_ble_eq_true rfl) (by decide) (by decide) dX0_lookWhatIsTaken_69 ?_
              refine R_v 72 hR dX0_lookWhatIsTaken_72 (Nat.le_refl _) (Nat.le_refl _) ?_
              rw [← hE]
              unfold F_lw
              rw [tkA_of hTr, if_neg h35, if_neg h50, if_pos h64]
              exact ⟨rfl, rfl, rfl, rfl⟩
          · refine R_v 53 hR dX0_lookWhatIsTaken_53 (Nat.le_refl _) (Nat.le_refl _) ?_
            rw [← hE]
            unfold F_lw
            rw [tkA_of hTr, if_neg h35, if_pos h50]
            exact ⟨rfl, rfl, rfl, rfl⟩
        · refine G_goto 38 73 hC dX0_lookWhatIsTaken_38 (by decide) ?_
          first | refine G_iincN 73 hC (by decide) rfl (ls' := [_, _]) rfl dX0_lookWhatIsTaken_73 ?_ | refine G_iinc 73 hC _ rfl (by decide) rfl (ls' := [_, _]) rfl dX0_lookWhatIsTaken_73 ?_
          refine G_goto 76 12 hC dX0_lookWhatIsTaken_76 (by decide) ?_
          refine ih f (Nat.lt_succ_self f) (i + 1) (by omega) (by omega) ?_
          rw [← hE]
          conv => rhs; unfold F_lw
          rw [tkA_of hTr]
          first | (rw [if_neg h35, if_neg h50, if_neg h64]; done) | (rw [if_pos (Classical.not_not.mp h35)]; done)
  show g 0 [some (vr (some (c + 0))), none] [] _ _ N 0 0
  refine G_aload_n 0 hC rfl dX0_lookWhatIsTaken_0 ?_
  refine B_getI 1 hC hB (rfl) fl_X0_90_0 rfl dX0_lookWhatIsTaken_1 ?_
  refine G_bipush 4 hC (-9) (by decide) dX0_lookWhatIsTaken_4 ?_
  refine G_icmp_eq 6 10 hC dX0_lookWhatIsTaken_6 (by decide) (fun h6 => ?_) (fun h6 => ?_)
  · refine G_iconst 10 hC (nI 0) (by decide) dX0_lookWhatIsTaken_10 ?_
    refine G_istore_n 11 hC 1 rfl (by decide) (ls' := [_, _]) rfl dX0_lookWhatIsTaken_11 ?_
    exact loop _ 0 rfl (by omega) hE0
  · exact absurd htk h6
end C9

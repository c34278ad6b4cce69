/-! ===== the class: a share is done again ===== -/
theorem W_begin_7 (k : MI) (o : Nat) : W_begin k o o 7 = nI 0 := by unfold W_begin; simp only [upd2_row, up]; rfl
theorem W_begin_8 (k : MI) (o : Nat) : W_begin k o o 8 = nI 0 := by unfold W_begin; simp only [upd2_row, up]; rfl
theorem W_nl_7 {k : MI} {o n : Nat} (h : k o 7 = nI n) : W_nlK k o o 7 = nI (n + 1) := by unfold W_nlK; simp only [upd2_row]; rw [up_ne (by omega), up_s, h, nI_add]
theorem W_nl_8 (k : MI) (o : Nat) : W_nlK k o o 8 = nI 0 := by unfold W_nlK; simp only [upd2_row]; rw [up_s]
theorem W_rd_7 (k : MI) (o : Nat) : W_rdK k o o 7 = k o 7 := by unfold W_rdK; simp only [upd2_row]; rw [up_ne (by omega), up_ne (by omega)]
theorem W_rd_8 {k : MI} {o n : Nat} (h : k o 8 = nI n) : W_rdK k o o 8 = nI (n + 1) := by unfold W_rdK; simp only [upd2_row]; rw [up_ne (by omega), up_s, h, nI_add]
theorem F_of_row {k : MI} {kl : ML} {o oh : Nat} {v : Int64} {i : Int32} (h : o ≠ oh) : (F_of k kl oh v i).1 o = k o := by
  by_cases q : F_ofB k kl oh v i
  · rw [F_of_t q]; exact upd2_ne h
  · rw [F_of_f q]
theorem F_sg_row {d : Int32} {y i o oh : Nat} {k : MI} {kl : ML} (h : o ≠ oh) : (F_sg d y i o oh k kl).2.1 o = k o := by
  unfold F_sg
  split
  · rfl
  · split
    · rfl
    · split
      · rfl
      · exact F_of_row h
theorem F_sil_inv {c : Nat} {N : NT} {G : MI} {GL : ML} {a sa ga la z i o oh it : Nat} {k : MI} {kl : ML} (hS : ShC c N a sa ga la z) (hi31 : i < 2 ^ 31) (hno : o ≠ oh) (hi : k o 8 = nI it) (hit : it ≤ 12) : (F_sil N G GL sa ga la z i o oh k kl).2.1 o 7 = k o 7 ∧ ∃ it2, it2 ≤ 12 ∧ (F_sil N G GL sa ga la z i o oh k kl).2.1 o 8 = nI it2 := by
  obtain ⟨-, -, -, -, -, -, -, -, -, -, hz, hpl⟩ := hS
  by_cases hk : G ga 0 = G sa 1
  · by_cases hf : F_fo N la z (nI i) = 0
    · obtain ⟨hiz, p, hp⟩ := F_fo_0 hf hi31
      obtain ⟨np, y, -, hpr, hpn, hy, -⟩ := GrOk_s hpl hiz hp
      rw [F_sil_ok hk hiz hz hp hpr hpn hi hit]
      rcases Nat.lt_or_ge it y with q | q
      · rw [F_si_t q, F_sg_row hno, W_rd_7, W_rd_8 hi]
        exact ⟨rfl, it + 1, by omega, rfl⟩
      · rw [F_si_f (by omega), F_sg_row hno]
        exact ⟨rfl, it, hit, hi⟩
    · rw [F_sil_f hk hf]; exact ⟨rfl, it, hit, hi⟩
  · rw [F_sil_c hk]; exact ⟨rfl, it, hit, hi⟩
noncomputable def F_di (N : NT) (G : MI) (GL : ML) (sa ga la z i o oh : Nat) : Nat → Int32 × (MI × ML) → Int32 × (MI × ML)
  | 0, W => W
  | e + 1, W => if W.1 = 0 then F_di N G GL sa ga la z i o oh e (F_sil N G GL sa ga la z i o oh W.2.1 W.2.2) else W
theorem F_di_s {N : NT} {G : MI} {GL : ML} {sa ga la z i o oh e : Nat} {W : Int32 × (MI × ML)} (h : W.1 = 0) : F_di N G GL sa ga la z i o oh (e + 1) W = F_di N G GL sa ga la z i o oh e (F_sil N G GL sa ga la z i o oh W.2.1 W.2.2) := by
  conv => lhs; unfold F_di
  rw [if_pos h]
theorem F_di_n {N : NT} {G : MI} {GL : ML} {sa ga la z i o oh e : Nat} {W : Int32 × (MI × ML)} (h : ¬ W.1 = 0) : F_di N G GL sa ga la z i o oh e W = W := by
  cases e with
  | zero => rfl
  | succ e => unfold F_di; rw [if_neg h]
noncomputable def F_do (N : NT) (G : MI) (GL : ML) (sa ga la z fr o oh : Nat) : Nat → Nat → Nat → MI → ML → Nat × (MI × ML)
  | 0, _, x, k, kl => (x, (k, kl))
  | f + 1, ln, x, k, kl => F_do N G GL sa ga la z fr o oh f (ln + 1) (if 0 < (F_di N G GL sa ga la z (fr + ln) o oh 13 (nI 0, (k, kl))).1 then x + 1 else x) (W_nlK (F_di N G GL sa ga la z (fr + ln) o oh 13 (nI 0, (k, kl))).2.1 o) (upd2 (F_di N G GL sa ga la z (fr + ln) o oh 13 (nI 0, (k, kl))).2.2 o 9 0)
section C5
variable {l : Launch} {D : va_G} {B c : Nat} {N : NT} {k G : MI} {kl GL : ML} {I : MI} {L : ML}
theorem c_doAgain (hB : BlkC c N) {a sa ga la z o oh fr to : Nat} (hS : ShC c N a sa ga la z) (hw : shC o = (9, 13)) (hh : shC oh = (2, 3)) (hfr : G a 5 = nI fr) (hto : G a 6 = nI to) (hft : fr ≤ to) (hto2 : to ≤ 20) : Cq l D B mX7_doAgain [vr (some a), vr (some (c + o)), vr (some (c + oh))] (pt c 35 k G) (pt c 35 kl GL) N (some (vi (nI (F_do N G GL sa ga la z fr o oh (to - fr) 0 0 (W_begin k o) (upd2 (upd2 kl o 9 0) o 10 0)).1))) (pt c 35 (F_do N G GL sa ga la z fr o oh (to - fr) 0 0 (W_begin k o) (upd2 (upd2 kl o 9 0) o 10 0)).2.1 G) (pt c 35 (F_do N G GL sa ga la z fr o oh (to - fr) 0 0 (W_begin k o) (upd2 (upd2 kl o 9 0) o 10 0)).2.2 GL) := by
  have hno : o ≠ oh := fun q => by rw [q, hh] at hw; cases hw
  have hs := hS.1
  have ho := hS.2.1
  obtain ⟨Z, hZ⟩ : ∃ Z, F_do N G GL sa ga la z fr o oh (to - fr) 0 0 (W_begin k o) (upd2 (upd2 kl o 9 0) o 10 0) = Z := ⟨_, rfl⟩
  rw [hZ]
  refine Ct.of (M := mX7_doAgain) (by decide) (Nat.le_of_ble_eq_true rfl) (fun g (hR : Cr l D B RX7 cX7_doAgain 7 "doAgain" { frames := 3, cells := 0, slots := 0, locals := 69 } (some .int) 0 0 _ g) => ?_)
  have hC := hR.cx
  have body : ∀ (f ln x : Nat) (k : MI) (kl : ML) (x5 x6 : Option MV), (∀ m < f + 1, ∀ (ln x : Nat) (k : MI) (kl : ML) (x5 x6 : Option MV), to - (fr + ln) = m → fr + ln ≤ to → k o 7 = nI ln → k o 8 = nI 0 → F_do N G GL sa ga la z fr o oh m ln x k kl = Z → g 12 [some (vr (some a)), some (vr (some (c + o))), some (vr (some (c + oh))), some (vi (nI x)), some (vi (nI (fr + ln))), x5, x6] [] (pt c 35 k G) (pt c 35 kl GL) N 0 0) → to - (fr + ln) = f + 1 → fr + ln < to → k o 7 = nI ln → k o 8 = nI 0 → F_do N G GL sa ga la z fr o oh (f + 1) ln x k kl = Z → g 21 [some (vr (some a)), some (vr (some (c + o))), some (vr (some (c + oh))), some (vi (nI x)), some (vi (nI (fr + ln))), x5, x6] [] (pt c 35 k G) (pt c 35 kl GL) N 0 0 := by
    intro f ln x k kl x5 x6 ih hf1 a18 hl hi hE0
    obtain ⟨V2, hV2⟩ : ∃ V2, F_di N G GL sa ga la z (fr + ln) o oh 13 (nI 0, (k, kl)) = V2 := ⟨_, rfl⟩
    have hE2 : F_do N G GL sa ga la z fr o oh f (ln + 1) (if 0 < V2.1 then x + 1 else x) (W_nlK V2.2.1 o) (upd2 V2.2.2 o 9 0) = Z := by rw [← hE0, ← hV2]; rfl
    have ex53 : ∀ (V : Int32 × (MI × ML)) (y6 : Option MV) (it1 : Nat), V.2.1 o 7 = nI ln → V.2.1 o 8 = nI it1 → it1 ≤ 12 → F_do N G GL sa ga la z fr o oh f (ln + 1) (if 0 < V.1 then x + 1 else x) (W_nlK V.2.1 o) (upd2 V.2.2 o 9 0) = Z → g 53 [some (vr (some a)), some (vr (some (c + o))), some (vr (some (c + oh))), some (vi (nI x)), some (vi (nI (fr + ln))), some (vi V.1), y6] [] (pt c 35 V.2.1 G) (pt c 35 V.2.2 GL) N 0 0 := by
      intro V y6 it1 hl1 hi1 hit1 hE
      refine G_iload 53 hC rfl dX7_doAgain_53 ?_
      refine G_if_le 55 61 hC dX7_doAgain_55 (by decide) (fun h55 => ?_) (fun h55 => ?_)
      · refine G_aload_n 61 hC rfl dX7_doAgain_61 ?_
        refine G_callV0 62 hC (c_nextLine hB hw) okX10_nextLine lk_X7_38 (hB _ _ hw (by decide)) rfl rfl rfl rfl (Nat.le_of_ble_eq_true rfl) (by decide) (by decide) dX7_doAgain_62 ?_
        first | refine G_iincN 65 hC (by decide) rfl (ls' := [_, _, _, _, _, _, _]) rfl dX7_doAgain_65 ?_ | refine G_iinc 65 hC _ rfl (by decide) rfl (ls' := [_, _, _, _, _, _, _]) rfl dX7_doAgain_65 ?_
        refine G_goto 68 12 hC dX7_doAgain_68 (by decide) ?_
        refine ih f (Nat.lt_succ_self f) (ln + 1) _ _ _ _ _ (by omega) (by omega) (W_nl_7 hl1) (W_nl_8 _ _) ?_
        rw [← hE]
        first | (rw [if_neg (Int32.not_lt.mpr h55)]; rfl) | (rw [if_pos (Int32.not_le.mp h55)]; rfl)
      · first | refine G_iincN 58 hC (by decide) rfl (ls' := [_, _, _, _, _, _, _]) rfl dX7_doAgain_58 ?_ | refine G_iinc 58 hC _ rfl (by decide) rfl (ls' := [_, _, _, _, _, _, _]) rfl dX7_doAgain_58 ?_
        refine G_aload_n 61 hC rfl dX7_doAgain_61 ?_
        refine G_callV0 62 hC (c_nextLine hB hw) okX10_nextLine lk_X7_38 (hB _ _ hw (by decide)) rfl rfl rfl rfl (Nat.le_of_ble_eq_true rfl) (by decide) (by decide) dX7_doAgain_62 ?_
        first | refine G_iincN 65 hC (by decide) rfl (ls' := [_, _, _, _, _, _, _]) rfl dX7_doAgain_65 ?_ | refine G_iinc 65 hC _ rfl (by decide) rfl (ls' := [_, _, _, _, _, _, _]) rfl dX7_doAgain_65 ?_
        refine G_goto 68 12 hC dX7_doAgain_68 (by decide) ?_
        refine ih f (Nat.lt_succ_self f) (ln + 1) _ _ _ _ _ (by omega) (by omega) (W_nl_7 hl1) (W_nl_8 _ _) ?_
        rw [← hE]
        first | (rw [if_neg (Int32.not_lt.mpr h55)]; rfl) | (rw [if_pos (Int32.not_le.mp h55)]; rfl)
    have inner : ∀ (e n : Nat) (V : Int32 × (MI × ML)) (it1 : Nat), 13 - n = e → n ≤ 13 → V.2.1 o 7 = nI ln → V.2.1 o 8 = nI it1 → it1 ≤ 12 → F_di N G GL sa ga la z (fr + ln) o oh e V = V2 → g 27 [some (vr (some a)), some (vr (some (c + o))), some (vr (some (c + oh))), some (vi (nI x)), some (vi (nI (fr + ln))), some (vi V.1), some (vi (nI n))] [] (pt c 35 V.2.1 G) (pt c 35 V.2.2 GL) N 0 0 := by
      intro e
      induction e using Nat.strongRecOn with
      | _ e ih2 =>
        intro n V it1 he hn hl1 hi1 hit1 hV
        refine G_iload 27 hC rfl dX7_doAgain_27 ?_
        refine G_bipush 29 hC (nI 12) (by decide) dX7_doAgain_29 ?_
        refine G_icmp_gt 31 53 hC dX7_doAgain_31 (by decide) (fun h31 => ?_) (fun h31 => ?_)
        · first | (have q := (nI_ltI (by omega) (by omega)).mp h31; have q2 : e = 0 := (by omega); subst q2; have q3 : V = V2 := hV; rw [← q3] at hE2; exact ex53 V _ it1 hl1 hi1 hit1 hE2) | (rw [F_di_n h36] at hV; rw [← hV] at hE2; exact ex53 V _ it1 hl1 hi1 hit1 hE2)
        · have a31 : n ≤ 12 := by
            rcases Nat.lt_or_ge 12 n with q | q
            · exact absurd ((nI_ltI (by omega) (by omega)).mpr q) h31
            · exact q
          obtain ⟨e, rfl⟩ : ∃ e1, e = e1 + 1 := ⟨e - 1, by omega⟩
          refine G_iload 34 hC rfl dX7_doAgain_34 ?_
          first | refine G_if_ne_b 36 53 hC dX7_doAgain_36 (by decide) (fun h36 => ?_) (fun h36 => ?_) | refine G_if_ne 36 53 hC dX7_doAgain_36 (by decide) (fun h36 => ?_) (fun h36 => ?_)
          · first | (have q := (nI_ltI (by omega) (by omega)).mp h31; have q2 : e = 0 := (by omega); subst q2; have q3 : V = V2 := hV; rw [← q3] at hE2; exact ex53 V _ it1 hl1 hi1 hit1 hE2) | (rw [F_di_n h36] at hV; rw [← hV] at hE2; exact ex53 V _ it1 hl1 hi1 hit1 hE2)
          · refine G_aload_n 39 hC rfl dX7_doAgain_39 ?_
            refine G_aload_n 40 hC rfl dX7_doAgain_40 ?_
            refine G_aload_n 41 hC rfl dX7_doAgain_41 ?_
            refine G_callV1 42 hC (c_sil hB hS hw hh hfr hl1 (by omega) hi1 hit1) okX7_stepInLine lk_X7_30 (hs) rfl rfl rfl rfl (Nat.le_of_ble_eq_true rfl) (by decide) (by decide) dX7_doAgain_42 ?_
            refine G_istore 45 hC (by decide) (ls' := [_, _, _, _, _, _, _]) rfl dX7_doAgain_45 ?_
            first | refine G_iincN 47 hC (by decide) rfl (ls' := [_, _, _, _, _, _, _]) rfl dX7_doAgain_47 ?_ | refine G_iinc 47 hC _ rfl (by decide) rfl (ls' := [_, _, _, _, _, _, _]) rfl dX7_doAgain_47 ?_
            refine G_goto 50 27 hC dX7_doAgain_50 (by decide) ?_
            obtain ⟨q7, it2, hit2, q8⟩ := F_sil_inv (i := fr + ln) hS (by omega) hno hi1 hit1
            exact ih2 e (Nat.lt_succ_self e) (n + 1) _ it2 (by omega) (by omega) (q7.trans hl1) q8 hit2 (by rw [← hV, F_di_s h36])
    refine G_iconst 21 hC (nI 0) (by decide) dX7_doAgain_21 ?_
    refine G_istore 22 hC (by decide) (ls' := [_, _, _, _, _, _, _]) rfl dX7_doAgain_22 ?_
    refine G_iconst 24 hC (nI 0) (by decide) dX7_doAgain_24 ?_
    refine G_istore 25 hC (by decide) (ls' := [_, _, _, _, _, _, _]) rfl dX7_doAgain_25 ?_
    exact inner _ 0 (nI 0, (k, kl)) 0 rfl (by omega) hl hi (by omega) hV2
  have outer : ∀ (f ln x : Nat) (k : MI) (kl : ML) (x5 x6 : Option MV), to - (fr + ln) = f → fr + ln ≤ to → k o 7 = nI ln → k o 8 = nI 0 → F_do N G GL sa ga la z fr o oh f ln x k kl = Z → g 12 [some (vr (some a)), some (vr (some (c + o))), some (vr (some (c + oh))), some (vi (nI x)), some (vi (nI (fr + ln))), x5, x6] [] (pt c 35 k G) (pt c 35 kl GL) N 0 0 := by
    intro f
    induction f using Nat.strongRecOn with
    | _ f ih =>
      intro ln x k kl x5 x6 hf1 hle hl hi hE
      refine G_iload 12 hC rfl dX7_doAgain_12 ?_
      refine G_aload_n 14 hC rfl dX7_doAgain_14 ?_
      refine O_getI 15 hC (hs) (ho) fl_X7_22_7 rfl dX7_doAgain_15 ?_
      rw [hto]
      refine G_icmp_ge 18 71 hC dX7_doAgain_18 (by decide) (fun h18 => ?_) (fun h18 => ?_)
      · refine G_iload_n 71 hC rfl dX7_doAgain_71 ?_
        refine R_i 72 hR (by first | rfl | exact narrow_bI _) dX7_doAgain_72 (Nat.le_refl _) (Nat.le_refl _) ?_
        have q := (nI_leI (by omega) (by omega)).mp h18
        have q2 : f = 0 := by omega
        subst q2
        rw [← hE]
        exact ⟨rfl, rfl, rfl, rfl⟩
      · have a18 : fr + ln < to := by
          rcases Nat.lt_or_ge (fr + ln) to with q | q
          · exact q
          · exact absurd ((nI_leI (by omega) (by omega)).mpr q) h18
        obtain ⟨f, rfl⟩ : ∃ f1, f = f1 + 1 := ⟨f - 1, by omega⟩
        exact body f ln x k kl _ _ ih hf1 a18 hl hi hE
  show g 0 [some (vr (some a)), some (vr (some (c + o))), some (vr (some (c + oh))), none, none, none, none] [] _ _ N 0 0
  refine G_iconst 0 hC (nI 0) (by decide) dX7_doAgain_0 ?_
  refine G_istore_n 1 hC 3 rfl (by decide) (ls' := [_, _, _, _, _, _, _]) rfl dX7_doAgain_1 ?_
  refine G_aload_n 2 hC rfl dX7_doAgain_2 ?_
  refine G_callV0 3 hC (c_Work_begin hB hw) okX10_begin lk_X7_98 (hB _ _ hw (by decide)) rfl rfl rfl rfl (Nat.le_of_ble_eq_true rfl) (by decide) (by decide) dX7_doAgain_3 ?_
  refine G_aload_n 6 hC rfl dX7_doAgain_6 ?_
  refine O_getI 7 hC (hs) (ho) fl_X7_19_7 rfl dX7_doAgain_7 ?_
  rw [hfr]
  refine G_istore 10 hC (by decide) (ls' := [_, _, _, _, _, _, _]) rfl dX7_doAgain_10 ?_
  exact outer _ 0 0 _ _ _ _ rfl hft (W_begin_7 _ _) (W_begin_8 _ _) hZ
end C5

/-! ===== the reference's answers ===== -/
section RUN3
variable {l : Launch} {D : va_G} {B : Nat} {own : String} {cc : ByteArray} {nL : Nat} {mn : String} {R : Room} {g : GT} {ls ls' : List (Option MV)} {st st0 : List MV} {r G : MI} {n : Nat → Int32} {rl GL : ML} {S : Int64} {q : Nat → Int64} {N : NT} {kc ks b : Nat} {I : MI} {L : ML}
theorem N_putI (pc : Nat) (hC : Cx l D B own cc nL mn R g) (hF : FixR b N) {idx j : Nat} {x : Int32} (hf : FP own mn idx 11 j .int) (ht : fty 11 j = 0) (hd : decode cc pc = .ok (.putfield idx, 3)) (kk : g (pc + 3) ls st (RI b (upd2 r 0 j x) n G) L N kc ks) : g pc ls (vi x :: vr (some (b + 0)) :: st) (RI b r n G) L N kc ks := M_putI pc hC hF hf ht hd (by rw [up_upd2n _ _ _ (by decide)]; exact kk)
end RUN3
def F_told (r : MI) (n : Nat → Int32) (t : Nat) (y : Int32) : Int32 :=
  if y.toInt < 0 ∨ 8 < y.toInt then -1 else
  match y.toNatClampNeg with
  | 0 => r 6 t
  | 1 => n (12 * t + 0)
  | 2 => n (12 * t + 1)
  | 3 => n (12 * t + 2)
  | 4 => n (12 * t + 3)
  | 5 => n (12 * t + 4)
  | 6 => n (12 * t + 5)
  | 7 => n (12 * t + 6)
  | _ => if r 6 t = nI 4 then nI 30 else if r 6 t = nI 1 then nI 11 else if r 6 t = nI 3 then nI 12 else nI 10
theorem F_told_o {r : MI} {n : Nat → Int32} {t : Nat} {y : Int32} (h : y.toInt < 0 ∨ 8 < y.toInt) : F_told r n t y = -1 := by unfold F_told; rw [if_pos h]
theorem F_told_8 {r : MI} {n : Nat → Int32} {t : Nat} : F_told r n t (nI 8) = if r 6 t = nI 4 then nI 30 else if r 6 t = nI 1 then nI 11 else if r 6 t = nI 3 then nI 12 else nI 10 := rfl
def F_count (r : MI) (n : Nat → Int32) (y : Int32) : Int32 :=
  if y.toInt < 0 ∨ 8 < y.toInt then -1 else
  match y.toNatClampNeg with
  | 0 => r 0 3
  | 1 => r 0 10
  | 2 => r 0 20
  | 3 => n 240
  | 4 => n 241
  | 5 => n 242
  | 6 => n 243
  | 7 => n 244
  | _ => n 246
theorem F_count_o {r : MI} {n : Nat → Int32} {y : Int32} (h : y.toInt < 0 ∨ 8 < y.toInt) : F_count r n y = -1 := by unfold F_count; rw [if_pos h]
section M16
variable {l : Launch} {D : va_G} {B b : Nat} {N : NT} {r G : MI} {rl GL : ML} {n n1 n2 n3 : Nat → Int32} {q q1 q2 : Nat → Int64} {S S1 S2 : Int64} {L : ML}
theorem n_turn_bad (hF : FixR b N) (h0 : r 0 0 = nI 0) {nth : Nat} {x : Int32} (hth : r 0 1 = nI nth) (hth6 : nth ≤ 6) (hx : ¬ inR x nth) : Cq l D B mX12_turn [vr (some (b + 0)), vi x] (RI b r n G) L N (some (vi (-1))) (RI b r n G) L := by
  refine Ct.of (M := mX12_turn) (by decide) (Nat.le_of_ble_eq_true rfl) (fun g (hR : Cr l D B RX12 cX12_turn 2 "turn" { frames := 1, cells := 0, slots := 0, locals := 22 } (some .int) 0 0 _ g) => ?_)
  have hC := hR.cx
  show g 0 [some (vr (some (b + 0))), some (vi x)] [] _ _ N 0 0
  refine G_aload_n 0 hC rfl dX12_turn_0 ?_
  refine G_iconst 1 hC (nI 0) (by decide) dX12_turn_1 ?_
  refine N_thr 2 hC hF h0 (fp_X12_96_11 _) dX12_turn_2 ?_
  refine G_iload_n 5 hC rfl dX12_turn_5 ?_
  refine G_iconst 6 hC (nI 0) (by decide) dX12_turn_6 ?_
  refine G_aload_n 7 hC rfl dX12_turn_7 ?_
  refine N_getI 8 hC hF fl_X12_86_11 rfl dX12_turn_8 ?_
  refine G_iconst 11 hC (nI 1) (by decide) dX12_turn_11 ?_
  refine G_isub 12 hC dX12_turn_12 ?_
  refine G_callS1 13 hC (ref_in) okX12_in lk_X12_107 rfl rfl rfl (Nat.le_of_ble_eq_true rfl) (by decide) (by decide) dX12_turn_13 ?_
  first | refine G_if_ne_b 16 21 hC dX12_turn_16 (by decide) (fun h16 => ?_) (fun h16 => ?_) | refine G_if_ne 16 21 hC dX12_turn_16 (by decide) (fun h16 => ?_) (fun h16 => ?_)
  · exact absurd ((in_inR (by omega)).mp (hth ▸ h16)) hx
  · refine G_iconst 19 hC (-1) (by decide) dX12_turn_19 ?_
    refine R_i 20 hR (by first | rfl | exact narrow_bI _) dX12_turn_20 (Nat.le_refl _) (Nat.le_refl _) ?_
    exact ⟨rfl, rfl, rfl, rfl⟩
theorem n_turn_state (hF : FixR b N) (h0 : r 0 0 = nI 0) {nth : Nat} {x : Int32} (hth : r 0 1 = nI nth) (hth6 : nth ≤ 6) (hx : inR x nth) (hst : n 246 = 1) : Cq l D B mX12_turn [vr (some (b + 0)), vi x] (RI b r n G) L N (some (vi (-2))) (RI b r n G) L := by
  refine Ct.of (M := mX12_turn) (by decide) (Nat.le_of_ble_eq_true rfl) (fun g (hR : Cr l D B RX12 cX12_turn 2 "turn" { frames := 1, cells := 0, slots := 0, locals := 22 } (some .int) 0 0 _ g) => ?_)
  have hC := hR.cx
  show g 0 [some (vr (some (b + 0))), some (vi x)] [] _ _ N 0 0
  refine G_aload_n 0 hC rfl dX12_turn_0 ?_
  refine G_iconst 1 hC (nI 0) (by decide) dX12_turn_1 ?_
  refine N_thr 2 hC hF h0 (fp_X12_96_11 _) dX12_turn_2 ?_
  refine G_iload_n 5 hC rfl dX12_turn_5 ?_
  refine G_iconst 6 hC (nI 0) (by decide) dX12_turn_6 ?_
  refine G_aload_n 7 hC rfl dX12_turn_7 ?_
  refine N_getI 8 hC hF fl_X12_86_11 rfl dX12_turn_8 ?_
  refine G_iconst 11 hC (nI 1) (by decide) dX12_turn_11 ?_
  refine G_isub 12 hC dX12_turn_12 ?_
  refine G_callS1 13 hC (ref_in) okX12_in lk_X12_107 rfl rfl rfl (Nat.le_of_ble_eq_true rfl) (by decide) (by decide) dX12_turn_13 ?_
  first | refine G_if_ne_b 16 21 hC dX12_turn_16 (by decide) (fun h16 => ?_) (fun h16 => ?_) | refine G_if_ne 16 21 hC dX12_turn_16 (by decide) (fun h16 => ?_) (fun h16 => ?_)
  · refine G_aload_n 21 hC rfl dX12_turn_21 ?_
    refine G_callV1 22 hC (n_isOpen hF) okX12_isOpen lk_X12_114 ((hF.sh (o := 0) rfl (by decide)).1) rfl rfl rfl rfl (Nat.le_of_ble_eq_true rfl) (by decide) (by decide) dX12_turn_22 ?_
    first | refine G_if_eq_b 25 31 hC dX12_turn_25 (by decide) (fun h25 => ?_) (fun h25 => ?_) | refine G_if_eq 25 31 hC dX12_turn_25 (by decide) (fun h25 => ?_) (fun h25 => ?_)
    · exact absurd hst h25
    · refine G_bipush 28 hC (-2) (by decide) dX12_turn_28 ?_
      refine R_i 30 hR (by first | rfl | exact narrow_bI _) dX12_turn_30 (Nat.le_refl _) (Nat.le_refl _) ?_
      exact ⟨rfl, rfl, rfl, rfl⟩
  · exact absurd (hth.symm ▸ (in_inR (by omega)).mpr hx) h16
theorem n_turn_full (hF : FixR b N) (h0 : r 0 0 = nI 0) {nth : Nat} {x : Int32} (hth : r 0 1 = nI nth) (hth6 : nth ≤ 6) (hx : inR x nth) (hst : ¬ n 246 = 1) (hsc : r 0 25 = nI 400) : Cq l D B mX12_turn [vr (some (b + 0)), vi x] (RI b r n G) L N (some (vi (-3))) (RI b r n G) L := by
  refine Ct.of (M := mX12_turn) (by decide) (Nat.le_of_ble_eq_true rfl) (fun g (hR : Cr l D B RX12 cX12_turn 2 "turn" { frames := 1, cells := 0, slots := 0, locals := 22 } (some .int) 0 0 _ g) => ?_)
  have hC := hR.cx
  show g 0 [some (vr (some (b + 0))), some (vi x)] [] _ _ N 0 0
  refine G_aload_n 0 hC rfl dX12_turn_0 ?_
  refine G_iconst 1 hC (nI 0) (by decide) dX12_turn_1 ?_
  refine N_thr 2 hC hF h0 (fp_X12_96_11 _) dX12_turn_2 ?_
  refine G_iload_n 5 hC rfl dX12_turn_5 ?_
  refine G_iconst 6 hC (nI 0) (by decide) dX12_turn_6 ?_
  refine G_aload_n 7 hC rfl dX12_turn_7 ?_
  refine N_getI 8 hC hF fl_X12_86_11 rfl dX12_turn_8 ?_
  refine G_iconst 11 hC (nI 1) (by decide) dX12_turn_11 ?_
  refine G_isub 12 hC dX12_turn_12 ?_
  refine G_callS1 13 hC (ref_in) okX12_in lk_X12_107 rfl rfl rfl (Nat.le_of_ble_eq_true rfl) (by decide) (by decide) dX12_turn_13 ?_
  first | refine G_if_ne_b 16 21 hC dX12_turn_16 (by decide) (fun h16 => ?_) (fun h16 => ?_) | refine G_if_ne 16 21 hC dX12_turn_16 (by decide) (fun h16 => ?_) (fun h16 => ?_)
  · refine G_aload_n 21 hC rfl dX12_turn_21 ?_
    refine G_callV1 22 hC (n_isOpen hF) okX12_isOpen lk_X12_114 ((hF.sh (o := 0) rfl (by decide)).1) rfl rfl rfl rfl (Nat.le_of_ble_eq_true rfl) (by decide) (by decide) dX12_turn_22 ?_
    first | refine G_if_eq_b 25 31 hC dX12_turn_25 (by decide) (fun h25 => ?_) (fun h25 => ?_) | refine G_if_eq 25 31 hC dX12_turn_25 (by decide) (fun h25 => ?_) (fun h25 => ?_)
    · refine G_aload_n 31 hC rfl dX12_turn_31 ?_
      refine N_getI 32 hC hF fl_X12_151_11 rfl dX12_turn_32 ?_
      refine G_sipush 35 hC (nI 400) (by decide) dX12_turn_35 ?_
      refine G_icmp_ne 38 44 hC dX12_turn_38 (by decide) (fun h38 => ?_) (fun h38 => ?_)
      · exact absurd hsc h38
      · refine G_bipush 41 hC (-3) (by decide) dX12_turn_41 ?_
        refine R_i 43 hR (by first | rfl | exact narrow_bI _) dX12_turn_43 (Nat.le_refl _) (Nat.le_refl _) ?_
        exact ⟨rfl, rfl, rfl, rfl⟩
    · exact absurd h25 hst
  · exact absurd (hth.symm ▸ (in_inR (by omega)).mpr hx) h16
theorem n_turn_ok (hF : FixR b N) (h0 : r 0 0 = nI 0) {nth sc : Nat} {x : Int32} (hth : r 0 1 = nI nth) (hth6 : nth ≤ 6) (hx : inR x nth) (hst : ¬ n 246 = 1) (hsc : r 0 25 = nI sc) (hsc2 : sc < 400) : Cq l D B mX12_turn [vr (some (b + 0)), vi x] (RI b r n G) L N (some (vi (nI (sc + 1)))) (RI b (upd2 (upd2 r 19 sc x) 0 25 (nI (sc + 1))) n G) L := by
  refine Ct.of (M := mX12_turn) (by decide) (Nat.le_of_ble_eq_true rfl) (fun g (hR : Cr l D B RX12 cX12_turn 2 "turn" { frames := 1, cells := 0, slots := 0, locals := 22 } (some .int) 0 0 _ g) => ?_)
  have hC := hR.cx
  show g 0 [some (vr (some (b + 0))), some (vi x)] [] _ _ N 0 0
  refine G_aload_n 0 hC rfl dX12_turn_0 ?_
  refine G_iconst 1 hC (nI 0) (by decide) dX12_turn_1 ?_
  refine N_thr 2 hC hF h0 (fp_X12_96_11 _) dX12_turn_2 ?_
  refine G_iload_n 5 hC rfl dX12_turn_5 ?_
  refine G_iconst 6 hC (nI 0) (by decide) dX12_turn_6 ?_
  refine G_aload_n 7 hC rfl dX12_turn_7 ?_
  refine N_getI 8 hC hF fl_X12_86_11 rfl dX12_turn_8 ?_
  refine G_iconst 11 hC (nI 1) (by decide) dX12_turn_11 ?_
  refine G_isub 12 hC dX12_turn_12 ?_
  refine G_callS1 13 hC (ref_in) okX12_in lk_X12_107 rfl rfl rfl (Nat.le_of_ble_eq_true rfl) (by decide) (by decide) dX12_turn_13 ?_
  first | refine G_if_ne_b 16 21 hC dX12_turn_16 (by decide) (fun h16 => ?_) (fun h16 => ?_) | refine G_if_ne 16 21 hC dX12_turn_16 (by decide) (fun h16 => ?_) (fun h16 => ?_)
  · refine G_aload_n 21 hC rfl dX12_turn_21 ?_
    refine G_callV1 22 hC (n_isOpen hF) okX12_isOpen lk_X12_114 ((hF.sh (o := 0) rfl (by decide)).1) rfl rfl rfl rfl (Nat.le_of_ble_eq_true rfl) (by decide) (by decide) dX12_turn_22 ?_
    first | refine G_if_eq_b 25 31 hC dX12_turn_25 (by decide) (fun h25 => ?_) (fun h25 => ?_) | refine G_if_eq 25 31 hC dX12_turn_25 (by decide) (fun h25 => ?_) (fun h25 => ?_)
    · refine G_aload_n 31 hC rfl dX12_turn_31 ?_
      refine N_getI 32 hC hF fl_X12_151_11 rfl dX12_turn_32 ?_
      refine G_sipush 35 hC (nI 400) (by decide) dX12_turn_35 ?_
      refine G_icmp_ne 38 44 hC dX12_turn_38 (by decide) (fun h38 => ?_) (fun h38 => ?_)
      · refine G_aload_n 44 hC rfl dX12_turn_44 ?_
        refine M_getR 45 hC hF fl_X12_65_11 rfl rfl dX12_turn_45 ?_
        refine G_aload_n 48 hC rfl dX12_turn_48 ?_
        refine N_getI 49 hC hF fl_X12_151_11 rfl dX12_turn_49 ?_
        refine G_iload_n 52 hC rfl dX12_turn_52 ?_
        refine N_iastO 53 hC hF rfl (by decide) (by decide) (hsc) (by omega) dX12_turn_53 ?_
        refine G_aload_n 54 hC rfl dX12_turn_54 ?_
        refine G_dup 55 hC rfl dX12_turn_55 ?_
        refine N_getI 56 hC hF fl_X12_151_11 rfl dX12_turn_56 ?_
        refine G_iconst 59 hC (nI 1) (by decide) dX12_turn_59 ?_
        refine G_iadd 60 hC dX12_turn_60 ?_
        refine N_putI 61 hC hF (fp_X12_151_11 _) rfl dX12_turn_61 ?_
        refine G_aload_n 64 hC rfl dX12_turn_64 ?_
        refine N_getI 65 hC hF fl_X12_151_11 rfl dX12_turn_65 ?_
        refine R_i 68 hR (by first | rfl | exact narrow_bI _) dX12_turn_68 (Nat.le_refl _) (Nat.le_refl _) ?_
        have e : upd2 r 19 sc x 0 25 = nI sc := hsc
        refine ⟨?_, ?_, rfl, rfl⟩
        · show some (vi (upd2 (upd2 r 19 sc x) 0 25 _ 0 25)) = _
          rw [upd2_row, up_s, e, nI_add]
        · rw [e, nI_add]
      · exact absurd (nI_eq_of (hsc.symm.trans h38) (by omega) (by omega)) (by omega)
    · exact absurd h25 hst
  · exact absurd (hth.symm ▸ (in_inR (by omega)).mpr hx) h16
theorem n_anew (hF : FixR b N) (h0 : r 0 0 = nI 0) : Cq l D B mX12_anew [vr (some (b + 0))] (RI b r n G) (RLg b rl S q GL) N (some (vi (r 0 10))) (RI b r (F_bgN r n) G) (RLg b rl S (F_bgQ rl q) GL) := by
  refine Ct.of (M := mX12_anew) (by decide) (Nat.le_of_ble_eq_true rfl) (fun g (hR : Cr l D B RX12 cX12_anew 1 "anew" { frames := 1, cells := 0, slots := 0, locals := 21 } (some .int) 0 0 _ g) => ?_)
  have hC := hR.cx
  show g 0 [some (vr (some (b + 0)))] [] _ _ N 0 0
  refine G_aload_n 0 hC rfl dX12_anew_0 ?_
  refine G_iconst 1 hC (nI 0) (by decide) dX12_anew_1 ?_
  refine N_thr 2 hC hF h0 (fp_X12_96_11 _) dX12_anew_2 ?_
  refine G_aload_n 5 hC rfl dX12_anew_5 ?_
  refine G_callV0 6 hC (n_begins hF) okX12_begins lk_X12_93 ((hF.sh (o := 0) rfl (by decide)).1) rfl rfl rfl rfl (Nat.le_of_ble_eq_true rfl) (by decide) (by decide) dX12_anew_6 ?_
  refine G_aload_n 9 hC rfl dX12_anew_9 ?_
  refine N_getI 10 hC hF fl_X12_101_11 rfl dX12_anew_10 ?_
  refine R_i 13 hR (by first | rfl | exact narrow_bI _) dX12_anew_13 (Nat.le_refl _) (Nat.le_refl _) ?_
  exact ⟨rfl, rfl, rfl, rfl⟩
theorem n_taken (hF : FixR b N) (h0 : r 0 0 = nI 0) : Cq l D B mX12_taken [vr (some (b + 0))] (RI b r n G) L N (some (vi (n 245))) (RI b r n G) L := by
  refine Ct.of (M := mX12_taken) (by decide) (Nat.le_of_ble_eq_true rfl) (fun g (hR : Cr l D B RX12 cX12_taken 1 "taken" { frames := 0, cells := 0, slots := 0, locals := 0 } (some .int) 0 0 _ g) => ?_)
  have hC := hR.cx
  show g 0 [some (vr (some (b + 0)))] [] _ _ N 0 0
  refine G_aload_n 0 hC rfl dX12_taken_0 ?_
  refine G_iconst 1 hC (nI 0) (by decide) dX12_taken_1 ?_
  refine N_thr 2 hC hF h0 (fp_X12_96_11 _) dX12_taken_2 ?_
  refine G_aload_n 5 hC rfl dX12_taken_5 ?_
  refine M_getR 6 hC hF fl_X12_68_11 rfl rfl dX12_taken_6 ?_
  refine G_sipush 9 hC (nI 245) (by decide) dX12_taken_9 ?_
  refine N_iald 12 hC hF rfl (by omega) dX12_taken_12 ?_
  refine R_i 13 hR (by first | rfl | exact narrow_bI _) dX12_taken_13 (Nat.le_refl _) (Nat.le_refl _) ?_
  exact ⟨rfl, rfl, rfl, rfl⟩
theorem n_answerOf (hF : FixR b N) {t : Nat} (ht : t < 20) : Cq l D B mX12_answerOf [vr (some (b + 0)), vi (nI t)] (RI b r n G) (RLg b rl S q GL) N (some (vl (if r 6 t < nI 2 then rl 8 t else q t))) (RI b r n G) (RLg b rl S q GL) := by
  refine Ct.of (M := mX12_answerOf) (by decide) (Nat.le_of_ble_eq_true rfl) (fun g (hR : Cr l D B RX12 cX12_answerOf 2 "answerOf" { frames := 0, cells := 0, slots := 0, locals := 0 } (some .long) 0 0 _ g) => ?_)
  have hC := hR.cx
  show g 0 [some (vr (some (b + 0))), some (vi (nI t))] [] _ _ N 0 0
  refine G_aload_n 0 hC rfl dX12_answerOf_0 ?_
  refine M_getR 1 hC hF fl_X12_26_11 rfl rfl dX12_answerOf_1 ?_
  refine G_iload_n 4 hC rfl dX12_answerOf_4 ?_
  refine N_ialdO 5 hC hF rfl (by decide) (by decide) rfl (by omega) dX12_answerOf_5 ?_
  refine G_iconst 6 hC (nI 2) (by decide) dX12_answerOf_6 ?_
  refine G_icmp_ge 7 19 hC dX12_answerOf_7 (by decide) (fun h7 => ?_) (fun h7 => ?_)
  · refine G_aload_n 19 hC rfl dX12_answerOf_19 ?_
    refine M_getR 20 hC hF fl_X12_74_11 rfl rfl dX12_answerOf_20 ?_
    refine G_iload_n 23 hC rfl dX12_answerOf_23 ?_
    refine Q_lald 24 hC hF rfl (by omega) dX12_answerOf_24 ?_
    refine R_l 25 hR dX12_answerOf_25 (Nat.le_refl _) (Nat.le_refl _) ?_
    exact ⟨by first | rw [if_pos (Int32.not_le.mp h7)] | rw [if_neg (Int32.not_lt.mpr h7)], rfl, rfl, rfl⟩
  · refine G_aload_n 10 hC rfl dX12_answerOf_10 ?_
    refine M_getR 11 hC hF fl_X12_32_11 rfl rfl dX12_answerOf_11 ?_
    refine G_iload_n 14 hC rfl dX12_answerOf_14 ?_
    refine Q_laldO 15 hC hF rfl (by decide) (by decide) (by decide) rfl (by omega) dX12_answerOf_15 ?_
    refine G_goto 16 25 hC dX12_answerOf_16 (by decide) ?_
    refine R_l 25 hR dX12_answerOf_25 (Nat.le_refl _) (Nat.le_refl _) ?_
    exact ⟨by first | rw [if_pos (Int32.not_le.mp h7)] | rw [if_neg (Int32.not_lt.mpr h7)], rfl, rfl, rfl⟩
theorem n_answer_no (hF : FixR b N) (h0 : r 0 0 = nI 0) {nt : Nat} {x : Int32} (hnt : r 0 10 = nI nt) (hnt2 : nt ≤ 20) (hx : ¬ inR x nt) : Cq l D B mX12_answer [vr (some (b + 0)), vi x] (RI b r n G) (RLg b rl S q GL) N (some (vl (-9223372036854775808))) (RI b r n G) (RLg b rl S q GL) := by
  refine Ct.of (M := mX12_answer) (by decide) (Nat.le_of_ble_eq_true rfl) (fun g (hR : Cr l D B RX12 cX12_answer 2 "answer" { frames := 2, cells := 0, slots := 0, locals := 43 } (some .long) 0 0 _ g) => ?_)
  have hC := hR.cx
  show g 0 [some (vr (some (b + 0))), some (vi x)] [] _ _ N 0 0
  refine G_aload_n 0 hC rfl dX12_answer_0 ?_
  refine G_iconst 1 hC (nI 0) (by decide) dX12_answer_1 ?_
  refine N_thr 2 hC hF h0 (fp_X12_96_11 _) dX12_answer_2 ?_
  refine G_aload_n 5 hC rfl dX12_answer_5 ?_
  refine G_iload_n 6 hC rfl dX12_answer_6 ?_
  refine G_callV1 7 hC (n_isTask hF hnt hnt2) okX12_isTask lk_X12_226 ((hF.sh (o := 0) rfl (by decide)).1) rfl rfl rfl rfl (Nat.le_of_ble_eq_true rfl) (by decide) (by decide) dX12_answer_7 ?_
  first | refine G_if_eq_b 10 41 hC dX12_answer_10 (by decide) (fun h10 => ?_) (fun h10 => ?_) | refine G_if_eq 10 41 hC dX12_answer_10 (by decide) (fun h10 => ?_) (fun h10 => ?_)
  · refine G_ldc2 41 hC kc_X12_99 dX12_answer_41 ?_
    refine R_l 44 hR dX12_answer_44 (Nat.le_refl _) (Nat.le_refl _) ?_
    exact ⟨rfl, rfl, rfl, rfl⟩
  · exact absurd h10 hx
theorem n_answer_yes (hF : FixR b N) (h0 : r 0 0 = nI 0) {nt t : Nat} (hnt : r 0 10 = nI nt) (hnt2 : nt ≤ 20) (ht : t < nt) : Cq l D B mX12_answer [vr (some (b + 0)), vi (nI t)] (RI b r n G) (RLg b rl S q GL) N (some (vl (if ¬ r 6 t = nI 4 ∧ n (12 * t + 0) = nI 2 then (if r 6 t < nI 2 then rl 8 t else q t) else -9223372036854775808))) (RI b r n G) (RLg b rl S q GL) := by
  refine Ct.of (M := mX12_answer) (by decide) (Nat.le_of_ble_eq_true rfl) (fun g (hR : Cr l D B RX12 cX12_answer 2 "answer" { frames := 2, cells := 0, slots := 0, locals := 43 } (some .long) 0 0 _ g) => ?_)
  have hC := hR.cx
  show g 0 [some (vr (some (b + 0))), some (vi (nI t))] [] _ _ N 0 0
  refine G_aload_n 0 hC rfl dX12_answer_0 ?_
  refine G_iconst 1 hC (nI 0) (by decide) dX12_answer_1 ?_
  refine N_thr 2 hC hF h0 (fp_X12_96_11 _) dX12_answer_2 ?_
  refine G_aload_n 5 hC rfl dX12_answer_5 ?_
  refine G_iload_n 6 hC rfl dX12_answer_6 ?_
  refine G_callV1 7 hC (n_isTask hF hnt hnt2) okX12_isTask lk_X12_226 ((hF.sh (o := 0) rfl (by decide)).1) rfl rfl rfl rfl (Nat.le_of_ble_eq_true rfl) (by decide) (by decide) dX12_answer_7 ?_
  first | refine G_if_eq_b 10 41 hC dX12_answer_10 (by decide) (fun h10 => ?_) (fun h10 => ?_) | refine G_if_eq 10 41 hC dX12_answer_10 (by decide) (fun h10 => ?_) (fun h10 => ?_)
  · exact absurd (inR_nI ht (by omega)) h10
  · refine G_aload_n 13 hC rfl dX12_answer_13 ?_
    refine M_getR 14 hC hF fl_X12_26_11 rfl rfl dX12_answer_14 ?_
    refine G_iload_n 17 hC rfl dX12_answer_17 ?_
    refine N_ialdO 18 hC hF rfl (by decide) (by decide) rfl (by omega) dX12_answer_18 ?_
    refine G_iconst 19 hC (nI 4) (by decide) dX12_answer_19 ?_
    refine G_icmp_eq 20 41 hC dX12_answer_20 (by decide) (fun h20 => ?_) (fun h20 => ?_)
    · refine G_ldc2 41 hC kc_X12_99 dX12_answer_41 ?_
      refine R_l 44 hR dX12_answer_44 (Nat.le_refl _) (Nat.le_refl _) ?_
      refine ⟨?_, rfl, rfl, rfl⟩
      first | (rw [if_pos (And.intro h20 h30)]; done) | (rw [if_neg (show ¬ (¬ r 6 t = nI 4 ∧ n (12 * t + 0) = nI 2) from fun z => z.1 h20)]; done) | (rw [if_neg (show ¬ (¬ r 6 t = nI 4 ∧ n (12 * t + 0) = nI 2) from fun z => h30 z.2)]; done)
    · refine G_aload_n 23 hC rfl dX12_answer_23 ?_
      refine G_iload_n 24 hC rfl dX12_answer_24 ?_
      refine G_iconst 25 hC (nI 0) (by decide) dX12_answer_25 ?_
      refine G_callV1 26 hC (n_at hF (by omega) (by omega)) okX12_at lk_X12_173 ((hF.sh (o := 0) rfl (by decide)).1) rfl rfl rfl rfl (Nat.le_of_ble_eq_true rfl) (by decide) (by decide) dX12_answer_26 ?_
      refine G_iconst 29 hC (nI 2) (by decide) dX12_answer_29 ?_
      refine G_icmp_ne 30 41 hC dX12_answer_30 (by decide) (fun h30 => ?_) (fun h30 => ?_)
      · refine G_ldc2 41 hC kc_X12_99 dX12_answer_41 ?_
        refine R_l 44 hR dX12_answer_44 (Nat.le_refl _) (Nat.le_refl _) ?_
        refine ⟨?_, rfl, rfl, rfl⟩
        first | (rw [if_pos (And.intro h20 h30)]; done) | (rw [if_neg (show ¬ (¬ r 6 t = nI 4 ∧ n (12 * t + 0) = nI 2) from fun z => z.1 h20)]; done) | (rw [if_neg (show ¬ (¬ r 6 t = nI 4 ∧ n (12 * t + 0) = nI 2) from fun z => h30 z.2)]; done)
      · refine G_aload_n 33 hC rfl dX12_answer_33 ?_
        refine G_iload_n 34 hC rfl dX12_answer_34 ?_
        refine G_callV1 35 hC (n_answerOf hF (by omega)) okX12_answerOf lk_X12_229 ((hF.sh (o := 0) rfl (by decide)).1) rfl rfl rfl rfl (Nat.le_of_ble_eq_true rfl) (by decide) (by decide) dX12_answer_35 ?_
        refine G_goto 38 44 hC dX12_answer_38 (by decide) ?_
        refine R_l 44 hR dX12_answer_44 (Nat.le_refl _) (Nat.le_refl _) ?_
        refine ⟨?_, rfl, rfl, rfl⟩
        first | (rw [if_pos (And.intro h20 h30)]; done) | (rw [if_neg (show ¬ (¬ r 6 t = nI 4 ∧ n (12 * t + 0) = nI 2) from fun z => z.1 h20)]; done) | (rw [if_neg (show ¬ (¬ r 6 t = nI 4 ∧ n (12 * t + 0) = nI 2) from fun z => h30 z.2)]; done)
theorem n_told_bad (hF : FixR b N) (h0 : r 0 0 = nI 0) {nt : Nat} {x y : Int32} (hnt : r 0 10 = nI nt) (hnt2 : nt ≤ 20) (hx : ¬ inR x nt) : Cq l D B mX12_told [vr (some (b + 0)), vi x, vi y] (RI b r n G) L N (some (vi (-1))) (RI b r n G) L := by
  refine Ct.of (M := mX12_told) (by decide) (Nat.le_of_ble_eq_true rfl) (fun g (hR : Cr l D B RX12 cX12_told 3 "told" { frames := 2, cells := 0, slots := 0, locals := 43 } (some .int) 0 0 _ g) => ?_)
  have hC := hR.cx
  show g 0 [some (vr (some (b + 0))), some (vi x), some (vi y)] [] _ _ N 0 0
  refine G_aload_n 0 hC rfl dX12_told_0 ?_
  refine G_iconst 1 hC (nI 0) (by decide) dX12_told_1 ?_
  refine N_thr 2 hC hF h0 (fp_X12_96_11 _) dX12_told_2 ?_
  refine G_aload_n 5 hC rfl dX12_told_5 ?_
  refine G_iload_n 6 hC rfl dX12_told_6 ?_
  refine G_callV1 7 hC (n_isTask hF hnt hnt2) okX12_isTask lk_X12_226 ((hF.sh (o := 0) rfl (by decide)).1) rfl rfl rfl rfl (Nat.le_of_ble_eq_true rfl) (by decide) (by decide) dX12_told_7 ?_
  first | refine G_if_ne_b 10 15 hC dX12_told_10 (by decide) (fun h10 => ?_) (fun h10 => ?_) | refine G_if_ne 10 15 hC dX12_told_10 (by decide) (fun h10 => ?_) (fun h10 => ?_)
  · exact absurd h10 hx
  · refine G_iconst 13 hC (-1) (by decide) dX12_told_13 ?_
    refine R_i 14 hR (by first | rfl | exact narrow_bI _) dX12_told_14 (Nat.le_refl _) (Nat.le_refl _) ?_
    exact ⟨rfl, rfl, rfl, rfl⟩
theorem n_told_yes (hF : FixR b N) (h0 : r 0 0 = nI 0) {nt t : Nat} {y : Int32} (hnt : r 0 10 = nI nt) (hnt2 : nt ≤ 20) (ht : t < nt) : Cq l D B mX12_told [vr (some (b + 0)), vi (nI t), vi y] (RI b r n G) L N (some (vi (F_told r n t y))) (RI b r n G) L := by
  refine Ct.of (M := mX12_told) (by decide) (Nat.le_of_ble_eq_true rfl) (fun g (hR : Cr l D B RX12 cX12_told 3 "told" { frames := 2, cells := 0, slots := 0, locals := 43 } (some .int) 0 0 _ g) => ?_)
  have hC := hR.cx
  show g 0 [some (vr (some (b + 0))), some (vi (nI t)), some (vi y)] [] _ _ N 0 0
  refine G_aload_n 0 hC rfl dX12_told_0 ?_
  refine G_iconst 1 hC (nI 0) (by decide) dX12_told_1 ?_
  refine N_thr 2 hC hF h0 (fp_X12_96_11 _) dX12_told_2 ?_
  refine G_aload_n 5 hC rfl dX12_told_5 ?_
  refine G_iload_n 6 hC rfl dX12_told_6 ?_
  refine G_callV1 7 hC (n_isTask hF hnt hnt2) okX12_isTask lk_X12_226 ((hF.sh (o := 0) rfl (by decide)).1) rfl rfl rfl rfl (Nat.le_of_ble_eq_true rfl) (by decide) (by decide) dX12_told_7 ?_
  first | refine G_if_ne_b 10 15 hC dX12_told_10 (by decide) (fun h10 => ?_) (fun h10 => ?_) | refine G_if_ne 10 15 hC dX12_told_10 (by decide) (fun h10 => ?_) (fun h10 => ?_)
  · refine G_iload_n 15 hC rfl dX12_told_15 ?_
    rcases sw_any y 8 (by omega) with hsw | ⟨k, hk, rfl⟩
    · refine G_tableOut 16 173 hC dX12_told_16 (by simpa using hsw) (by decide) ?_
      refine G_iconst 173 hC (-1) (by decide) dX12_told_173 ?_
      refine R_i 174 hR (by first | rfl | exact narrow_bI _) dX12_told_174 (Nat.le_refl _) (Nat.le_refl _) ?_
      refine ⟨?_, rfl, rfl, rfl⟩
      first | (rw [F_told_o (by simpa using hsw)]; done) | rfl | (rw [F_told_8]; first | (rw [if_pos h132]; done) | (rw [if_neg h132, if_pos h147]; done) | (rw [if_neg h132, if_neg h147, if_pos h162]; done) | (rw [if_neg h132, if_neg h147, if_neg h162]; done))
    rcases (show k = 0 ∨ k = 1 ∨ k = 2 ∨ k = 3 ∨ k = 4 ∨ k = 5 ∨ k = 6 ∨ k = 7 ∨ k = 8 by omega) with rfl | rfl | rfl | rfl | rfl | rfl | rfl | rfl | rfl
    · refine G_tableIn 16 52 68 hC dX12_told_16 (by decide) (by decide) rfl (by decide) ?_
      refine G_aload_n 68 hC rfl dX12_told_68 ?_
      refine M_getR 69 hC hF fl_X12_26_11 rfl rfl dX12_told_69 ?_
      refine G_iload_n 72 hC rfl dX12_told_72 ?_
      refine N_ialdO 73 hC hF rfl (by decide) (by decide) rfl (by omega) dX12_told_73 ?_
      refine R_i 74 hR (by first | rfl | exact narrow_bI _) dX12_told_74 (Nat.le_refl _) (Nat.le_refl _) ?_
      refine ⟨?_, rfl, rfl, rfl⟩
      first | (rw [F_told_o (by simpa using hsw)]; done) | rfl | (rw [F_told_8]; first | (rw [if_pos h132]; done) | (rw [if_neg h132, if_pos h147]; done) | (rw [if_neg h132, if_neg h147, if_pos h162]; done) | (rw [if_neg h132, if_neg h147, if_neg h162]; done))
    · refine G_tableIn 16 59 75 hC dX12_told_16 (by decide) (by decide) rfl (by decide) ?_
      refine G_aload_n 75 hC rfl dX12_told_75 ?_
      refine G_iload_n 76 hC rfl dX12_told_76 ?_
      refine G_iconst 77 hC (nI 0) (by decide) dX12_told_77 ?_
      refine G_callV1 78 hC (n_at hF (by omega) (by omega)) okX12_at lk_X12_173 ((hF.sh (o := 0) rfl (by decide)).1) rfl rfl rfl rfl (Nat.le_of_ble_eq_true rfl) (by decide) (by decide) dX12_told_78 ?_
      refine R_i 81 hR (by first | rfl | exact narrow_bI _) dX12_told_81 (Nat.le_refl _) (Nat.le_refl _) ?_
      refine ⟨?_, rfl, rfl, rfl⟩
      first | (rw [F_told_o (by simpa using hsw)]; done) | rfl | (rw [F_told_8]; first | (rw [if_pos h132]; done) | (rw [if_neg h132, if_pos h147]; done) | (rw [if_neg h132, if_neg h147, if_pos h162]; done) | (rw [if_neg h132, if_neg h147, if_neg h162]; done))
    · refine G_tableIn 16 66 82 hC dX12_told_16 (by decide) (by decide) rfl (by decide) ?_
      refine G_aload_n 82 hC rfl dX12_told_82 ?_
      refine G_iload_n 83 hC rfl dX12_told_83 ?_
      refine G_iconst 84 hC (nI 1) (by decide) dX12_told_84 ?_
      refine G_callV1 85 hC (n_at hF (by omega) (by omega)) okX12_at lk_X12_173 ((hF.sh (o := 0) rfl (by decide)).1) rfl rfl rfl rfl (Nat.le_of_ble_eq_true rfl) (by decide) (by decide) dX12_told_85 ?_
      refine R_i 88 hR (by first | rfl | exact narrow_bI _) dX12_told_88 (Nat.le_refl _) (Nat.le_refl _) ?_
      refine ⟨?_, rfl, rfl, rfl⟩
      first | (rw [F_told_o (by simpa using hsw)]; done) | rfl | (rw [F_told_8]; first | (rw [if_pos h132]; done) | (rw [if_neg h132, if_pos h147]; done) | (rw [if_neg h132, if_neg h147, if_pos h162]; done) | (rw [if_neg h132, if_neg h147, if_neg h162]; done))
    · refine G_tableIn 16 73 89 hC dX12_told_16 (by decide) (by decide) rfl (by decide) ?_
      refine G_aload_n 89 hC rfl dX12_told_89 ?_
      refine G_iload_n 90 hC rfl dX12_told_90 ?_
      refine G_iconst 91 hC (nI 2) (by decide) dX12_told_91 ?_
      refine G_callV1 92 hC (n_at hF (by omega) (by omega)) okX12_at lk_X12_173 ((hF.sh (o := 0) rfl (by decide)).1) rfl rfl rfl rfl (Nat.le_of_ble_eq_true rfl) (by decide) (by decide) dX12_told_92 ?_
      refine R_i 95 hR (by first | rfl | exact narrow_bI _) dX12_told_95 (Nat.le_refl _) (Nat.le_refl _) ?_
      refine ⟨?_, rfl, rfl, rfl⟩
      first | (rw [F_told_o (by simpa using hsw)]; done) | rfl | (rw [F_told_8]; first | (rw [if_pos h132]; done) | (rw [if_neg h132, if_pos h147]; done) | (rw [if_neg h132, if_neg h147, if_pos h162]; done) | (rw [if_neg h132, if_neg h147, if_neg h162]; done))
    · refine G_tableIn 16 80 96 hC dX12_told_16 (by decide) (by decide) rfl (by decide) ?_
      refine G_aload_n 96 hC rfl dX12_told_96 ?_
      refine G_iload_n 97 hC rfl dX12_told_97 ?_
      refine G_iconst 98 hC (nI 3) (by decide) dX12_told_98 ?_
      refine G_callV1 99 hC (n_at hF (by omega) (by omega)) okX12_at lk_X12_173 ((hF.sh (o := 0) rfl (by decide)).1) rfl rfl rfl rfl (Nat.le_of_ble_eq_true rfl) (by decide) (by decide) dX12_told_99 ?_
      refine R_i 102 hR (by first | rfl | exact narrow_bI _) dX12_told_102 (Nat.le_refl _) (Nat.le_refl _) ?_
      refine ⟨?_, rfl, rfl, rfl⟩
      first | (rw [F_told_o (by simpa using hsw)]; done) | rfl | (rw [F_told_8]; first | (rw [if_pos h132]; done) | (rw [if_neg h132, if_pos h147]; done) | (rw [if_neg h132, if_neg h147, if_pos h162]; done) | (rw [if_neg h132, if_neg h147, if_neg h162]; done))
    · refine G_tableIn 16 87 103 hC dX12_told_16 (by decide) (by decide) rfl (by decide) ?_
      refine G_aload_n 103 hC rfl dX12_told_103 ?_
      refine G_iload_n 104 hC rfl dX12_told_104 ?_
      refine G_iconst 105 hC (nI 4) (by decide) dX12_told_105 ?_
      refine G_callV1 106 hC (n_at hF (by omega) (by omega)) okX12_at lk_X12_173 ((hF.sh (o := 0) rfl (by decide)).1) rfl rfl rfl rfl (Nat.le_of_ble_eq_true rfl) (by decide) (by decide) dX12_told_106 ?_
      refine R_i 109 hR (by first | rfl | exact narrow_bI _) dX12_told_109 (Nat.le_refl _) (Nat.le_refl _) ?_
      refine ⟨?_, rfl, rfl, rfl⟩
      first | (rw [F_told_o (by simpa using hsw)]; done) | rfl | (rw [F_told_8]; first | (rw [if_pos h132]; done) | (rw [if_neg h132, if_pos h147]; done) | (rw [if_neg h132, if_neg h147, if_pos h162]; done) | (rw [if_neg h132, if_neg h147, if_neg h162]; done))
    · refine G_tableIn 16 94 110 hC dX12_told_16 (by decide) (by decide) rfl (by decide) ?_
      refine G_aload_n 110 hC rfl dX12_told_110 ?_
      refine G_iload_n 111 hC rfl dX12_told_111 ?_
      refine G_iconst 112 hC (nI 5) (by decide) dX12_told_112 ?_
      refine G_callV1 113 hC (n_at hF (by omega) (by omega)) okX12_at lk_X12_173 ((hF.sh (o := 0) rfl (by decide)).1) rfl rfl rfl rfl (Nat.le_of_ble_eq_true rfl) (by decide) (by decide) dX12_told_113 ?_
      refine R_i 116 hR (by first | rfl | exact narrow_bI _) dX12_told_116 (Nat.le_refl _) (Nat.le_refl _) ?_
      refine ⟨?_, rfl, rfl, rfl⟩
      first | (rw [F_told_o (by simpa using hsw)]; done) | rfl | (rw [F_told_8]; first | (rw [if_pos h132]; done) | (rw [if_neg h132, if_pos h147]; done) | (rw [if_neg h132, if_neg h147, if_pos h162]; done) | (rw [if_neg h132, if_neg h147, if_neg h162]; done))
    · refine G_tableIn 16 101 117 hC dX12_told_16 (by decide) (by decide) rfl (by decide) ?_
      refine G_aload_n 117 hC rfl dX12_told_117 ?_
      refine G_iload_n 118 hC rfl dX12_told_118 ?_
      refine G_bipush 119 hC (nI 6) (by decide) dX12_told_119 ?_
      refine G_callV1 121 hC (n_at hF (by omega) (by omega)) okX12_at lk_X12_173 ((hF.sh (o := 0) rfl (by decide)).1) rfl rfl rfl rfl (Nat.le_of_ble_eq_true rfl) (by decide) (by decide) dX12_told_121 ?_
      refine R_i 124 hR (by first | rfl | exact narrow_bI _) dX12_told_124 (Nat.le_refl _) (Nat.le_refl _) ?_
      refine ⟨?_, rfl, rfl, rfl⟩
      first | (rw [F_told_o (by simpa using hsw)]; done) | rfl | (rw [F_told_8]; first | (rw [if_pos h132]; done) | (rw [if_neg h132, if_pos h147]; done) | (rw [if_neg h132, if_neg h147, if_pos h162]; done) | (rw [if_neg h132, if_neg h147, if_neg h162]; done))
    · refine G_tableIn 16 109 125 hC dX12_told_16 (by decide) (by decide) rfl (by decide) ?_
      refine G_aload_n 125 hC rfl dX12_told_125 ?_
      refine M_getR 126 hC hF fl_X12_26_11 rfl rfl dX12_told_126 ?_
      refine G_iload_n 129 hC rfl dX12_told_129 ?_
      refine N_ialdO 130 hC hF rfl (by decide) (by decide) rfl (by omega) dX12_told_130 ?_
      refine G_iconst 131 hC (nI 4) (by decide) dX12_told_131 ?_
      refine G_icmp_ne 132 140 hC dX12_told_132 (by decide) (fun h132 => ?_) (fun h132 => ?_)
      · refine G_aload_n 140 hC rfl dX12_told_140 ?_
        refine M_getR 141 hC hF fl_X12_26_11 rfl rfl dX12_told_141 ?_
        refine G_iload_n 144 hC rfl dX12_told_144 ?_
        refine N_ialdO 145 hC hF rfl (by decide) (by decide) rfl (by omega) dX12_told_145 ?_
        refine G_iconst 146 hC (nI 1) (by decide) dX12_told_146 ?_
        refine G_icmp_ne 147 155 hC dX12_told_147 (by decide) (fun h147 => ?_) (fun h147 => ?_)
        · refine G_aload_n 155 hC rfl dX12_told_155 ?_
          refine M_getR 156 hC hF fl_X12_26_11 rfl rfl dX12_told_156 ?_
          refine G_iload_n 159 hC rfl dX12_told_159 ?_
          refine N_ialdO 160 hC hF rfl (by decide) (by decide) rfl (by omega) dX12_told_160 ?_
          refine G_iconst 161 hC (nI 3) (by decide) dX12_told_161 ?_
          refine G_icmp_ne 162 170 hC dX12_told_162 (by decide) (fun h162 => ?_) (fun h162 => ?_)
          · refine G_bipush 170 hC (nI 10) (by decide) dX12_told_170 ?_
            refine R_i 172 hR (by first | rfl | exact narrow_bI _) dX12_told_172 (Nat.le_refl _) (Nat.le_refl _) ?_
            refine ⟨?_, rfl, rfl, rfl⟩
            first | (rw [F_told_o (by simpa using hsw)]; done) | rfl | (rw [F_told_8]; first | (rw [if_pos h132]; done) | (rw [if_neg h132, if_pos h147]; done) | (rw [if_neg h132, if_neg h147, if_pos h162]; done) | (rw [if_neg h132, if_neg h147, if_neg h162]; done))
          · refine G_bipush 165 hC (nI 12) (by decide) dX12_told_165 ?_
            refine G_goto 167 172 hC dX12_told_167 (by decide) ?_
            refine R_i 172 hR (by first | rfl | exact narrow_bI _) dX12_told_172 (Nat.le_refl _) (Nat.le_refl _) ?_
            refine ⟨?_, rfl, rfl, rfl⟩
            first | (rw [F_told_o (by simpa using hsw)]; done) | rfl | (rw [F_told_8]; first | (rw [if_pos h132]; done) | (rw [if_neg h132, if_pos h147]; done) | (rw [if_neg h132, if_neg h147, if_pos h162]; done) | (rw [if_neg h132, if_neg h147, if_neg h162]; done))
        · refine G_bipush 150 hC (nI 11) (by decide) dX12_told_150 ?_
          refine G_goto 152 172 hC dX12_told_152 (by decide) ?_
          refine R_i 172 hR (by first | rfl | exact narrow_bI _) dX12_told_172 (Nat.le_refl _) (Nat.le_refl _) ?_
          refine ⟨?_, rfl, rfl, rfl⟩
          first | (rw [F_told_o (by simpa using hsw)]; done) | rfl | (rw [F_told_8]; first | (rw [if_pos h132]; done) | (rw [if_neg h132, if_pos h147]; done) | (rw [if_neg h132, if_neg h147, if_pos h162]; done) | (rw [if_neg h132, if_neg h147, if_neg h162]; done))
      · refine G_bipush 135 hC (nI 30) (by decide) dX12_told_135 ?_
        refine G_goto 137 172 hC dX12_told_137 (by decide) ?_
        refine R_i 172 hR (by first | rfl | exact narrow_bI _) dX12_told_172 (Nat.le_refl _) (Nat.le_refl _) ?_
        refine ⟨?_, rfl, rfl, rfl⟩
        first | (rw [F_told_o (by simpa using hsw)]; done) | rfl | (rw [F_told_8]; first | (rw [if_pos h132]; done) | (rw [if_neg h132, if_pos h147]; done) | (rw [if_neg h132, if_neg h147, if_pos h162]; done) | (rw [if_neg h132, if_neg h147, if_neg h162]; done))
  · exact absurd (inR_nI ht (by omega)) h10
theorem n_note_no (hF : FixR b N) (h0 : r 0 0 = nI 0) {k : Nat} {x : Int32} (hk : n 244 = nI k) (hk2 : k ≤ 40) (hx : ¬ inR x k) : Cq l D B mX12_note [vr (some (b + 0)), vi x] (RI b r n G) L N (some (vi (-9))) (RI b r n G) L := by
  refine Ct.of (M := mX12_note) (by decide) (Nat.le_of_ble_eq_true rfl) (fun g (hR : Cr l D B RX12 cX12_note 2 "note" { frames := 1, cells := 0, slots := 0, locals := 22 } (some .int) 0 0 _ g) => ?_)
  have hC := hR.cx
  show g 0 [some (vr (some (b + 0))), some (vi x)] [] _ _ N 0 0
  refine G_aload_n 0 hC rfl dX12_note_0 ?_
  refine G_iconst 1 hC (nI 0) (by decide) dX12_note_1 ?_
  refine N_thr 2 hC hF h0 (fp_X12_96_11 _) dX12_note_2 ?_
  refine G_iload_n 5 hC rfl dX12_note_5 ?_
  refine G_iconst 6 hC (nI 0) (by decide) dX12_note_6 ?_
  refine G_aload_n 7 hC rfl dX12_note_7 ?_
  refine M_getR 8 hC hF fl_X12_68_11 rfl rfl dX12_note_8 ?_
  refine G_sipush 11 hC (nI 244) (by decide) dX12_note_11 ?_
  refine N_iald 14 hC hF rfl (by omega) dX12_note_14 ?_
  refine G_iconst 15 hC (nI 1) (by decide) dX12_note_15 ?_
  refine G_isub 16 hC dX12_note_16 ?_
  refine G_callS1 17 hC (ref_in) okX12_in lk_X12_107 rfl rfl rfl (Nat.le_of_ble_eq_true rfl) (by decide) (by decide) dX12_note_17 ?_
  first | refine G_if_eq_b 20 36 hC dX12_note_20 (by decide) (fun h20 => ?_) (fun h20 => ?_) | refine G_if_eq 20 36 hC dX12_note_20 (by decide) (fun h20 => ?_) (fun h20 => ?_)
  · refine G_bipush 36 hC (-9) (by decide) dX12_note_36 ?_
    refine R_i 38 hR (by first | rfl | exact narrow_bI _) dX12_note_38 (Nat.le_refl _) (Nat.le_refl _) ?_
    exact ⟨rfl, rfl, rfl, rfl⟩
  · exact absurd ((in_inR (by omega)).mp (hk ▸ h20)) hx
theorem n_note_yes (hF : FixR b N) (h0 : r 0 0 = nI 0) {k j : Nat} (hk : n 244 = nI k) (hk2 : k ≤ 40) (hj : j < k) : Cq l D B mX12_note [vr (some (b + 0)), vi (nI j)] (RI b r n G) L N (some (vi (n (262 + j)))) (RI b r n G) L := by
  refine Ct.of (M := mX12_note) (by decide) (Nat.le_of_ble_eq_true rfl) (fun g (hR : Cr l D B RX12 cX12_note 2 "note" { frames := 1, cells := 0, slots := 0, locals := 22 } (some .int) 0 0 _ g) => ?_)
  have hC := hR.cx
  show g 0 [some (vr (some (b + 0))), some (vi (nI j))] [] _ _ N 0 0
  refine G_aload_n 0 hC rfl dX12_note_0 ?_
  refine G_iconst 1 hC (nI 0) (by decide) dX12_note_1 ?_
  refine N_thr 2 hC hF h0 (fp_X12_96_11 _) dX12_note_2 ?_
  refine G_iload_n 5 hC rfl dX12_note_5 ?_
  refine G_iconst 6 hC (nI 0) (by decide) dX12_note_6 ?_
  refine G_aload_n 7 hC rfl dX12_note_7 ?_
  refine M_getR 8 hC hF fl_X12_68_11 rfl rfl dX12_note_8 ?_
  refine G_sipush 11 hC (nI 244) (by decide) dX12_note_11 ?_
  refine N_iald 14 hC hF rfl (by omega) dX12_note_14 ?_
  refine G_iconst 15 hC (nI 1) (by decide) dX12_note_15 ?_
  refine G_isub 16 hC dX12_note_16 ?_
  refine G_callS1 17 hC (ref_in) okX12_in lk_X12_107 rfl rfl rfl (Nat.le_of_ble_eq_true rfl) (by decide) (by decide) dX12_note_17 ?_
  first | refine G_if_eq_b 20 36 hC dX12_note_20 (by decide) (fun h20 => ?_) (fun h20 => ?_) | refine G_if_eq 20 36 hC dX12_note_20 (by decide) (fun h20 => ?_) (fun h20 => ?_)
  · exact absurd (hk.symm ▸ (in_inR (by omega)).mpr (inR_nI hj (by omega))) h20
  · refine G_aload_n 23 hC rfl dX12_note_23 ?_
    refine M_getR 24 hC hF fl_X12_68_11 rfl rfl dX12_note_24 ?_
    refine G_sipush 27 hC (nI 262) (by decide) dX12_note_27 ?_
    refine G_iload_n 30 hC rfl dX12_note_30 ?_
    refine G_iaddN 31 hC dX12_note_31 ?_
    refine N_iald 32 hC hF rfl (by omega) dX12_note_32 ?_
    refine G_goto 33 38 hC dX12_note_33 (by decide) ?_
    refine R_i 38 hR (by first | rfl | exact narrow_bI _) dX12_note_38 (Nat.le_refl _) (Nat.le_refl _) ?_
    exact ⟨rfl, rfl, rfl, rfl⟩
theorem n_finished_no (hF : FixR b N) (h0 : r 0 0 = nI 0) {nth : Nat} {x : Int32} (hth : r 0 1 = nI nth) (hth6 : nth ≤ 6) (hx : ¬ inR x nth) : Cq l D B mX12_finished [vr (some (b + 0)), vi x] (RI b r n G) L N (some (vi (-1))) (RI b r n G) L := by
  refine Ct.of (M := mX12_finished) (by decide) (Nat.le_of_ble_eq_true rfl) (fun g (hR : Cr l D B RX12 cX12_finished 2 "finished" { frames := 1, cells := 0, slots := 0, locals := 22 } (some .int) 0 0 _ g) => ?_)
  have hC := hR.cx
  show g 0 [some (vr (some (b + 0))), some (vi x)] [] _ _ N 0 0
  refine G_aload_n 0 hC rfl dX12_finished_0 ?_
  refine G_iconst 1 hC (nI 0) (by decide) dX12_finished_1 ?_
  refine N_thr 2 hC hF h0 (fp_X12_96_11 _) dX12_finished_2 ?_
  refine G_iload_n 5 hC rfl dX12_finished_5 ?_
  refine G_iconst 6 hC (nI 0) (by decide) dX12_finished_6 ?_
  refine G_aload_n 7 hC rfl dX12_finished_7 ?_
  refine N_getI 8 hC hF fl_X12_86_11 rfl dX12_finished_8 ?_
  refine G_iconst 11 hC (nI 1) (by decide) dX12_finished_11 ?_
  refine G_isub 12 hC dX12_finished_12 ?_
  refine G_callS1 13 hC (ref_in) okX12_in lk_X12_107 rfl rfl rfl (Nat.le_of_ble_eq_true rfl) (by decide) (by decide) dX12_finished_13 ?_
  first | refine G_if_eq_b 16 32 hC dX12_finished_16 (by decide) (fun h16 => ?_) (fun h16 => ?_) | refine G_if_eq 16 32 hC dX12_finished_16 (by decide) (fun h16 => ?_) (fun h16 => ?_)
  · refine G_iconst 32 hC (-1) (by decide) dX12_finished_32 ?_
    refine R_i 33 hR (by first | rfl | exact narrow_bI _) dX12_finished_33 (Nat.le_refl _) (Nat.le_refl _) ?_
    exact ⟨rfl, rfl, rfl, rfl⟩
  · exact absurd ((in_inR (by omega)).mp (hth ▸ h16)) hx
theorem n_finished_yes (hF : FixR b N) (h0 : r 0 0 = nI 0) {nth j : Nat} (hth : r 0 1 = nI nth) (hth6 : nth ≤ 6) (hj : j < nth) : Cq l D B mX12_finished [vr (some (b + 0)), vi (nI j)] (RI b r n G) L N (some (vi (n (256 + j)))) (RI b r n G) L := by
  refine Ct.of (M := mX12_finished) (by decide) (Nat.le_of_ble_eq_true rfl) (fun g (hR : Cr l D B RX12 cX12_finished 2 "finished" { frames := 1, cells := 0, slots := 0, locals := 22 } (some .int) 0 0 _ g) => ?_)
  have hC := hR.cx
  show g 0 [some (vr (some (b + 0))), some (vi (nI j))] [] _ _ N 0 0
  refine G_aload_n 0 hC rfl dX12_finished_0 ?_
  refine G_iconst 1 hC (nI 0) (by decide) dX12_finished_1 ?_
  refine N_thr 2 hC hF h0 (fp_X12_96_11 _) dX12_finished_2 ?_
  refine G_iload_n 5 hC rfl dX12_finished_5 ?_
  refine G_iconst 6 hC (nI 0) (by decide) dX12_finished_6 ?_
  refine G_aload_n 7 hC rfl dX12_finished_7 ?_
  refine N_getI 8 hC hF fl_X12_86_11 rfl dX12_finished_8 ?_
  refine G_iconst 11 hC (nI 1) (by decide) dX12_finished_11 ?_
  refine G_isub 12 hC dX12_finished_12 ?_
  refine G_callS1 13 hC (ref_in) okX12_in lk_X12_107 rfl rfl rfl (Nat.le_of_ble_eq_true rfl) (by decide) (by decide) dX12_finished_13 ?_
  first | refine G_if_eq_b 16 32 hC dX12_finished_16 (by decide) (fun h16 => ?_) (fun h16 => ?_) | refine G_if_eq 16 32 hC dX12_finished_16 (by decide) (fun h16 => ?_) (fun h16 => ?_)
  · exact absurd (hth.symm ▸ (in_inR (by omega)).mpr (inR_nI hj (by omega))) h16
  · refine G_aload_n 19 hC rfl dX12_finished_19 ?_
    refine M_getR 20 hC hF fl_X12_68_11 rfl rfl dX12_finished_20 ?_
    refine G_sipush 23 hC (nI 256) (by decide) dX12_finished_23 ?_
    refine G_iload_n 26 hC rfl dX12_finished_26 ?_
    refine G_iaddN 27 hC dX12_finished_27 ?_
    refine N_iald 28 hC hF rfl (by omega) dX12_finished_28 ?_
    refine G_goto 29 33 hC dX12_finished_29 (by decide) ?_
    refine R_i 33 hR (by first | rfl | exact narrow_bI _) dX12_finished_33 (Nat.le_refl _) (Nat.le_refl _) ?_
    exact ⟨rfl, rfl, rfl, rfl⟩
theorem n_count (hF : FixR b N) (h0 : r 0 0 = nI 0) {y : Int32} : Cq l D B mX12_count [vr (some (b + 0)), vi y] (RI b r n G) L N (some (vi (F_count r n y))) (RI b r n G) L := by
  refine Ct.of (M := mX12_count) (by decide) (Nat.le_of_ble_eq_true rfl) (fun g (hR : Cr l D B RX12 cX12_count 2 "count" { frames := 0, cells := 0, slots := 0, locals := 0 } (some .int) 0 0 _ g) => ?_)
  have hC := hR.cx
  show g 0 [some (vr (some (b + 0))), some (vi y)] [] _ _ N 0 0
  refine G_aload_n 0 hC rfl dX12_count_0 ?_
  refine G_iconst 1 hC (nI 0) (by decide) dX12_count_1 ?_
  refine N_thr 2 hC hF h0 (fp_X12_96_11 _) dX12_count_2 ?_
  refine G_iload_n 5 hC rfl dX12_count_5 ?_
  rcases sw_any y 8 (by omega) with hsw | ⟨k, hk, rfl⟩
  · refine G_tableOut 6 125 hC dX12_count_6 (by simpa using hsw) (by decide) ?_
    refine G_iconst 125 hC (-1) (by decide) dX12_count_125 ?_
    refine R_i 126 hR (by first | rfl | exact narrow_bI _) dX12_count_126 (Nat.le_refl _) (Nat.le_refl _) ?_
    refine ⟨?_, rfl, rfl, rfl⟩
    first | (rw [F_count_o (by simpa using hsw)]; done) | rfl
  rcases (show k = 0 ∨ k = 1 ∨ k = 2 ∨ k = 3 ∨ k = 4 ∨ k = 5 ∨ k = 6 ∨ k = 7 ∨ k = 8 by omega) with rfl | rfl | rfl | rfl | rfl | rfl | rfl | rfl | rfl
  · refine G_tableIn 6 50 56 hC dX12_count_6 (by decide) (by decide) rfl (by decide) ?_
    refine G_aload_n 56 hC rfl dX12_count_56 ?_
    refine N_getI 57 hC hF fl_X12_104_11 rfl dX12_count_57 ?_
    refine R_i 60 hR (by first | rfl | exact narrow_bI _) dX12_count_60 (Nat.le_refl _) (Nat.le_refl _) ?_
    refine ⟨?_, rfl, rfl, rfl⟩
    first | (rw [F_count_o (by simpa using hsw)]; done) | rfl
  · refine G_tableIn 6 55 61 hC dX12_count_6 (by decide) (by decide) rfl (by decide) ?_
    refine G_aload_n 61 hC rfl dX12_count_61 ?_
    refine N_getI 62 hC hF fl_X12_101_11 rfl dX12_count_62 ?_
    refine R_i 65 hR (by first | rfl | exact narrow_bI _) dX12_count_65 (Nat.le_refl _) (Nat.le_refl _) ?_
    refine ⟨?_, rfl, rfl, rfl⟩
    first | (rw [F_count_o (by simpa using hsw)]; done) | rfl
  · refine G_tableIn 6 60 66 hC dX12_count_6 (by decide) (by decide) rfl (by decide) ?_
    refine G_aload_n 66 hC rfl dX12_count_66 ?_
    refine N_getI 67 hC hF fl_X12_148_11 rfl dX12_count_67 ?_
    refine R_i 70 hR (by first | rfl | exact narrow_bI _) dX12_count_70 (Nat.le_refl _) (Nat.le_refl _) ?_
    refine ⟨?_, rfl, rfl, rfl⟩
    first | (rw [F_count_o (by simpa using hsw)]; done) | rfl
  · refine G_tableIn 6 65 71 hC dX12_count_6 (by decide) (by decide) rfl (by decide) ?_
    refine G_aload_n 71 hC rfl dX12_count_71 ?_
    refine M_getR 72 hC hF fl_X12_68_11 rfl rfl dX12_count_72 ?_
    refine G_sipush 75 hC (nI 240) (by decide) dX12_count_75 ?_
    refine N_iald 78 hC hF rfl (by omega) dX12_count_78 ?_
    refine R_i 79 hR (by first | rfl | exact narrow_bI _) dX12_count_79 (Nat.le_refl _) (Nat.le_refl _) ?_
    refine ⟨?_, rfl, rfl, rfl⟩
    first | (rw [F_count_o (by simpa using hsw)]; done) | rfl
  · refine G_tableIn 6 74 80 hC dX12_count_6 (by decide) (by decide) rfl (by decide) ?_
    refine G_aload_n 80 hC rfl dX12_count_80 ?_
    refine M_getR 81 hC hF fl_X12_68_11 rfl rfl dX12_count_81 ?_
    refine G_sipush 84 hC (nI 241) (by decide) dX12_count_84 ?_
    refine N_iald 87 hC hF rfl (by omega) dX12_count_87 ?_
    refine R_i 88 hR (by first | rfl | exact narrow_bI _) dX12_count_88 (Nat.le_refl _) (Nat.le_refl _) ?_
    refine ⟨?_, rfl, rfl, rfl⟩
    first | (rw [F_count_o (by simpa using hsw)]; done) | rfl
  · refine G_tableIn 6 83 89 hC dX12_count_6 (by decide) (by decide) rfl (by decide) ?_
    refine G_aload_n 89 hC rfl dX12_count_89 ?_
    refine M_getR 90 hC hF fl_X12_68_11 rfl rfl dX12_count_90 ?_
    refine G_sipush 93 hC (nI 242) (by decide) dX12_count_93 ?_
    refine N_iald 96 hC hF rfl (by omega) dX12_count_96 ?_
    refine R_i 97 hR (by first | rfl | exact narrow_bI _) dX12_count_97 (Nat.le_refl _) (Nat.le_refl _) ?_
    refine ⟨?_, rfl, rfl, rfl⟩
    first | (rw [F_count_o (by simpa using hsw)]; done) | rfl
  · refine G_tableIn 6 92 98 hC dX12_count_6 (by decide) (by decide) rfl (by decide) ?_
    refine G_aload_n 98 hC rfl dX12_count_98 ?_
    refine M_getR 99 hC hF fl_X12_68_11 rfl rfl dX12_count_99 ?_
    refine G_sipush 102 hC (nI 243) (by decide) dX12_count_102 ?_
    refine N_iald 105 hC hF rfl (by omega) dX12_count_105 ?_
    refine R_i 106 hR (by first | rfl | exact narrow_bI _) dX12_count_106 (Nat.le_refl _) (Nat.le_refl _) ?_
    refine ⟨?_, rfl, rfl, rfl⟩
    first | (rw [F_count_o (by simpa using hsw)]; done) | rfl
  · refine G_tableIn 6 101 107 hC dX12_count_6 (by decide) (by decide) rfl (by decide) ?_
    refine G_aload_n 107 hC rfl dX12_count_107 ?_
    refine M_getR 108 hC hF fl_X12_68_11 rfl rfl dX12_count_108 ?_
    refine G_sipush 111 hC (nI 244) (by decide) dX12_count_111 ?_
    refine N_iald 114 hC hF rfl (by omega) dX12_count_114 ?_
    refine R_i 115 hR (by first | rfl | exact narrow_bI _) dX12_count_115 (Nat.le_refl _) (Nat.le_refl _) ?_
    refine ⟨?_, rfl, rfl, rfl⟩
    first | (rw [F_count_o (by simpa using hsw)]; done) | rfl
  · refine G_tableIn 6 110 116 hC dX12_count_6 (by decide) (by decide) rfl (by decide) ?_
    refine G_aload_n 116 hC rfl dX12_count_116 ?_
    refine M_getR 117 hC hF fl_X12_68_11 rfl rfl dX12_count_117 ?_
    refine G_sipush 120 hC (nI 246) (by decide) dX12_count_120 ?_
    refine N_iald 123 hC hF rfl (by omega) dX12_count_123 ?_
    refine R_i 124 hR (by first | rfl | exact narrow_bI _) dX12_count_124 (Nat.le_refl _) (Nat.le_refl _) ?_
    refine ⟨?_, rfl, rfl, rfl⟩
    first | (rw [F_count_o (by simpa using hsw)]; done) | rfl
end M16

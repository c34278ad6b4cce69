/-! ===== the reference's small methods ===== -/
theorem narrow_bI (c : Prop) [Decidable c] : narrow .boolean (.int (bI c)) = .int (bI c) := by unfold bI; by_cases h : c <;> simp [h] <;> rfl
theorem nI_one : nI 1 = 1 := by decide
theorem bI_iff {c d : Prop} [Decidable c] [Decidable d] (h : c ↔ d) : bI c = bI d := by unfold bI; by_cases q : c <;> simp [q, h.mp, show d ↔ c from h.symm]
abbrev inR (x : Int32) (n : Nat) : Prop := 0 ≤ x.toInt ∧ x.toInt < (n : Int)
theorem inR_of {x : Int32} {n : Nat} (h : inR x n) (hn : n < 2 ^ 31) : ∃ j : Nat, j < n ∧ x = nI j := vp_in_of (vp_in_iff.mpr h) hn
theorem inR_nI {n j : Nat} (h : j < n) (hn : n < 2 ^ 31) : inR (nI j) n := by unfold inR; rw [nI_toInt (by omega)]; omega
theorem in_inR {x : Int32} {n : Nat} (hn : n < 2 ^ 30) : (nI 0 ≤ x ∧ x ≤ nI n - nI 1) ↔ inR x n := by
  rw [Int32.le_iff_toInt_le, Int32.le_iff_toInt_le, pk_sub_toInt hn (by omega), nI_toInt (by omega)]
  unfold inR
  omega
theorem nI_eq_of {a c : Nat} (h : nI a = nI c) (ha : a < 2 ^ 31) (hc : c < 2 ^ 31) : a = c := (nI_eq ha hc).mp h
section M1
variable {l : Launch} {D : va_G} {B b : Nat} {N : NT} {r G : MI} {rl GL : ML} {I : MI} {L : ML}
theorem ref_in {v lo hi : Int32} : Cq l D B mX12_in [vi v, vi lo, vi hi] I L N (some (vi (bI (lo ≤ v ∧ v ≤ hi)))) I L := by
  refine Ct.of (M := mX12_in) (by decide) (Nat.le_of_ble_eq_true rfl) (fun g (hR : Cr l D B RX12 cX12_in 3 "in" { frames := 0, cells := 0, slots := 0, locals := 0 } (some .boolean) 0 0 _ g) => ?_)
  have hC := hR.cx
  show g 0 [some (vi v), some (vi lo), some (vi hi)] [] _ _ N 0 0
  refine G_iload_n 0 hC rfl dX12_in_0 ?_
  refine G_iload_n 1 hC rfl dX12_in_1 ?_
  refine G_icmp_lt 2 14 hC dX12_in_2 (by decide) (fun h2 => ?_) (fun h2 => ?_)
  · refine G_iconst 14 hC (nI 0) (by decide) dX12_in_14 ?_
    refine R_i 15 hR (by first | rfl | exact narrow_bI _) dX12_in_15 (Nat.le_refl _) (Nat.le_refl _) ?_
    refine ⟨?_, rfl, rfl, rfl⟩
    simp only [Int32.lt_iff_toInt_lt, Int32.le_iff_toInt_le, bI] at *
    split <;> first | rfl | (exfalso; omega)
  · refine G_iload_n 5 hC rfl dX12_in_5 ?_
    refine G_iload_n 6 hC rfl dX12_in_6 ?_
    refine G_icmp_gt 7 14 hC dX12_in_7 (by decide) (fun h7 => ?_) (fun h7 => ?_)
    · refine G_iconst 14 hC (nI 0) (by decide) dX12_in_14 ?_
      refine R_i 15 hR (by first | rfl | exact narrow_bI _) dX12_in_15 (Nat.le_refl _) (Nat.le_refl _) ?_
      refine ⟨?_, rfl, rfl, rfl⟩
      simp only [Int32.lt_iff_toInt_lt, Int32.le_iff_toInt_le, bI] at *
      split <;> first | rfl | (exfalso; omega)
    · refine G_iconst 10 hC (nI 1) (by decide) dX12_in_10 ?_
      refine G_goto 11 15 hC dX12_in_11 (by decide) ?_
      refine R_i 15 hR (by first | rfl | exact narrow_bI _) dX12_in_15 (Nat.le_refl _) (Nat.le_refl _) ?_
      refine ⟨?_, rfl, rfl, rfl⟩
      simp only [Int32.lt_iff_toInt_lt, Int32.le_iff_toInt_le, bI] at *
      split <;> first | rfl | (exfalso; omega)
theorem ref_isOpen (hF : FixR b N) : Cq l D B mX12_isOpen [vr (some (b + 0))] (pt b 26 r G) L N (some (vi (bI (r 20 246 = 1)))) (pt b 26 r G) L := by
  refine Ct.of (M := mX12_isOpen) (by decide) (Nat.le_of_ble_eq_true rfl) (fun g (hR : Cr l D B RX12 cX12_isOpen 1 "isOpen" { frames := 0, cells := 0, slots := 0, locals := 0 } (some .boolean) 0 0 _ g) => ?_)
  have hC := hR.cx
  show g 0 [some (vr (some (b + 0)))] [] _ _ N 0 0
  refine G_aload_n 0 hC rfl dX12_isOpen_0 ?_
  refine M_getR 1 hC hF fl_X12_68_11 rfl rfl dX12_isOpen_1 ?_
  refine G_sipush 4 hC (nI 246) (by decide) dX12_isOpen_4 ?_
  refine M_iald 7 hC hF rfl (by decide) rfl (by omega) dX12_isOpen_7 ?_
  refine G_iconst 8 hC (nI 1) (by decide) dX12_isOpen_8 ?_
  refine G_icmp_ne 9 16 hC dX12_isOpen_9 (by decide) (fun h9 => ?_) (fun h9 => ?_)
  · refine G_iconst 16 hC (nI 0) (by decide) dX12_isOpen_16 ?_
    refine R_i 17 hR (by first | rfl | exact narrow_bI _) dX12_isOpen_17 (Nat.le_refl _) (Nat.le_refl _) ?_
    exact ⟨by simp_all [bI, nI_0, nI_one], rfl, rfl, rfl⟩
  · refine G_iconst 12 hC (nI 1) (by decide) dX12_isOpen_12 ?_
    refine G_goto 13 17 hC dX12_isOpen_13 (by decide) ?_
    refine R_i 17 hR (by first | rfl | exact narrow_bI _) dX12_isOpen_17 (Nat.le_refl _) (Nat.le_refl _) ?_
    exact ⟨by simp_all [bI, nI_0, nI_one], rfl, rfl, rfl⟩
theorem ref_isGrid (hF : FixR b N) {x : Int32} {ng : Nat} (h : r 0 3 = nI ng) (hn : ng ≤ 6) : Cq l D B mX12_isGrid [vr (some (b + 0)), vi x] (pt b 26 r G) L N (some (vi (bI (inR x ng)))) (pt b 26 r G) L := by
  refine Ct.of (M := mX12_isGrid) (by decide) (Nat.le_of_ble_eq_true rfl) (fun g (hR : Cr l D B RX12 cX12_isGrid 2 "isGrid" { frames := 1, cells := 0, slots := 0, locals := 22 } (some .boolean) 0 0 _ g) => ?_)
  have hC := hR.cx
  show g 0 [some (vr (some (b + 0))), some (vi x)] [] _ _ N 0 0
  refine G_iload_n 0 hC rfl dX12_isGrid_0 ?_
  refine G_iconst 1 hC (nI 0) (by decide) dX12_isGrid_1 ?_
  refine G_aload_n 2 hC rfl dX12_isGrid_2 ?_
  refine M_getI 3 hC hF fl_X12_104_11 rfl dX12_isGrid_3 ?_
  refine G_iconst 6 hC (nI 1) (by decide) dX12_isGrid_6 ?_
  refine G_isub 7 hC dX12_isGrid_7 ?_
  refine G_callS1 8 hC (ref_in) okX12_in lk_X12_107 rfl rfl rfl (by decide) (by decide) (by decide) dX12_isGrid_8 ?_
  refine R_i 11 hR (by first | rfl | exact narrow_bI _) dX12_isGrid_11 (Nat.le_refl _) (Nat.le_refl _) ?_
  exact ⟨by rw [h]; rw [bI_iff (in_inR (by omega))], rfl, rfl, rfl⟩
theorem ref_isTask (hF : FixR b N) {x : Int32} {nt : Nat} (h : r 0 10 = nI nt) (hn : nt ≤ 20) : Cq l D B mX12_isTask [vr (some (b + 0)), vi x] (pt b 26 r G) L N (some (vi (bI (inR x nt)))) (pt b 26 r G) L := by
  refine Ct.of (M := mX12_isTask) (by decide) (Nat.le_of_ble_eq_true rfl) (fun g (hR : Cr l D B RX12 cX12_isTask 2 "isTask" { frames := 1, cells := 0, slots := 0, locals := 22 } (some .boolean) 0 0 _ g) => ?_)
  have hC := hR.cx
  show g 0 [some (vr (some (b + 0))), some (vi x)] [] _ _ N 0 0
  refine G_iload_n 0 hC rfl dX12_isTask_0 ?_
  refine G_iconst 1 hC (nI 0) (by decide) dX12_isTask_1 ?_
  refine G_aload_n 2 hC rfl dX12_isTask_2 ?_
  refine M_getI 3 hC hF fl_X12_101_11 rfl dX12_isTask_3 ?_
  refine G_iconst 6 hC (nI 1) (by decide) dX12_isTask_6 ?_
  refine G_isub 7 hC dX12_isTask_7 ?_
  refine G_callS1 8 hC (ref_in) okX12_in lk_X12_107 rfl rfl rfl (by decide) (by decide) (by decide) dX12_isTask_8 ?_
  refine R_i 11 hR (by first | rfl | exact narrow_bI _) dX12_isTask_11 (Nat.le_refl _) (Nat.le_refl _) ?_
  exact ⟨by rw [h]; rw [bI_iff (in_inR (by omega))], rfl, rfl, rfl⟩
theorem ref_at (hF : FixR b N) {t w : Nat} (ht : t < 20) (hw : w < 12) : Cq l D B mX12_at [vr (some (b + 0)), vi (nI t), vi (nI w)] (pt b 26 r G) L N (some (vi (r 20 (12 * t + w)))) (pt b 26 r G) L := by
  refine Ct.of (M := mX12_at) (by decide) (Nat.le_of_ble_eq_true rfl) (fun g (hR : Cr l D B RX12 cX12_at 3 "at" { frames := 0, cells := 0, slots := 0, locals := 0 } (some .int) 0 0 _ g) => ?_)
  have hC := hR.cx
  show g 0 [some (vr (some (b + 0))), some (vi (nI t)), some (vi (nI w))] [] _ _ N 0 0
  refine G_aload_n 0 hC rfl dX12_at_0 ?_
  refine M_getR 1 hC hF fl_X12_68_11 rfl rfl dX12_at_1 ?_
  refine G_bipush 4 hC (nI 12) (by decide) dX12_at_4 ?_
  refine G_iload_n 6 hC rfl dX12_at_6 ?_
  refine G_imulN 7 hC dX12_at_7 ?_
  refine G_iload_n 8 hC rfl dX12_at_8 ?_
  refine G_iaddN 9 hC dX12_at_9 ?_
  refine M_iald 10 hC hF rfl (by decide) rfl (by omega) dX12_at_10 ?_
  refine R_i 11 hR (by first | rfl | exact narrow_bI _) dX12_at_11 (Nat.le_refl _) (Nat.le_refl _) ?_
  exact ⟨rfl, rfl, rfl, rfl⟩
theorem ref_set (hF : FixR b N) {t w : Nat} {v : Int32} (ht : t < 20) (hw : w < 12) : Cq l D B mX12_set [vr (some (b + 0)), vi (nI t), vi (nI w), vi v] (pt b 26 r G) L N none (pt b 26 (upd2 r 20 (12 * t + w) v) G) L := by
  refine Ct.of (M := mX12_set) (by decide) (Nat.le_of_ble_eq_true rfl) (fun g (hR : Cr l D B RX12 cX12_set 4 "set" { frames := 0, cells := 0, slots := 0, locals := 0 } none 0 0 _ g) => ?_)
  have hC := hR.cx
  show g 0 [some (vr (some (b + 0))), some (vi (nI t)), some (vi (nI w)), some (vi v)] [] _ _ N 0 0
  refine G_aload_n 0 hC rfl dX12_set_0 ?_
  refine M_getR 1 hC hF fl_X12_68_11 rfl rfl dX12_set_1 ?_
  refine G_bipush 4 hC (nI 12) (by decide) dX12_set_4 ?_
  refine G_iload_n 6 hC rfl dX12_set_6 ?_
  refine G_imulN 7 hC dX12_set_7 ?_
  refine G_iload_n 8 hC rfl dX12_set_8 ?_
  refine G_iaddN 9 hC dX12_set_9 ?_
  refine G_iload_n 10 hC rfl dX12_set_10 ?_
  refine M_iast 11 hC hF rfl (by decide) rfl (by omega) dX12_set_11 ?_
  refine R_v 12 hR dX12_set_12 (Nat.le_refl _) (Nat.le_refl _) ?_
  exact ⟨rfl, rfl, rfl, rfl⟩
theorem ref_more (hF : FixR b N) {t w : Nat} (ht : t < 20) (hw : w < 12) : Cq l D B mX12_more [vr (some (b + 0)), vi (nI t), vi (nI w)] (pt b 26 r G) L N none (pt b 26 (upd2 r 20 (12 * t + w) (r 20 (12 * t + w) + nI 1)) G) L := by
  refine Ct.of (M := mX12_more) (by decide) (Nat.le_of_ble_eq_true rfl) (fun g (hR : Cr l D B RX12 cX12_more 3 "more" { frames := 0, cells := 0, slots := 0, locals := 0 } none 0 0 _ g) => ?_)
  have hC := hR.cx
  show g 0 [some (vr (some (b + 0))), some (vi (nI t)), some (vi (nI w))] [] _ _ N 0 0
  refine G_aload_n 0 hC rfl dX12_more_0 ?_
  refine M_getR 1 hC hF fl_X12_68_11 rfl rfl dX12_more_1 ?_
  refine G_bipush 4 hC (nI 12) (by decide) dX12_more_4 ?_
  refine G_iload_n 6 hC rfl dX12_more_6 ?_
  refine G_imulN 7 hC dX12_more_7 ?_
  refine G_iload_n 8 hC rfl dX12_more_8 ?_
  refine G_iaddN 9 hC dX12_more_9 ?_
  first | refine G_dup2 10 hC rfl rfl dX12_more_10 ?_ | refine G_dup2L 10 hC dX12_more_10 ?_
  refine M_iald 11 hC hF rfl (by decide) rfl (by omega) dX12_more_11 ?_
  refine G_iconst 12 hC (nI 1) (by decide) dX12_more_12 ?_
  refine G_iadd 13 hC dX12_more_13 ?_
  refine M_iast 14 hC hF rfl (by decide) rfl (by omega) dX12_more_14 ?_
  refine R_v 15 hR dX12_more_15 (Nat.le_refl _) (Nat.le_refl _) ?_
  exact ⟨rfl, rfl, rfl, rfl⟩
end M1

/-! ===== the reference's methods of grids and tasks, the small ones ===== -/
theorem bI_t {c : Prop} [Decidable c] (h : c) : nI 1 = bI c := by unfold bI; rw [if_pos h]; rfl
theorem bI_f {c : Prop} [Decidable c] (h : ¬ c) : nI 0 = bI c := by unfold bI; rw [if_neg h]; rfl
theorem sw_any (x : Int32) (n : Nat) (hn : n < 2 ^ 30) : (x.toInt < 0 ∨ (n : Int) < x.toInt) ∨ ∃ k : Nat, k ≤ n ∧ x = nI k := by
  by_cases h : x.toInt < 0 ∨ (n : Int) < x.toInt
  · exact Or.inl h
  · obtain ⟨j, hj, e⟩ := inR_of (x := x) (n := n + 1) ⟨by omega, by omega⟩ (by omega)
    exact Or.inr ⟨j, by omega, e⟩
/-- of the grid g0 (size by row 2): what is wrong with an item k of line i: 2, 1, or 0 -/
def F_ag (r : MI) (g0 : Nat) (i k : Int32) : Int32 := if inR i (r 2 g0).toNatClampNeg then (if r 3 (20 * g0 + i.toNatClampNeg) < 0 then nI 1 else if inR k (r 4 (r 3 (20 * g0 + i.toNatClampNeg)).toNatClampNeg).toNatClampNeg then nI 0 else nI 2) else nI 2
/-- the lines of a grid: missing, or made -/
def PlOk (r : MI) (g0 sz : Nat) : Prop := ∀ i, i < sz → r 3 (20 * g0 + i) = -1 ∨ ∃ p, p < 600 ∧ r 3 (20 * g0 + i) = nI p ∧ ∃ q, q ≤ 12 ∧ r 4 p = nI q
theorem F_ag_out {r : MI} {g0 sz : Nat} {i k : Int32} (h2 : r 2 g0 = nI sz) (hz : sz ≤ 12) (h : ¬ inR i sz) : F_ag r g0 i k = nI 2 := by
  unfold F_ag; rw [h2, nI_clamp (by omega), if_neg h]
theorem F_ag_in {r : MI} {g0 sz i1 : Nat} {k : Int32} (h2 : r 2 g0 = nI sz) (hz : sz ≤ 12) (h : i1 < sz) : F_ag r g0 (nI i1) k = if r 3 (20 * g0 + i1) < 0 then nI 1 else if inR k (r 4 (r 3 (20 * g0 + i1)).toNatClampNeg).toNatClampNeg then nI 0 else nI 2 := by
  unfold F_ag; rw [h2, nI_clamp (show sz < 2 ^ 31 by omega), nI_clamp (show i1 < 2 ^ 31 by omega), if_pos (inR_nI h (by omega))]
theorem F_ag_mi {r : MI} {g0 sz i1 : Nat} {k : Int32} (h2 : r 2 g0 = nI sz) (hz : sz ≤ 12) (h : i1 < sz) (hp : r 3 (20 * g0 + i1) = -1) : F_ag r g0 (nI i1) k = nI 1 := by
  rw [F_ag_in h2 hz h, hp, if_pos (by decide)]
theorem F_ag_ln {r : MI} {g0 sz i1 p q : Nat} {k : Int32} (h2 : r 2 g0 = nI sz) (hz : sz ≤ 12) (h : i1 < sz) (hp0 : p < 600) (hp : r 3 (20 * g0 + i1) = nI p) (hq0 : q ≤ 12) (hq : r 4 p = nI q) : F_ag r g0 (nI i1) k = if inR k q then nI 0 else nI 2 := by
  rw [F_ag_in h2 hz h, hp, if_neg (nI_pos (by omega)), nI_clamp (show p < 2 ^ 31 by omega), hq, nI_clamp (show q < 2 ^ 31 by omega)]
def F_worth (v : Int64) : Int64 := if v ≤ 0 then 0 else if 1000000 < v then 1000000 else v
def F_lf (r : MI) (s0 g0 : Nat) (i : Int32) : Int32 := if r 1 g0 ≠ r 16 s0 then nI 3 else if ¬ inR i (r 2 g0).toNatClampNeg then nI 2 else if r 3 (20 * g0 + i.toNatClampNeg) < 0 then nI 1 else nI 0
section M2
variable {l : Launch} {D : va_G} {B b : Nat} {N : NT} {r G : MI} {rl GL : ML} {I : MI} {L : ML}
theorem ref_newLine (hF : FixR b N) {m nl : Nat} (h : r 0 7 = nI nl) (hn : nl < 600) (hm : m ≠ 13) (hm2 : m < 2 ^ 31) : Cq l D B mX12_newLine [vr (some (b + 0)), vi (nI m)] (pt b 26 r G) L N (some (vi (nI nl))) (pt b 26 (upd2 (upd2 r 4 nl (nI m)) 0 7 (nI (nl + 1))) G) L := by
  refine Ct.of (M := mX12_newLine) (by decide) (Nat.le_of_ble_eq_true rfl) (fun g (hR : Cr l D B RX12 cX12_newLine 2 "newLine" { frames := 0, cells := 0, slots := 0, locals := 0 } (some .int) 0 0 _ g) => ?_)
  have hC := hR.cx
  show g 0 [some (vr (some (b + 0))), some (vi (nI m))] [] _ _ N 0 0
  refine G_iload_n 0 hC rfl dX12_newLine_0 ?_
  refine G_bipush 1 hC (nI 13) (by decide) dX12_newLine_1 ?_
  refine G_icmp_ne 3 8 hC dX12_newLine_3 (by decide) (fun h3 => ?_) (fun h3 => ?_)
  · refine G_aload_n 8 hC rfl dX12_newLine_8 ?_
    refine M_getR 9 hC hF fl_X12_19_11 rfl rfl dX12_newLine_9 ?_
    refine G_aload_n 12 hC rfl dX12_newLine_12 ?_
    refine M_getI 13 hC hF fl_X12_111_11 rfl dX12_newLine_13 ?_
    refine G_iload_n 16 hC rfl dX12_newLine_16 ?_
    refine M_iast 17 hC hF rfl (by decide) (by first | rfl | exact h) (by omega) dX12_newLine_17 ?_
    refine G_aload_n 18 hC rfl dX12_newLine_18 ?_
    refine G_dup 19 hC rfl dX12_newLine_19 ?_
    refine M_getI 20 hC hF fl_X12_111_11 rfl dX12_newLine_20 ?_
    refine G_iconst 23 hC (nI 1) (by decide) dX12_newLine_23 ?_
    refine G_iadd 24 hC dX12_newLine_24 ?_
    refine M_putI 25 hC hF (fp_X12_111_11 _) rfl dX12_newLine_25 ?_
    refine G_aload_n 28 hC rfl dX12_newLine_28 ?_
    refine M_getI 29 hC hF fl_X12_111_11 rfl dX12_newLine_29 ?_
    refine G_iconst 32 hC (nI 1) (by decide) dX12_newLine_32 ?_
    refine G_isub 33 hC dX12_newLine_33 ?_
    refine R_i 34 hR (by first | rfl | exact narrow_bI _) dX12_newLine_34 (Nat.le_refl _) (Nat.le_refl _) ?_
    have h7 : upd2 r 4 nl (nI m) 0 7 = nI nl := h
    exact ⟨by show some (vi (upd2 (upd2 r 4 nl (nI m)) 0 7 _ 0 7 - nI 1)) = _; rw [upd2_row, up_s, h7, nI_add, pk_sub (by omega)]; rfl, by rw [h7, nI_add], rfl, rfl⟩
  · exact absurd (nI_eq_of h3 (by omega) (by omega)) hm
theorem ref_isLine (hF : FixR b N) {g0 sz : Nat} {x : Int32} (hg : g0 < 6) (h : r 2 g0 = nI sz) (hn : sz ≤ 20) : Cq l D B mX12_isLine [vr (some (b + 0)), vi (nI g0), vi x] (pt b 26 r G) L N (some (vi (bI (inR x sz)))) (pt b 26 r G) L := by
  refine Ct.of (M := mX12_isLine) (by decide) (Nat.le_of_ble_eq_true rfl) (fun g (hR : Cr l D B RX12 cX12_isLine 3 "isLine" { frames := 1, cells := 0, slots := 0, locals := 22 } (some .boolean) 0 0 _ g) => ?_)
  have hC := hR.cx
  show g 0 [some (vr (some (b + 0))), some (vi (nI g0)), some (vi x)] [] _ _ N 0 0
  refine G_iload_n 0 hC rfl dX12_isLine_0 ?_
  refine G_iconst 1 hC (nI 0) (by decide) dX12_isLine_1 ?_
  refine G_aload_n 2 hC rfl dX12_isLine_2 ?_
  refine M_getR 3 hC hF fl_X12_13_11 rfl rfl dX12_isLine_3 ?_
  refine G_iload_n 6 hC rfl dX12_isLine_6 ?_
  refine M_iald 7 hC hF rfl (by decide) rfl (by omega) dX12_isLine_7 ?_
  refine G_iconst 8 hC (nI 1) (by decide) dX12_isLine_8 ?_
  refine G_isub 9 hC dX12_isLine_9 ?_
  refine G_callS1 10 hC (ref_in) okX12_in lk_X12_107 rfl rfl rfl (by decide) (by decide) (by decide) dX12_isLine_10 ?_
  refine R_i 13 hR (by first | rfl | exact narrow_bI _) dX12_isLine_13 (Nat.le_refl _) (Nat.le_refl _) ?_
  exact ⟨by rw [h]; rw [bI_iff (in_inR (by omega))], rfl, rfl, rfl⟩
theorem ref_mayNeed (hF : FixR b N) {x y : Int32} : Cq l D B mX12_mayNeed [vr (some (b + 0)), vi x, vi y] (pt b 26 r G) L N (some (vi (bI ((nI 0 ≤ x ∧ x ≤ r 0 2) ∧ nI 1 ≤ y ∧ y ≤ nI 1000)))) (pt b 26 r G) L := by
  refine Ct.of (M := mX12_mayNeed) (by decide) (Nat.le_of_ble_eq_true rfl) (fun g (hR : Cr l D B RX12 cX12_mayNeed 3 "mayNeed" { frames := 1, cells := 0, slots := 0, locals := 22 } (some .boolean) 0 0 _ g) => ?_)
  have hC := hR.cx
  show g 0 [some (vr (some (b + 0))), some (vi x), some (vi y)] [] _ _ N 0 0
  refine G_iload_n 0 hC rfl dX12_mayNeed_0 ?_
  refine G_iconst 1 hC (nI 0) (by decide) dX12_mayNeed_1 ?_
  refine G_aload_n 2 hC rfl dX12_mayNeed_2 ?_
  refine M_getI 3 hC hF fl_X12_90_11 rfl dX12_mayNeed_3 ?_
  refine G_callS1 6 hC (ref_in) okX12_in lk_X12_107 rfl rfl rfl (by decide) (by decide) (by decide) dX12_mayNeed_6 ?_
  first | refine G_if_eq_b 9 27 hC dX12_mayNeed_9 (by decide) (fun h9 => ?_) (fun h9 => ?_) | refine G_if_eq 9 27 hC dX12_mayNeed_9 (by decide) (fun h9 => ?_) (fun h9 => ?_)
  · refine G_iconst 27 hC (nI 0) (by decide) dX12_mayNeed_27 ?_
    refine R_i 28 hR (by first | rfl | exact narrow_bI _) dX12_mayNeed_28 (Nat.le_refl _) (Nat.le_refl _) ?_
    refine ⟨?_, rfl, rfl, rfl⟩
    clear hR hC
    first | (refine congrArg (fun z => some (vi z)) (bI_t ?_); grind) | (refine congrArg (fun z => some (vi z)) (bI_f ?_); grind)
  · refine G_iload_n 12 hC rfl dX12_mayNeed_12 ?_
    refine G_iconst 13 hC (nI 1) (by decide) dX12_mayNeed_13 ?_
    refine G_sipush 14 hC (nI 1000) (by decide) dX12_mayNeed_14 ?_
    refine G_callS1 17 hC (ref_in) okX12_in lk_X12_107 rfl rfl rfl (by decide) (by decide) (by decide) dX12_mayNeed_17 ?_
    first | refine G_if_eq_b 20 27 hC dX12_mayNeed_20 (by decide) (fun h20 => ?_) (fun h20 => ?_) | refine G_if_eq 20 27 hC dX12_mayNeed_20 (by decide) (fun h20 => ?_) (fun h20 => ?_)
    · refine G_iconst 27 hC (nI 0) (by decide) dX12_mayNeed_27 ?_
      refine R_i 28 hR (by first | rfl | exact narrow_bI _) dX12_mayNeed_28 (Nat.le_refl _) (Nat.le_refl _) ?_
      refine ⟨?_, rfl, rfl, rfl⟩
      clear hR hC
      first | (refine congrArg (fun z => some (vi z)) (bI_t ?_); grind) | (refine congrArg (fun z => some (vi z)) (bI_f ?_); grind)
    · refine G_iconst 23 hC (nI 1) (by decide) dX12_mayNeed_23 ?_
      refine G_goto 24 28 hC dX12_mayNeed_24 (by decide) ?_
      refine R_i 28 hR (by first | rfl | exact narrow_bI _) dX12_mayNeed_28 (Nat.le_refl _) (Nat.le_refl _) ?_
      refine ⟨?_, rfl, rfl, rfl⟩
      clear hR hC
      first | (refine congrArg (fun z => some (vi z)) (bI_t ?_); grind) | (refine congrArg (fun z => some (vi z)) (bI_f ?_); grind)
theorem ref_failed (hF : FixR b N) {t : Nat} {v : Int32} (ht : t < 20) : Cq l D B mX12_failed [vr (some (b + 0)), vi (nI t), vi v] (pt b 26 r G) L N (some (vi (nI 3))) (pt b 26 (upd2 r 20 (12 * t + 1) v) G) L := by
  refine Ct.of (M := mX12_failed) (by decide) (Nat.le_of_ble_eq_true rfl) (fun g (hR : Cr l D B RX12 cX12_failed 3 "failed" { frames := 1, cells := 0, slots := 0, locals := 23 } (some .int) 0 0 _ g) => ?_)
  have hC := hR.cx
  show g 0 [some (vr (some (b + 0))), some (vi (nI t)), some (vi v)] [] _ _ N 0 0
  refine G_aload_n 0 hC rfl dX12_failed_0 ?_
  refine G_iload_n 1 hC rfl dX12_failed_1 ?_
  refine G_iconst 2 hC (nI 1) (by decide) dX12_failed_2 ?_
  refine G_iload_n 3 hC rfl dX12_failed_3 ?_
  refine G_callV0 4 hC (ref_set hF (by omega) (by omega)) okX12_set lk_X12_154 ((hF.sh (o := 0) rfl (by decide)).1) rfl rfl rfl rfl (by decide) (by decide) (by decide) dX12_failed_4 ?_
  refine G_iconst 7 hC (nI 3) (by decide) dX12_failed_7 ?_
  refine R_i 8 hR (by first | rfl | exact narrow_bI _) dX12_failed_8 (Nat.le_refl _) (Nat.le_refl _) ?_
  exact ⟨rfl, rfl, rfl, rfl⟩
theorem ref_worth {v : Int64} : Cq l D B mX12_worth [vl v] I L N (some (vl (F_worth v))) I L := by
  refine Ct.of (M := mX12_worth) (by decide) (Nat.le_of_ble_eq_true rfl) (fun g (hR : Cr l D B RX12 cX12_worth 2 "worth" { frames := 0, cells := 0, slots := 0, locals := 0 } (some .long) 0 0 _ g) => ?_)
  have hC := hR.cx
  show g 0 [some (vl v), none] [] _ _ N 0 0
  refine G_lload_n 0 hC rfl dX12_worth_0 ?_
  refine G_lconst 1 hC 0 (by decide) dX12_worth_1 ?_
  refine G_lcmp 2 hC dX12_worth_2 ?_
  refine G_if_gt 3 10 hC dX12_worth_3 (by decide) (fun h3 => ?_) (fun h3 => ?_)
  · refine G_lload_n 10 hC rfl dX12_worth_10 ?_
    refine G_ldc2 11 hC kc_X12_158 dX12_worth_11 ?_
    refine G_lcmp 14 hC dX12_worth_14 ?_
    refine G_if_le 15 24 hC dX12_worth_15 (by decide) (fun h15 => ?_) (fun h15 => ?_)
    · refine G_lload_n 24 hC rfl dX12_worth_24 ?_
      refine R_l 25 hR dX12_worth_25 (Nat.le_refl _) (Nat.le_refl _) ?_
      refine ⟨?_, rfl, rfl, rfl⟩
      clear hR hC
      unfold F_worth
      simp only [lg_cmp_gt, lg_cmp_le] at *
      grind
    · refine G_ldc2 18 hC kc_X12_158 dX12_worth_18 ?_
      refine G_goto 21 25 hC dX12_worth_21 (by decide) ?_
      refine R_l 25 hR dX12_worth_25 (Nat.le_refl _) (Nat.le_refl _) ?_
      refine ⟨?_, rfl, rfl, rfl⟩
      clear hR hC
      unfold F_worth
      simp only [lg_cmp_gt, lg_cmp_le] at *
      grind
  · refine G_lconst 6 hC 0 (by decide) dX12_worth_6 ?_
    refine G_goto 7 25 hC dX12_worth_7 (by decide) ?_
    refine R_l 25 hR dX12_worth_25 (Nat.le_refl _) (Nat.le_refl _) ?_
    refine ⟨?_, rfl, rfl, rfl⟩
    clear hR hC
    unfold F_worth
    simp only [lg_cmp_gt, lg_cmp_le] at *
    grind
theorem ref_asKind {k : Nat} {v : Int64} (hk : k ≤ 5) : Cq l D B mX12_asKind [vi (nI k), vl v] I L N (some (vl (F_ak k v))) I L := by
  refine Ct.of (M := mX12_asKind) (by decide) (Nat.le_of_ble_eq_true rfl) (fun g (hR : Cr l D B RX12 cX12_asKind 3 "asKind" { frames := 0, cells := 0, slots := 0, locals := 0 } (some .long) 0 0 _ g) => ?_)
  have hC := hR.cx
  show g 0 [some (vi (nI k)), some (vl v), none] [] _ _ N 0 0
  refine G_iload_n 0 hC rfl dX12_asKind_0 ?_
  rcases (show k = 0 ∨ k = 1 ∨ k = 2 ∨ k = 3 ∨ k = 4 ∨ k = 5 by omega) with rfl | rfl | rfl | rfl | rfl | rfl
  · refine G_tableIn 1 35 36 hC dX12_asKind_1 (by decide) (by decide) rfl (by decide) ?_
    refine G_lload_n 36 hC rfl dX12_asKind_36 ?_
    refine G_l2i 37 hC dX12_asKind_37 ?_
    refine G_i2b 38 hC dX12_asKind_38 ?_
    refine G_i2l 39 hC dX12_asKind_39 ?_
    refine R_l 40 hR dX12_asKind_40 (Nat.le_refl _) (Nat.le_refl _) ?_
    exact ⟨rfl, rfl, rfl, rfl⟩
  · refine G_tableIn 1 40 41 hC dX12_asKind_1 (by decide) (by decide) rfl (by decide) ?_
    refine G_lload_n 41 hC rfl dX12_asKind_41 ?_
    refine G_l2i 42 hC dX12_asKind_42 ?_
    refine G_i2s 43 hC dX12_asKind_43 ?_
    refine G_i2l 44 hC dX12_asKind_44 ?_
    refine R_l 45 hR dX12_asKind_45 (Nat.le_refl _) (Nat.le_refl _) ?_
    exact ⟨rfl, rfl, rfl, rfl⟩
  · refine G_tableIn 1 45 46 hC dX12_asKind_1 (by decide) (by decide) rfl (by decide) ?_
    refine G_lload_n 46 hC rfl dX12_asKind_46 ?_
    refine G_l2i 47 hC dX12_asKind_47 ?_
    refine G_i2l 48 hC dX12_asKind_48 ?_
    refine R_l 49 hR dX12_asKind_49 (Nat.le_refl _) (Nat.le_refl _) ?_
    exact ⟨rfl, rfl, rfl, rfl⟩
  · refine G_tableIn 1 49 50 hC dX12_asKind_1 (by decide) (by decide) rfl (by decide) ?_
    refine G_lload_n 50 hC rfl dX12_asKind_50 ?_
    refine R_l 51 hR dX12_asKind_51 (Nat.le_refl _) (Nat.le_refl _) ?_
    exact ⟨rfl, rfl, rfl, rfl⟩
  · refine G_tableIn 1 51 52 hC dX12_asKind_1 (by decide) (by decide) rfl (by decide) ?_
    refine G_ldcf 52 hC kc_X12_130 dX12_asKind_52 ?_
    refine G_lload_n 54 hC rfl dX12_asKind_54 ?_
    refine G_l2f 55 hC dX12_asKind_55 ?_
    refine G_ldcf 56 hC kc_X12_130 dX12_asKind_56 ?_
    refine G_fdiv 58 hC (fp_n32 (fp_fdiv v)) dX12_asKind_58 ?_
    refine G_fmul 59 hC (fp_n32 (fp_fmul v)) dX12_asKind_59 ?_
    refine G_f2l 60 hC dX12_asKind_60 ?_
    refine R_l 61 hR dX12_asKind_61 (Nat.le_refl _) (Nat.le_refl _) ?_
    exact ⟨rfl, rfl, rfl, rfl⟩
  · refine G_tableOut 1 62 hC dX12_asKind_1 (by decide) (by decide) ?_
    refine G_ldc2d 62 hC kc_X12_131 dX12_asKind_62 ?_
    refine G_lload_n 65 hC rfl dX12_asKind_65 ?_
    refine G_l2d 66 hC dX12_asKind_66 ?_
    refine G_ldc2d 67 hC kc_X12_131 dX12_asKind_67 ?_
    refine G_ddiv 70 hC (fp_n64 (fp_ddiv v)) dX12_asKind_70 ?_
    refine G_dmul 71 hC (fp_n64 (fp_dmul v)) dX12_asKind_71 ?_
    refine G_d2l 72 hC dX12_asKind_72 ?_
    refine R_l 73 hR dX12_asKind_73 (Nat.le_refl _) (Nat.le_refl _) ?_
    exact ⟨rfl, rfl, rfl, rfl⟩
theorem ref_against (hF : FixR b N) {g0 sz : Nat} {i k : Int32} (hg : g0 < 6) (h2 : r 2 g0 = nI sz) (hz : sz ≤ 12) (hpl : PlOk r g0 sz) : Cq l D B mX12_against [vr (some (b + 0)), vi (nI g0), vi i, vi k] (pt b 26 r G) L N (some (vi (F_ag r g0 i k))) (pt b 26 r G) L := by
  refine Ct.of (M := mX12_against) (by decide) (Nat.le_of_ble_eq_true rfl) (fun g (hR : Cr l D B RX12 cX12_against 5 "against" { frames := 2, cells := 0, slots := 0, locals := 44 } (some .int) 0 0 _ g) => ?_)
  have hC := hR.cx
  show g 0 [some (vr (some (b + 0))), some (vi (nI g0)), some (vi i), some (vi k), none] [] _ _ N 0 0
  refine G_aload_n 0 hC rfl dX12_against_0 ?_
  refine G_iload_n 1 hC rfl dX12_against_1 ?_
  refine G_iload_n 2 hC rfl dX12_against_2 ?_
  refine G_callV1 3 hC (ref_isLine hF hg h2 (by omega)) okX12_isLine lk_X12_126 ((hF.sh (o := 0) rfl (by decide)).1) rfl rfl rfl rfl (by decide) (by decide) (by decide) dX12_against_3 ?_
  first | refine G_if_ne_b 6 11 hC dX12_against_6 (by decide) (fun h6 => ?_) (fun h6 => ?_) | refine G_if_ne 6 11 hC dX12_against_6 (by decide) (fun h6 => ?_) (fun h6 => ?_)
  · obtain ⟨i1, hi1, rfl⟩ := inR_of h6 (by omega)
    refine G_aload_n 11 hC rfl dX12_against_11 ?_
    refine M_getR 12 hC hF fl_X12_16_11 rfl rfl dX12_against_12 ?_
    refine G_bipush 15 hC (nI 20) (by decide) dX12_against_15 ?_
    refine G_iload_n 17 hC rfl dX12_against_17 ?_
    refine G_imulN 18 hC dX12_against_18 ?_
    refine G_iload_n 19 hC rfl dX12_against_19 ?_
    refine G_iaddN 20 hC dX12_against_20 ?_
    refine M_iald 21 hC hF rfl (by decide) (by first | rfl | exact hp) (by omega) dX12_against_21 ?_
    refine G_istore 22 hC (by decide) (ls' := [_, _, _, _, _]) rfl dX12_against_22 ?_
    refine G_iload 24 hC rfl dX12_against_24 ?_
    refine G_if_ge 26 33 hC dX12_against_26 (by decide) (fun h26 => ?_) (fun h26 => ?_)
    · rcases hpl i1 hi1 with hp | ⟨p, hp0, hp, q, hq0, hq⟩
      · exact absurd h26 (by rw [hp]; decide)
      refine G_iload_n 33 hC rfl dX12_against_33 ?_
      refine G_iconst 34 hC (nI 0) (by decide) dX12_against_34 ?_
      refine G_aload_n 35 hC rfl dX12_against_35 ?_
      refine M_getR 36 hC hF fl_X12_19_11 rfl rfl dX12_against_36 ?_
      refine G_iload 39 hC rfl dX12_against_39 ?_
      refine M_iald 41 hC hF rfl (by decide) (by first | rfl | exact hp) (by omega) dX12_against_41 ?_
      refine G_iconst 42 hC (nI 1) (by decide) dX12_against_42 ?_
      refine G_isub 43 hC dX12_against_43 ?_
      refine G_callS1 44 hC (ref_in) okX12_in lk_X12_107 rfl rfl rfl (by decide) (by decide) (by decide) dX12_against_44 ?_
      first | refine G_if_eq_b 47 54 hC dX12_against_47 (by decide) (fun h47 => ?_) (fun h47 => ?_) | refine G_if_eq 47 54 hC dX12_against_47 (by decide) (fun h47 => ?_) (fun h47 => ?_)
      · refine G_iconst 54 hC (nI 2) (by decide) dX12_against_54 ?_
        refine R_i 55 hR (by first | rfl | exact narrow_bI _) dX12_against_55 (Nat.le_refl _) (Nat.le_refl _) ?_
        refine ⟨?_, rfl, rfl, rfl⟩
        first | (rw [F_ag_out h2 hz h6]; done) | (rw [F_ag_mi h2 hz hi1 hp]; done) | (rw [F_ag_ln h2 hz hi1 hp0 hp hq0 hq, if_pos ((in_inR (by omega)).mp (hq ▸ h47))]; done) | (rw [F_ag_ln h2 hz hi1 hp0 hp hq0 hq, if_neg (fun z => h47 (hq.symm ▸ (in_inR (by omega)).mpr z))]; done)
      · refine G_iconst 50 hC (nI 0) (by decide) dX12_against_50 ?_
        refine G_goto 51 55 hC dX12_against_51 (by decide) ?_
        refine R_i 55 hR (by first | rfl | exact narrow_bI _) dX12_against_55 (Nat.le_refl _) (Nat.le_refl _) ?_
        refine ⟨?_, rfl, rfl, rfl⟩
        first | (rw [F_ag_out h2 hz h6]; done) | (rw [F_ag_mi h2 hz hi1 hp]; done) | (rw [F_ag_ln h2 hz hi1 hp0 hp hq0 hq, if_pos ((in_inR (by omega)).mp (hq ▸ h47))]; done) | (rw [F_ag_ln h2 hz hi1 hp0 hp hq0 hq, if_neg (fun z => h47 (hq.symm ▸ (in_inR (by omega)).mpr z))]; done)
    · rcases hpl i1 hi1 with hp | ⟨p, hp0, hp, q, hq0, hq⟩
      rotate_left
      · exact absurd (by rw [hp]; exact nI_pos' (by omega)) h26
      refine G_iconst 29 hC (nI 1) (by decide) dX12_against_29 ?_
      refine G_goto 30 55 hC dX12_against_30 (by decide) ?_
      refine R_i 55 hR (by first | rfl | exact narrow_bI _) dX12_against_55 (Nat.le_refl _) (Nat.le_refl _) ?_
      refine ⟨?_, rfl, rfl, rfl⟩
      first | (rw [F_ag_out h2 hz h6]; done) | (rw [F_ag_mi h2 hz hi1 hp]; done) | (rw [F_ag_ln h2 hz hi1 hp0 hp hq0 hq, if_pos ((in_inR (by omega)).mp (hq ▸ h47))]; done) | (rw [F_ag_ln h2 hz hi1 hp0 hp hq0 hq, if_neg (fun z => h47 (hq.symm ▸ (in_inR (by omega)).mpr z))]; done)
  · refine G_iconst 9 hC (nI 2) (by decide) dX12_against_9 ?_
    refine R_i 10 hR (by first | rfl | exact narrow_bI _) dX12_against_10 (Nat.le_refl _) (Nat.le_refl _) ?_
    refine ⟨?_, rfl, rfl, rfl⟩
    first | (rw [F_ag_out h2 hz h6]; done) | (rw [F_ag_mi h2 hz hi1 hp]; done) | (rw [F_ag_ln h2 hz hi1 hp0 hp hq0 hq, if_pos ((in_inR (by omega)).mp (hq ▸ h47))]; done) | (rw [F_ag_ln h2 hz hi1 hp0 hp hq0 hq, if_neg (fun z => h47 (hq.symm ▸ (in_inR (by omega)).mpr z))]; done)
theorem ref_lineFault (hF : FixR b N) {s0 g0 sz : Nat} {i : Int32} (hs : s0 < 8) (hsg : r 15 s0 = nI g0) (hg : g0 < 6) (h2 : r 2 g0 = nI sz) (hz : sz ≤ 12) (hpl : PlOk r g0 sz) : Cq l D B mX12_lineFault [vr (some (b + 0)), vi (nI s0), vi i] (pt b 26 r G) L N (some (vi (F_lf r s0 g0 i))) (pt b 26 r G) L := by
  refine Ct.of (M := mX12_lineFault) (by decide) (Nat.le_of_ble_eq_true rfl) (fun g (hR : Cr l D B RX12 cX12_lineFault 4 "lineFault" { frames := 2, cells := 0, slots := 0, locals := 44 } (some .int) 0 0 _ g) => ?_)
  have hC := hR.cx
  show g 0 [some (vr (some (b + 0))), some (vi (nI s0)), some (vi i), none] [] _ _ N 0 0
  refine G_aload_n 0 hC rfl dX12_lineFault_0 ?_
  refine M_getR 1 hC hF fl_X12_53_11 rfl rfl dX12_lineFault_1 ?_
  refine G_iload_n 4 hC rfl dX12_lineFault_4 ?_
  refine M_iald 5 hC hF rfl (by decide) rfl (by omega) dX12_lineFault_5 ?_
  refine G_istore_n 6 hC 3 rfl (by decide) (ls' := [_, _, _, _]) rfl dX12_lineFault_6 ?_
  rw [hsg]
  refine G_aload_n 7 hC rfl dX12_lineFault_7 ?_
  refine M_getR 8 hC hF fl_X12_7_11 rfl rfl dX12_lineFault_8 ?_
  refine G_iload_n 11 hC rfl dX12_lineFault_11 ?_
  refine M_iald 12 hC hF rfl (by decide) rfl (by omega) dX12_lineFault_12 ?_
  refine G_aload_n 13 hC rfl dX12_lineFault_13 ?_
  refine M_getR 14 hC hF fl_X12_56_11 rfl rfl dX12_lineFault_14 ?_
  refine G_iload_n 17 hC rfl dX12_lineFault_17 ?_
  refine M_iald 18 hC hF rfl (by decide) rfl (by omega) dX12_lineFault_18 ?_
  refine G_icmp_eq 19 26 hC dX12_lineFault_19 (by decide) (fun h19 => ?_) (fun h19 => ?_)
  · refine G_aload_n 26 hC rfl dX12_lineFault_26 ?_
    refine G_iload_n 27 hC rfl dX12_lineFault_27 ?_
    refine G_iload_n 28 hC rfl dX12_lineFault_28 ?_
    refine G_callV1 29 hC (ref_isLine hF (g0 := g0) hg h2 (by omega)) okX12_isLine lk_X12_126 ((hF.sh (o := 0) rfl (by decide)).1) rfl rfl rfl rfl (by decide) (by decide) (by decide) dX12_lineFault_29 ?_
    first | refine G_if_ne_b 32 39 hC dX12_lineFault_32 (by decide) (fun h32 => ?_) (fun h32 => ?_) | refine G_if_ne 32 39 hC dX12_lineFault_32 (by decide) (fun h32 => ?_) (fun h32 => ?_)
    · obtain ⟨i1, hi1, rfl⟩ := inR_of h32 (by omega)
      refine G_aload_n 39 hC rfl dX12_lineFault_39 ?_
      refine M_getR 40 hC hF fl_X12_16_11 rfl rfl dX12_lineFault_40 ?_
      refine G_bipush 43 hC (nI 20) (by decide) dX12_lineFault_43 ?_
      refine G_iload_n 45 hC rfl dX12_lineFault_45 ?_
      refine G_imulN 46 hC dX12_lineFault_46 ?_
      refine G_iload_n 47 hC rfl dX12_lineFault_47 ?_
      refine G_iaddN 48 hC dX12_lineFault_48 ?_
      refine M_iald 49 hC hF rfl (by decide) rfl (by omega) dX12_lineFault_49 ?_
      refine G_if_ge 50 57 hC dX12_lineFault_50 (by decide) (fun h50 => ?_) (fun h50 => ?_)
      · refine G_iconst 57 hC (nI 0) (by decide) dX12_lineFault_57 ?_
        refine R_i 58 hR (by first | rfl | exact narrow_bI _) dX12_lineFault_58 (Nat.le_refl _) (Nat.le_refl _) ?_
        refine ⟨?_, rfl, rfl, rfl⟩
        unfold F_lf
        first | (rw [if_pos h19]; done) | (rw [if_neg (by simpa using h19), h2, nI_clamp (by omega), if_pos h32]; done) | (rw [if_neg (by simpa using h19), h2, nI_clamp (by omega), if_neg (by simpa using h32), nI_clamp (by omega)]; first | (rw [if_neg (by simpa using h50)]; done) | (rw [if_pos (by simpa using h50)]; done))
      · refine G_iconst 53 hC (nI 1) (by decide) dX12_lineFault_53 ?_
        refine G_goto 54 58 hC dX12_lineFault_54 (by decide) ?_
        refine R_i 58 hR (by first | rfl | exact narrow_bI _) dX12_lineFault_58 (Nat.le_refl _) (Nat.le_refl _) ?_
        refine ⟨?_, rfl, rfl, rfl⟩
        unfold F_lf
        first | (rw [if_pos h19]; done) | (rw [if_neg (by simpa using h19), h2, nI_clamp (by omega), if_pos h32]; done) | (rw [if_neg (by simpa using h19), h2, nI_clamp (by omega), if_neg (by simpa using h32), nI_clamp (by omega)]; first | (rw [if_neg (by simpa using h50)]; done) | (rw [if_pos (by simpa using h50)]; done))
    · refine G_iconst 35 hC (nI 2) (by decide) dX12_lineFault_35 ?_
      refine G_goto 36 58 hC dX12_lineFault_36 (by decide) ?_
      refine R_i 58 hR (by first | rfl | exact narrow_bI _) dX12_lineFault_58 (Nat.le_refl _) (Nat.le_refl _) ?_
      refine ⟨?_, rfl, rfl, rfl⟩
      unfold F_lf
      first | (rw [if_pos h19]; done) | (rw [if_neg (by simpa using h19), h2, nI_clamp (by omega), if_pos h32]; done) | (rw [if_neg (by simpa using h19), h2, nI_clamp (by omega), if_neg (by simpa using h32), nI_clamp (by omega)]; first | (rw [if_neg (by simpa using h50)]; done) | (rw [if_pos (by simpa using h50)]; done))
  · refine G_iconst 22 hC (nI 3) (by decide) dX12_lineFault_22 ?_
    refine G_goto 23 58 hC dX12_lineFault_23 (by decide) ?_
    refine R_i 58 hR (by first | rfl | exact narrow_bI _) dX12_lineFault_58 (Nat.le_refl _) (Nat.le_refl _) ?_
    refine ⟨?_, rfl, rfl, rfl⟩
    unfold F_lf
    first | (rw [if_pos h19]; done) | (rw [if_neg (by simpa using h19), h2, nI_clamp (by omega), if_pos h32]; done) | (rw [if_neg (by simpa using h19), h2, nI_clamp (by omega), if_neg (by simpa using h32), nI_clamp (by omega)]; first | (rw [if_neg (by simpa using h50)]; done) | (rw [if_pos (by simpa using h50)]; done))
end M2

/-! ===== the law's body ===== -/
theorem neg8 : ∀ a, a < 8 → (nI a - nI 8).toInt < 0 := by decide
section LAW2
variable {mn : String} {l : Launch} {D : va_G} {B X b len i kc ks : Nat} {g : GT} {N N' : NT} {I : MI} {L : ML}
theorem c_cell {j : Nat} (hs : N.2.1 b = (20, len)) (hln : len < 2 ^ 31) (hj : j < 2 ^ 31) : Cq l D B mL_cell [vr (some b), vi (nI j)] I L N (some (vi (if j < len then I b j else nI 0))) I L := by
  refine Ct.of (M := mL_cell) (by decide) (Nat.le_of_ble_eq_true rfl) (fun g (hR : Cr l D B RL cL_cell 2 "cell" { frames := 0, cells := 0, slots := 0, locals := 0 } (some .int) 0 0 _ g) => ?_)
  have hC := hR.cx
  show g 0 [some (vr (some b)), some (vi (nI j))] [] _ _ N 0 0
  refine G_iload_n 0 hC rfl dL_cell_0 ?_
  refine G_aload_n 1 hC rfl dL_cell_1 ?_
  refine G_alen 2 hC hs (by omega) (by omega) dL_cell_2 ?_
  refine G_icmp_ge 3 12 hC dL_cell_3 (by decide) (fun h3 => ?_) (fun h3 => ?_)
  · refine G_iconst 12 hC (nI 0) (by decide) dL_cell_12 ?_
    refine R_i 13 hR (by first | rfl | exact narrow_bI _) dL_cell_13 (Nat.le_refl _) (Nat.le_refl _) ?_
    have := (nI_leI hln hj).mp h3
    exact ⟨by rw [if_neg (by omega)], rfl, rfl, rfl⟩
  · have h4 : j < len := by
      rcases Nat.lt_or_ge j len with y | y
      · exact y
      · exact absurd ((nI_leI hln hj).mpr y) h3
    refine G_aload_n 6 hC rfl dL_cell_6 ?_
    refine G_iload_n 7 hC rfl dL_cell_7 ?_
    refine G_iald 8 hC hs (Or.inr rfl) rfl h4 hln dL_cell_8 ?_
    refine G_goto 9 13 hC dL_cell_9 (by decide) ?_
    refine R_i 13 hR (by first | rfl | exact narrow_bI _) dL_cell_13 (Nat.le_refl _) (Nat.le_refl _) ?_
    exact ⟨by rw [if_pos h4], rfl, rfl, rfl⟩
theorem GInv.mono (h : GInv X i N I L) : GInv X (i + 1) N I L := by
  obtain ⟨ng, nt, ns, mem, nth, sc, nl, r, rl, n, q, S, k, kl, LA, hV⟩ := h
  exact ⟨ng, nt, ns, mem, nth, sc, nl, r, rl, n, q, S, k, kl, LA, hV.mono⟩
theorem FixA.keep (h : FixA X N) (hk : ∀ a, X ≤ a → a < X + 111 → N'.2.1 a = N.2.1 a ∧ N'.1 a = N.1 a) : FixA X N' := by
  obtain ⟨⟨a1, a2, a3, a4, a5⟩, b1, c1, c2, c3⟩ := h
  obtain ⟨k1, k2⟩ := hk X (by omega) (by omega)
  exact ⟨⟨k1.trans a1, by rw [k2]; exact a2, by rw [k2]; exact a3, by rw [k2]; exact a4, by rw [k2]; exact a5⟩, b1.keep (fun a x y => hk a (by omega) (by omega)), c1.keep (fun a x y => hk a (by omega) (by omega)), c2.keep (fun a x y => hk a (by omega) (by omega)), c3.keep (fun a x y => hk a (by omega) (by omega))⟩
theorem law_loop (hC : Cx l D B RL cL_law 4 mn RR g) (hb : b < X) (hln : len ≤ 4098) (hend : ∀ ls I L N kc ks, kc ≤ 600000 → ks ≤ 7302250 → g 1115 ls [vi (nI 1)] I L N kc ks) : ∀ (f i : Nat) (I : MI) (L : ML) (N : NT) (kc ks : Nat), len - 8 * i < f → i ≤ 520 → GInv X i N I L → N.2.1 b = (20, len) → kc ≤ 137 + 26 * i → ks ≤ 11254 + 182 * i → g 38 [some (vr (some b)), some (vr (some X)), some (vr (some (X + 111 + 0))), some (vi (nI (2 + 8 * i)))] [] I L N kc ks := by
  intro f
  induction f with
  | zero => intro i I L N kc ks h; omega
  | succ f ih =>
    intro i I L N kc ks hf hi hG hs hk hks
    refine G_iload_n 38 hC rfl dL_law_38 ?_
    refine G_aload_n 39 hC rfl dL_law_39 ?_
    refine G_alen 40 hC hs (by omega) (by omega) dL_law_40 ?_
    refine G_bipush 41 hC (nI 8) (by decide) dL_law_41 ?_
    refine G_isub 43 hC dL_law_43 ?_
    refine G_icmp_gt 44 1114 hC dL_law_44 (by decide) (fun h44 => ?_) (fun h44 => ?_)
    · refine G_iconst 1114 hC (nI 1) (by decide) dL_law_1114 ?_
      exact hend _ _ _ _ _ _ (by omega) (by omega)
    · have hl : 2 + 8 * i + 8 ≤ len := by
        rcases Nat.lt_or_ge len (2 + 8 * i + 8) with y | y
        · exfalso
          apply h44
          by_cases h8 : 8 ≤ len
          · rw [pk_sub h8]
            exact (nI_ltI (by omega) (by omega)).mpr (by omega)
          · have h9 := neg8 len (by omega)
            refine Int32.lt_iff_toInt_lt.mpr ?_
            rw [nI_toInt (n := 2 + 8 * i) (by omega)]
            omega
        · exact y
      have next : NextR g X b len i I := by
        intro I2 L2 N2 kc' ks' hG' hs' hk' hks' he
        refine G_iinc 1108 hC (nI (2 + 8 * (i + 1))) (by rw [show (Int32.ofInt 8) = nI 8 by decide, nI_add]; exact congrArg nI (by omega)) (by decide) rfl rfl dL_law_1108 ?_
        refine G_goto 1111 38 hC dL_law_1111 (by decide) ?_
        exact ih (i + 1) I2 L2 N2 kc' ks' (by omega) (by omega) hG' hs' hk' hks'
      refine G_aload_n 47 hC rfl dL_law_47 ?_
      refine G_iload_n 48 hC rfl dL_law_48 ?_
      refine G_iald 49 hC hs (Or.inr rfl) rfl (by omega) (by omega) dL_law_49 ?_
      refine G_bipush 50 hC (nI 31) (by decide) dL_law_50 ?_
      refine G_iand 52 hC dL_law_52 ?_
      generalize I b (2 + 8 * i) &&& nI 31 = x
      by_cases hx : x.toInt < 0 ∨ 22 < x.toInt
      · refine G_tableOut 53 1108 hC dL_law_53 hx (by decide) ?_
        exact next I L N kc ks hG.mono hs (by omega) (by omega) rfl
      · obtain ⟨m, hm, rfl⟩ := nine_of (c := 22) (by omega) hx
        have hln2 : len < 2 ^ 31 := by omega
        rcases (show m = 0 ∨ m = 1 ∨ m = 2 ∨ m = 3 ∨ m = 4 ∨ m = 5 ∨ m = 6 ∨ m = 7 ∨ m = 8 ∨ m = 9 ∨ m = 10 ∨ m = 11 ∨ m = 12 ∨ m = 13 ∨ m = 14 ∨ m = 15 ∨ m = 16 ∨ m = 17 ∨ m = 18 ∨ m = 19 ∨ m = 20 ∨ m = 21 ∨ m = 22 by omega) with rfl | rfl | rfl | rfl | rfl | rfl | rfl | rfl | rfl | rfl | rfl | rfl | rfl | rfl | rfl | rfl | rfl | rfl | rfl | rfl | rfl | rfl | rfl
        · exact G_tableIn 53 107 160 hC dL_law_53 (by decide) (by decide) (by decide) (by decide) (w_grid hC hG hi hs hb hl hln2 hk hks next)
        · exact G_tableIn 53 150 203 hC dL_law_53 (by decide) (by decide) (by decide) (by decide) (w_line hC hG hi hs hb hl hln2 hk hks next)
        · exact G_tableIn 53 193 246 hC dL_law_53 (by decide) (by decide) (by decide) (by decide) (w_put hC hG hi hs hb hl hln2 hk hks next)
        · exact G_tableIn 53 276 329 hC dL_law_53 (by decide) (by decide) (by decide) (by decide) (w_item hC hG hi hs hb hl hln2 hk hks next)
        · exact G_tableIn 53 330 383 hC dL_law_53 (by decide) (by decide) (by decide) (by decide) (w_lay hC hG hi hs hb hl hln2 hk hks next)
        · exact G_tableIn 53 383 436 hC dL_law_53 (by decide) (by decide) (by decide) (by decide) (w_size hC hG hi hs hb hl hln2 hk hks next)
        · exact G_tableIn 53 416 469 hC dL_law_53 (by decide) (by decide) (by decide) (by decide) (w_way hC hG hi hs hb hl hln2 hk hks next)
        · exact G_tableIn 53 539 592 hC dL_law_53 (by decide) (by decide) (by decide) (by decide) (w_reader hC hG hi hs hb hl hln2 hk hks next)
        · exact G_tableIn 53 618 671 hC dL_law_53 (by decide) (by decide) (by decide) (by decide) (w_search hC hG hi hs hb hl hln2 hk hks next)
        · exact G_tableIn 53 701 754 hC dL_law_53 (by decide) (by decide) (by decide) (by decide) (w_share hC hG hi hs hb hl hln2 hk hks next)
        · exact G_tableIn 53 764 817 hC dL_law_53 (by decide) (by decide) (by decide) (by decide) (w_turn hC hG hi hs hb hl hln2 hk hks next)
        · exact G_tableIn 53 787 840 hC dL_law_53 (by decide) (by decide) (by decide) (by decide) (w_run hC hG hi hs hb hl hln2 hk hks next)
        · exact G_tableIn 53 810 863 hC dL_law_53 (by decide) (by decide) (by decide) (by decide) (w_interrupt hC hG hi hs hb hl hln2 hk hks next)
        · exact G_tableIn 53 833 886 hC dL_law_53 (by decide) (by decide) (by decide) (by decide) (w_close hC hG hi hs hb hl hln2 hk hks next)
        · exact G_tableIn 53 846 899 hC dL_law_53 (by decide) (by decide) (by decide) (by decide) (w_anew hC hG hi hs hb hl hln2 hk hks next)
        · exact G_tableIn 53 859 912 hC dL_law_53 (by decide) (by decide) (by decide) (by decide) (w_taken hC hG hi hs hb hl hln2 hk hks next)
        · exact G_tableIn 53 872 925 hC dL_law_53 (by decide) (by decide) (by decide) (by decide) (w_answer hC hG hi hs hb hl hln2 hk hks next)
        · exact G_tableIn 53 896 949 hC dL_law_53 (by decide) (by decide) (by decide) (by decide) (w_told hC hG hi hs hb hl hln2 hk hks next)
        · exact G_tableIn 53 929 982 hC dL_law_53 (by decide) (by decide) (by decide) (by decide) (w_best hC hG hi hs hb hl hln2 hk hks next)
        · exact G_tableIn 53 963 1016 hC dL_law_53 (by decide) (by decide) (by decide) (by decide) (w_note hC hG hi hs hb hl hln2 hk hks next)
        · exact G_tableIn 53 986 1039 hC dL_law_53 (by decide) (by decide) (by decide) (by decide) (w_finished hC hG hi hs hb hl hln2 hk hks next)
        · exact G_tableIn 53 1009 1062 hC dL_law_53 (by decide) (by decide) (by decide) (by decide) (w_count hC hG hi hs hb hl hln2 hk hks next)
        · exact G_tableIn 53 1032 1085 hC dL_law_53 (by decide) (by decide) (by decide) (by decide) (w_equal hC hG hi hs hb hl hln2 hk hks next)
end LAW2

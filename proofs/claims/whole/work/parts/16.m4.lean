/-! ===== steps of the reference ===== -/
theorem i64_ne0 {x : Int32} (h : ¬ x = 0) : ¬ x.toInt64 = 0 := fun q => h (by have := congrArg Int64.toInt32 q; simpa using this)
theorem up_self {α : Type} (f : Nat → α) (k : Nat) : up f k (f k) = f := by
  funext j; by_cases h : j = k <;> simp [up, h]
noncomputable def F_goes (r : MI) (n : Nat → Int32) (q : Nat → Int64) (S : Int64) (s i : Nat) (rd : Int32) (p : Nat) : Int32 × ((Nat → Int32) × (Nat → Int64)) :=
  if r 17 s = 0 then (nI 6, (n, q)) else if q (28 + s) < S / (r 17 s).toInt64 then (-1, (n, q)) else if rd < r 4 p then (nI 0, (n, q)) else (-1, F_finds n q s i (S / (r 17 s).toInt64))
section FG
variable {r : MI} {n : Nat → Int32} {q : Nat → Int64} {S : Int64} {s i p : Nat} {rd : Int32}
theorem F_goes_0 (h : r 17 s = 0) : F_goes r n q S s i rd p = (nI 6, (n, q)) := by unfold F_goes; rw [if_pos h]
theorem F_goes_1 (h : ¬ r 17 s = 0) (h1 : q (28 + s) < S / (r 17 s).toInt64) : F_goes r n q S s i rd p = (-1, (n, q)) := by unfold F_goes; rw [if_neg h, if_pos h1]
theorem F_goes_2 (h : ¬ r 17 s = 0) (h1 : S / (r 17 s).toInt64 ≤ q (28 + s)) (h2 : ¬ r 4 p ≤ rd) : F_goes r n q S s i rd p = (nI 0, (n, q)) := by unfold F_goes; rw [if_neg h, if_neg (Int64.not_lt.mpr h1), if_pos (Int32.not_le.mp h2)]
theorem F_goes_3 (h : ¬ r 17 s = 0) (h1 : S / (r 17 s).toInt64 ≤ q (28 + s)) (h2 : r 4 p ≤ rd) : F_goes r n q S s i rd p = (-1, F_finds n q s i (S / (r 17 s).toInt64)) := by unfold F_goes; rw [if_neg h, if_neg (Int64.not_lt.mpr h1), if_neg (Int32.not_lt.mpr h2)]
end FG
def plR (p Q m : Nat) : Nat := p + min m (Q - p)
def F_plV (p Q m f : Nat) : Int32 := if p < f ∧ f ≤ plR p Q m then nI 3 else if plR p Q m = Q then nI 2 else nI 1
def F_plN (n : Nat → Int32) (t p Q m f : Nat) : Nat → Int32 := if p < f ∧ f ≤ plR p Q m then up (up n (12 * t + 4) (nI f)) (12 * t + 1) (nI 7) else up n (12 * t + 4) (nI (plR p Q m))
section M4
variable {l : Launch} {D : va_G} {B b : Nat} {N : NT} {r G : MI} {rl GL : ML} {n : Nat → Int32} {q : Nat → Int64} {S : Int64} {I : MI} {L : ML}
theorem n_goes (hF : FixR b N) {s i p g0 : Nat} {rd : Int32} (hs : s < 8) (hg : r 15 s = nI g0) (hg2 : g0 < 6) (hi : i < 20) (hp : r 3 (20 * g0 + i) = nI p) (hp2 : p < 600) : Cq l D B mX12_goes [vr (some (b + 0)), vi (nI s), vi (nI i), vi rd] (RI b r n G) (RLg b rl S q GL) N (some (vi (F_goes r n q S s i rd p).1)) (RI b r (F_goes r n q S s i rd p).2.1 G) (RLg b rl S (F_goes r n q S s i rd p).2.2 GL) := by
  refine Ct.of (M := mX12_goes) (by decide) (Nat.le_of_ble_eq_true rfl) (fun g (hR : Cr l D B RX12 cX12_goes 7 "goes" { frames := 1, cells := 0, slots := 0, locals := 25 } (some .int) 0 0 _ g) => ?_)
  have hC := hR.cx
  show g 0 [some (vr (some (b + 0))), some (vi (nI s)), some (vi (nI i)), some (vi rd), none, none, none] [] _ _ N 0 0
  refine G_aload_n 0 hC rfl dX12_goes_0 ?_
  refine M_getR 1 hC hF fl_X12_59_11 rfl rfl dX12_goes_1 ?_
  refine G_iload_n 4 hC rfl dX12_goes_4 ?_
  refine N_ialdO 5 hC hF rfl (by decide) (by decide) rfl (by omega) dX12_goes_5 ?_
  first | refine G_if_ne_b 6 12 hC dX12_goes_6 (by decide) (fun h6 => ?_) (fun h6 => ?_) | refine G_if_ne 6 12 hC dX12_goes_6 (by decide) (fun h6 => ?_) (fun h6 => ?_)
  · refine G_aload_n 12 hC rfl dX12_goes_12 ?_
    refine Q_getL 13 hC hF fl_X12_184_11 dX12_goes_13 ?_
    refine G_aload_n 16 hC rfl dX12_goes_16 ?_
    refine M_getR 17 hC hF fl_X12_59_11 rfl rfl dX12_goes_17 ?_
    refine G_iload_n 20 hC rfl dX12_goes_20 ?_
    refine N_ialdO 21 hC hF rfl (by decide) (by decide) rfl (by omega) dX12_goes_21 ?_
    refine G_i2l 22 hC dX12_goes_22 ?_
    refine G_ldiv 23 hC (i64_ne0 h6) dX12_goes_23 ?_
    refine G_lstore 24 hC (by decide) (ls' := [_, _, _, _, _, _, _]) rfl dX12_goes_24 ?_
    refine G_lload 26 hC rfl dX12_goes_26 ?_
    refine G_aload_n 28 hC rfl dX12_goes_28 ?_
    refine M_getR 29 hC hF fl_X12_74_11 rfl rfl dX12_goes_29 ?_
    refine G_bipush 32 hC (nI 28) (by decide) dX12_goes_32 ?_
    refine G_iload_n 34 hC rfl dX12_goes_34 ?_
    refine G_iaddN 35 hC dX12_goes_35 ?_
    refine Q_lald 36 hC hF rfl (by omega) dX12_goes_36 ?_
    refine G_lcmp 37 hC dX12_goes_37 ?_
    refine G_if_le 38 43 hC dX12_goes_38 (by decide) (fun h38 => ?_) (fun h38 => ?_)
    · refine G_aload_n 43 hC rfl dX12_goes_43 ?_
      refine M_getR 44 hC hF fl_X12_53_11 rfl rfl dX12_goes_44 ?_
      refine G_iload_n 47 hC rfl dX12_goes_47 ?_
      refine N_ialdO 48 hC hF rfl (by decide) (by decide) rfl (by omega) dX12_goes_48 ?_
      rw [hg]
      refine G_istore 49 hC (by decide) (ls' := [_, _, _, _, _, _, _]) rfl dX12_goes_49 ?_
      refine G_iload_n 51 hC rfl dX12_goes_51 ?_
      refine G_aload_n 52 hC rfl dX12_goes_52 ?_
      refine M_getR 53 hC hF fl_X12_19_11 rfl rfl dX12_goes_53 ?_
      refine G_aload_n 56 hC rfl dX12_goes_56 ?_
      refine M_getR 57 hC hF fl_X12_16_11 rfl rfl dX12_goes_57 ?_
      refine G_bipush 60 hC (nI 20) (by decide) dX12_goes_60 ?_
      refine G_iload 62 hC rfl dX12_goes_62 ?_
      refine G_imulN 64 hC dX12_goes_64 ?_
      refine G_iload_n 65 hC rfl dX12_goes_65 ?_
      refine G_iaddN 66 hC dX12_goes_66 ?_
      refine N_ialdO 67 hC hF rfl (by decide) (by decide) rfl (by omega) dX12_goes_67 ?_
      refine N_ialdO 68 hC hF rfl (by decide) (by decide) (hp) (by omega) dX12_goes_68 ?_
      refine G_icmp_ge 69 74 hC dX12_goes_69 (by decide) (fun h69 => ?_) (fun h69 => ?_)
      · refine G_aload_n 74 hC rfl dX12_goes_74 ?_
        refine G_iload_n 75 hC rfl dX12_goes_75 ?_
        refine G_iload_n 76 hC rfl dX12_goes_76 ?_
        refine G_lload 77 hC rfl dX12_goes_77 ?_
        refine G_callV0 79 hC (n_finds hF hs) okX12_finds lk_X12_188 ((hF.sh (o := 0) rfl (by decide)).1) rfl rfl rfl rfl (by decide) (by decide) (by decide) dX12_goes_79 ?_
        refine G_iconst 82 hC (-1) (by decide) dX12_goes_82 ?_
        refine R_i 83 hR (by first | rfl | exact narrow_bI _) dX12_goes_83 (Nat.le_refl _) (Nat.le_refl _) ?_
        have h := (lg_cmp_le _ _).mp h38
        exact ⟨by rw [F_goes_3 h6 h h69], by rw [F_goes_3 h6 h h69], by rw [F_goes_3 h6 h h69], rfl⟩
      · refine G_iconst 72 hC (nI 0) (by decide) dX12_goes_72 ?_
        refine R_i 73 hR (by first | rfl | exact narrow_bI _) dX12_goes_73 (Nat.le_refl _) (Nat.le_refl _) ?_
        have h := (lg_cmp_le _ _).mp h38
        exact ⟨by rw [F_goes_2 h6 h h69], by rw [F_goes_2 h6 h h69], by rw [F_goes_2 h6 h h69], rfl⟩
    · refine G_iconst 41 hC (-1) (by decide) dX12_goes_41 ?_
      refine R_i 42 hR (by first | rfl | exact narrow_bI _) dX12_goes_42 (Nat.le_refl _) (Nat.le_refl _) ?_
      have h := Int64.not_le.mp (fun z => h38 ((lg_cmp_le _ _).mpr z))
      exact ⟨by rw [F_goes_1 h6 h], by rw [F_goes_1 h6 h], by rw [F_goes_1 h6 h], rfl⟩
  · refine G_bipush 9 hC (nI 6) (by decide) dX12_goes_9 ?_
    refine R_i 11 hR (by first | rfl | exact narrow_bI _) dX12_goes_11 (Nat.le_refl _) (Nat.le_refl _) ?_
    exact ⟨by rw [F_goes_0 h6], by rw [F_goes_0 h6], by rw [F_goes_0 h6], rfl⟩
theorem n_plain (hF : FixR b N) {t p Q m f : Nat} (ht : t < 20) (hp : n (12 * t + 4) = nI p) (hQ : r 7 t = nI Q) (hpQ : p ≤ Q) (hQ2 : Q ≤ 100000) (hf : r 9 t = nI f) (hf2 : f < 2 ^ 31) (hm : (r 6 t = 0 → (1 : Int64) = lN m) ∧ (¬ r 6 t = 0 → (1 : Int64) <<< ((n (12 * t + 2) - nI 1).toInt64 &&& 63) = lN m)) (hm2 : m < 2 ^ 62) : Cq l D B mX12_plain [vr (some (b + 0)), vi (nI t)] (RI b r n G) L N (some (vi (F_plV p Q m f))) (RI b r (F_plN n t p Q m f) G) L := by
  refine Ct.of (M := mX12_plain) (by decide) (Nat.le_of_ble_eq_true rfl) (fun g (hR : Cr l D B RX12 cX12_plain 6 "plain" _ _ 0 0 _ g) => ?_)
  have hC := hR.cx
  have hRb : plR p Q m ≤ Q ∧ p ≤ plR p Q m ∧ plR p Q m ≤ p + m := by unfold plR; omega
  have loop : ∀ (k j : Nat), plR p Q m - (p + j) < k → p + j ≤ plR p Q m → ¬ (p < f ∧ f ≤ p + j) → g 27 [some (vr (some (b + 0))), some (vi (nI t)), some (vl (lN m)), none, some (vl (lN j)), none] [] (RI b r (up n (12 * t + 4) (nI (p + j))) G) L N 0 0 := by
    intro k
    induction k with
    | zero => intro j h; omega
    | succ k ih =>
      intro j hk hjR hno
      refine G_lload 27 hC rfl dX12_plain_27 ?_
      refine G_lload_n 29 hC rfl dX12_plain_29 ?_
      refine G_lcmp 30 hC dX12_plain_30 ?_
      refine G_if_ge 31 87 hC dX12_plain_31 (by decide) (fun h31 => ?_) (fun h31 => ?_)
      · have a87 : p + j = plR p Q m := by
          unfold plR at *
          first | (have z := (pk_lLE (by omega) (by omega)).mp ((lg_cmp_ge _ _).mp h31); omega) | (rw [hQ] at h46; have z := (nI_leI (by omega) (by omega)).mp h46; omega)
        refine G_aload_n 87 hC rfl dX12_plain_87 ?_
        refine G_iload_n 88 hC rfl dX12_plain_88 ?_
        refine G_iconst 89 hC (nI 4) (by decide) dX12_plain_89 ?_
        refine G_callV1 90 hC (n_at hF (by omega) (by omega)) okX12_at lk_X12_173 ((hF.sh (o := 0) rfl (by decide)).1) rfl rfl rfl rfl (by decide) (by decide) (by decide) dX12_plain_90 ?_
        rw [up_s]
        refine G_aload_n 93 hC rfl dX12_plain_93 ?_
        refine M_getR 94 hC hF fl_X12_29_11 rfl rfl dX12_plain_94 ?_
        refine G_iload_n 97 hC rfl dX12_plain_97 ?_
        refine N_ialdO 98 hC hF rfl (by decide) (by decide) rfl (by omega) dX12_plain_98 ?_
        refine G_icmp_ne 99 106 hC dX12_plain_99 (by decide) (fun h99 => ?_) (fun h99 => ?_)
        · refine G_iconst 106 hC (nI 1) (by decide) dX12_plain_106 ?_
          refine R_i 107 hR (by first | rfl | exact narrow_bI _) dX12_plain_107 (Nat.le_refl _) (Nat.le_refl _) ?_
          refine ⟨?_, ?_, rfl, rfl⟩
          · unfold F_plV; rw [if_neg (by omega)]; first | (rw [if_pos (show plR p Q m = Q by rw [← a87]; exact nI_eq_of (h99.trans hQ) (by omega) (by omega))]; done) | (rw [if_neg (fun z => h99 (by rw [hQ, a87, z]))]; done)
          · unfold F_plN; rw [if_neg (by omega), a87]
        · refine G_iconst 102 hC (nI 2) (by decide) dX12_plain_102 ?_
          refine G_goto 103 107 hC dX12_plain_103 (by decide) ?_
          refine R_i 107 hR (by first | rfl | exact narrow_bI _) dX12_plain_107 (Nat.le_refl _) (Nat.le_refl _) ?_
          refine ⟨?_, ?_, rfl, rfl⟩
          · unfold F_plV; rw [if_neg (by omega)]; first | (rw [if_pos (show plR p Q m = Q by rw [← a87]; exact nI_eq_of (h99.trans hQ) (by omega) (by omega))]; done) | (rw [if_neg (fun z => h99 (by rw [hQ, a87, z]))]; done)
          · unfold F_plN; rw [if_neg (by omega), a87]
      · have a31 : j < m := by
          rcases Nat.lt_or_ge j m with z | z
          · exact z
          · exact absurd ((lg_cmp_ge _ _).mpr ((pk_lLE (by omega) (by omega)).mpr z)) h31
        refine G_aload_n 34 hC rfl dX12_plain_34 ?_
        refine G_iload_n 35 hC rfl dX12_plain_35 ?_
        refine G_iconst 36 hC (nI 4) (by decide) dX12_plain_36 ?_
        refine G_callV1 37 hC (n_at hF (by omega) (by omega)) okX12_at lk_X12_173 ((hF.sh (o := 0) rfl (by decide)).1) rfl rfl rfl rfl (by decide) (by decide) (by decide) dX12_plain_37 ?_
        rw [up_s]
        refine G_aload_n 40 hC rfl dX12_plain_40 ?_
        refine M_getR 41 hC hF fl_X12_29_11 rfl rfl dX12_plain_41 ?_
        refine G_iload_n 44 hC rfl dX12_plain_44 ?_
        refine N_ialdO 45 hC hF rfl (by decide) (by decide) rfl (by omega) dX12_plain_45 ?_
        refine G_icmp_ge 46 87 hC dX12_plain_46 (by decide) (fun h46 => ?_) (fun h46 => ?_)
        · have a87 : p + j = plR p Q m := by
            unfold plR at *
            first | (have z := (pk_lLE (by omega) (by omega)).mp ((lg_cmp_ge _ _).mp h31); omega) | (rw [hQ] at h46; have z := (nI_leI (by omega) (by omega)).mp h46; omega)
          refine G_aload_n 87 hC rfl dX12_plain_87 ?_
          refine G_iload_n 88 hC rfl dX12_plain_88 ?_
          refine G_iconst 89 hC (nI 4) (by decide) dX12_plain_89 ?_
          refine G_callV1 90 hC (n_at hF (by omega) (by omega)) okX12_at lk_X12_173 ((hF.sh (o := 0) rfl (by decide)).1) rfl rfl rfl rfl (by decide) (by decide) (by decide) dX12_plain_90 ?_
          rw [up_s]
          refine G_aload_n 93 hC rfl dX12_plain_93 ?_
          refine M_getR 94 hC hF fl_X12_29_11 rfl rfl dX12_plain_94 ?_
          refine G_iload_n 97 hC rfl dX12_plain_97 ?_
          refine N_ialdO 98 hC hF rfl (by decide) (by decide) rfl (by omega) dX12_plain_98 ?_
          refine G_icmp_ne 99 106 hC dX12_plain_99 (by decide) (fun h99 => ?_) (fun h99 => ?_)
          · refine G_iconst 106 hC (nI 1) (by decide) dX12_plain_106 ?_
            refine R_i 107 hR (by first | rfl | exact narrow_bI _) dX12_plain_107 (Nat.le_refl _) (Nat.le_refl _) ?_
            refine ⟨?_, ?_, rfl, rfl⟩
            · unfold F_plV; rw [if_neg (by omega)]; first | (rw [if_pos (show plR p Q m = Q by rw [← a87]; exact nI_eq_of (h99.trans hQ) (by omega) (by omega))]; done) | (rw [if_neg (fun z => h99 (by rw [hQ, a87, z]))]; done)
            · unfold F_plN; rw [if_neg (by omega), a87]
          · refine G_iconst 102 hC (nI 2) (by decide) dX12_plain_102 ?_
            refine G_goto 103 107 hC dX12_plain_103 (by decide) ?_
            refine R_i 107 hR (by first | rfl | exact narrow_bI _) dX12_plain_107 (Nat.le_refl _) (Nat.le_refl _) ?_
            refine ⟨?_, ?_, rfl, rfl⟩
            · unfold F_plV; rw [if_neg (by omega)]; first | (rw [if_pos (show plR p Q m = Q by rw [← a87]; exact nI_eq_of (h99.trans hQ) (by omega) (by omega))]; done) | (rw [if_neg (fun z => h99 (by rw [hQ, a87, z]))]; done)
            · unfold F_plN; rw [if_neg (by omega), a87]
        · have a46 : p + j < Q := by
            rcases Nat.lt_or_ge (p + j) Q with z | z
            · exact z
            · exact absurd (by rw [hQ]; exact (nI_leI (by omega) (by omega)).mpr z) h46
          refine G_aload_n 49 hC rfl dX12_plain_49 ?_
          refine G_iload_n 50 hC rfl dX12_plain_50 ?_
          refine G_iconst 51 hC (nI 4) (by decide) dX12_plain_51 ?_
          refine G_callV0 52 hC (n_more hF (by omega) (by omega)) okX12_more lk_X12_160 ((hF.sh (o := 0) rfl (by decide)).1) rfl rfl rfl rfl (by decide) (by decide) (by decide) dX12_plain_52 ?_
          rw [up_up, up_s, nI_add, Nat.add_assoc]
          refine G_aload_n 55 hC rfl dX12_plain_55 ?_
          refine G_iload_n 56 hC rfl dX12_plain_56 ?_
          refine G_iconst 57 hC (nI 4) (by decide) dX12_plain_57 ?_
          refine G_callV1 58 hC (n_at hF (by omega) (by omega)) okX12_at lk_X12_173 ((hF.sh (o := 0) rfl (by decide)).1) rfl rfl rfl rfl (by decide) (by decide) (by decide) dX12_plain_58 ?_
          rw [up_s]
          refine G_aload_n 61 hC rfl dX12_plain_61 ?_
          refine M_getR 62 hC hF fl_X12_35_11 rfl rfl dX12_plain_62 ?_
          refine G_iload_n 65 hC rfl dX12_plain_65 ?_
          refine N_ialdO 66 hC hF rfl (by decide) (by decide) rfl (by omega) dX12_plain_66 ?_
          refine G_icmp_ne 67 78 hC dX12_plain_67 (by decide) (fun h67 => ?_) (fun h67 => ?_)
          · have a67 : f ≠ p + (j + 1) := fun z => h67 (by rw [hf, z])
            refine G_lload 78 hC rfl dX12_plain_78 ?_
            refine G_lconst 80 hC 1 (by decide) dX12_plain_80 ?_
            refine G_ladd 81 hC dX12_plain_81 ?_
            rw [lN_1]
            refine G_lstore 82 hC (by decide) (ls' := [_, _, _, _, _, _]) rfl dX12_plain_82 ?_
            refine G_goto 84 27 hC dX12_plain_84 (by decide) ?_
            exact ih (j + 1) (by unfold plR at *; omega) (by unfold plR at *; omega) (by omega)
          · have a67 : f = p + (j + 1) := nI_eq_of (hf.symm.trans h67.symm) hf2 (by omega)
            refine G_aload_n 70 hC rfl dX12_plain_70 ?_
            refine G_iload_n 71 hC rfl dX12_plain_71 ?_
            refine G_bipush 72 hC (nI 7) (by decide) dX12_plain_72 ?_
            refine G_callV1 74 hC (n_failed hF (by omega)) okX12_failed lk_X12_177 ((hF.sh (o := 0) rfl (by decide)).1) rfl rfl rfl rfl (by decide) (by decide) (by decide) dX12_plain_74 ?_
            refine R_i 77 hR (by first | rfl | exact narrow_bI _) dX12_plain_77 (Nat.le_refl _) (Nat.le_refl _) ?_
            refine ⟨?_, ?_, rfl, rfl⟩
            · unfold F_plV; rw [if_pos (by unfold plR at *; omega)]
            · unfold F_plN; rw [if_pos (by unfold plR at *; omega), ← a67]
  show g 0 [some (vr (some (b + 0))), some (vi (nI t)), none, none, none, none] [] _ _ N 0 0
  refine G_aload_n 0 hC rfl dX12_plain_0 ?_
  refine M_getR 1 hC hF fl_X12_26_11 rfl rfl dX12_plain_1 ?_
  refine G_iload_n 4 hC rfl dX12_plain_4 ?_
  refine N_ialdO 5 hC hF rfl (by decide) (by decide) rfl (by omega) dX12_plain_5 ?_
  first | refine G_if_ne_b 6 13 hC dX12_plain_6 (by decide) (fun h6 => ?_) (fun h6 => ?_) | refine G_if_ne 6 13 hC dX12_plain_6 (by decide) (fun h6 => ?_) (fun h6 => ?_)
  · refine G_lconst 13 hC 1 (by decide) dX12_plain_13 ?_
    refine G_aload_n 14 hC rfl dX12_plain_14 ?_
    refine G_iload_n 15 hC rfl dX12_plain_15 ?_
    refine G_iconst 16 hC (nI 2) (by decide) dX12_plain_16 ?_
    refine G_callV1 17 hC (n_at hF (by omega) (by omega)) okX12_at lk_X12_173 ((hF.sh (o := 0) rfl (by decide)).1) rfl rfl rfl rfl (by decide) (by decide) (by decide) dX12_plain_17 ?_
    refine G_iconst 20 hC (nI 1) (by decide) dX12_plain_20 ?_
    refine G_isub 21 hC dX12_plain_21 ?_
    refine G_lshl 22 hC dX12_plain_22 ?_
    first | rw [hm.1 h6] | rw [hm.2 h6]
    refine G_lstore_n 23 hC 2 rfl (by decide) (ls' := [_, _, _, _, _, _]) rfl dX12_plain_23 ?_
    refine G_lconst 24 hC 0 (by decide) dX12_plain_24 ?_
    refine G_lstore 25 hC (by decide) (ls' := [_, _, _, _, _, _]) rfl dX12_plain_25 ?_
    have z := loop _ 0 (Nat.lt_succ_self _) (by unfold plR; omega) (by omega)
    rw [show up n (12 * t + 4) (nI (p + 0)) = n by show up n (12 * t + 4) (nI p) = n; rw [← hp, up_self]] at z
    exact z
  · refine G_lconst 9 hC 1 (by decide) dX12_plain_9 ?_
    refine G_goto 10 23 hC dX12_plain_10 (by decide) ?_
    first | rw [hm.1 h6] | rw [hm.2 h6]
    refine G_lstore_n 23 hC 2 rfl (by decide) (ls' := [_, _, _, _, _, _]) rfl dX12_plain_23 ?_
    refine G_lconst 24 hC 0 (by decide) dX12_plain_24 ?_
    refine G_lstore 25 hC (by decide) (ls' := [_, _, _, _, _, _]) rfl dX12_plain_25 ?_
    have z := loop _ 0 (Nat.lt_succ_self _) (by unfold plR; omega) (by omega)
    rw [show up n (12 * t + 4) (nI (p + 0)) = n by show up n (12 * t + 4) (nI p) = n; rw [← hp, up_self]] at z
    exact z
end M4

/-! ===== the reference's grids ===== -/
theorem nI_nm1 {t : Nat} (h : t < 2 ^ 31) : ¬ nI t = -1 := by
  intro e
  have := congrArg Int32.toInt e
  rw [nI_toInt h] at this
  have h9 : (-1 : Int32).toInt = -1 := by decide
  rw [h9] at this
  omega
def F_bl (r : MI) (n : Nat → Int32) (s : Nat) : Nat → Int32
  | 0 => nI 0
  | j + 1 => F_bl r n s j + (if r 6 j = nI 4 ∧ r 12 j = nI s then n (12 * j + 6) else nI 0)
def F_best (r : MI) (n : Nat → Int32) (q : Nat → Int64) (s nt : Nat) (y : Int32) : Int64 :=
  if y.toInt < 0 ∨ 3 < y.toInt then -1 else
  match y.toNatClampNeg with
  | 0 => q (20 + s)
  | 1 => (n (302 + s)).toInt64
  | 2 => q (28 + s)
  | _ => (F_bl r n s nt).toInt64
theorem F_best_o {r : MI} {n : Nat → Int32} {q : Nat → Int64} {s nt : Nat} {y : Int32} (h : y.toInt < 0 ∨ 3 < y.toInt) : F_best r n q s nt y = -1 := by unfold F_best; rw [if_pos h]
/-- a new grid's lines, one after the other -/
def F_gr (r : MI) (ng nl w : Nat) (k : Int32) (z : Nat) : Nat → MI
  | 0 => upd2 (upd2 r 1 ng k) 2 ng (nI z)
  | j + 1 => if w = 13 then upd2 (F_gr r ng nl w k z j) 3 (20 * ng + j) (-1) else upd2 (upd2 (upd2 (F_gr r ng nl w k z j) 4 (nl + j) (nI w)) 0 7 (nI (nl + j + 1))) 3 (20 * ng + j) (nI (nl + j))
theorem F_gr_s {r : MI} {ng nl w : Nat} {k : Int32} {z j : Nat} : F_gr r ng nl w k z (j + 1) = if w = 13 then upd2 (F_gr r ng nl w k z j) 3 (20 * ng + j) (-1) else upd2 (upd2 (upd2 (F_gr r ng nl w k z j) 4 (nl + j) (nI w)) 0 7 (nI (nl + j + 1))) 3 (20 * ng + j) (nI (nl + j)) := rfl
theorem F_gr_3 {r : MI} {ng nl w : Nat} {k : Int32} {z : Nat} (h : r 0 3 = nI ng) : ∀ j, F_gr r ng nl w k z j 0 3 = nI ng
  | 0 => h
  | j + 1 => by
    rw [F_gr_s]
    split
    · rw [upd2_ne (by decide)]; exact F_gr_3 h j
    · rw [upd2_ne (by decide), upd2_row, up_ne (by decide), upd2_ne (by decide)]; exact F_gr_3 h j
theorem F_gr_7 {r : MI} {ng nl w : Nat} {k : Int32} {z : Nat} (h : r 0 7 = nI nl) (hw : w < 13) : ∀ j, F_gr r ng nl w k z j 0 7 = nI (nl + j)
  | 0 => h
  | j + 1 => by
    rw [F_gr_s, if_neg (by omega), upd2_ne (by decide), upd2_row, up_s]
    rfl
section M18
variable {l : Launch} {D : va_G} {B b : Nat} {N : NT} {r G : MI} {rl GL : ML} {n n1 n2 n3 : Nat → Int32} {q q1 q2 : Nat → Int64} {S S1 S2 : Int64} {L : ML}
theorem n_isLine (hF : FixR b N) {g0 sz : Nat} {x : Int32} (hg : g0 < 6) (h : r 2 g0 = nI sz) (hn : sz ≤ 20) : Cq l D B mX12_isLine [vr (some (b + 0)), vi (nI g0), vi x] (RI b r n G) L N (some (vi (bI (inR x sz)))) (RI b r n G) L := ref_isLine (r := up r 20 n) hF hg h hn
theorem n_against (hF : FixR b N) {g0 sz : Nat} {i k : Int32} (hg : g0 < 6) (h2 : r 2 g0 = nI sz) (hz : sz ≤ 12) (hpl : PlOk r g0 sz) : Cq l D B mX12_against [vr (some (b + 0)), vi (nI g0), vi i, vi k] (RI b r n G) L N (some (vi (F_ag r g0 i k))) (RI b r n G) L := ref_against (r := up r 20 n) hF hg h2 hz hpl
theorem n_newLine (hF : FixR b N) {m nl : Nat} (h : r 0 7 = nI nl) (hn : nl < 600) (hm : m ≠ 13) (hm2 : m < 2 ^ 31) : Cq l D B mX12_newLine [vr (some (b + 0)), vi (nI m)] (RI b r n G) L N (some (vi (nI nl))) (RI b (upd2 (upd2 r 4 nl (nI m)) 0 7 (nI (nl + 1))) n G) L := by
  have e := ref_newLine (l := l) (D := D) (B := B) (r := up r 20 n) (G := G) (L := L) hF (nl := nl) h hn hm hm2
  rw [up_upd2n _ _ _ (by decide), up_upd2n _ _ _ (by decide)] at e
  exact e
theorem n_newLine13 (hF : FixR b N) : Cq l D B mX12_newLine [vr (some (b + 0)), vi (nI 13)] (RI b r n G) L N (some (vi (-1))) (RI b r n G) L := by
  refine Ct.of (M := mX12_newLine) (by decide) (Nat.le_of_ble_eq_true rfl) (fun g (hR : Cr l D B RX12 cX12_newLine 2 "newLine" { frames := 0, cells := 0, slots := 0, locals := 0 } (some .int) 0 0 _ g) => ?_)
  have hC := hR.cx
  show g 0 [some (vr (some (b + 0))), some (vi (nI 13))] [] _ _ N 0 0
  refine G_iload_n 0 hC rfl dX12_newLine_0 ?_
  refine G_bipush 1 hC (nI 13) (by decide) dX12_newLine_1 ?_
  refine G_icmp_ne 3 8 hC dX12_newLine_3 (by decide) (fun h3 => ?_) (fun h3 => ?_)
  · exact absurd rfl h3
  · refine G_iconst 6 hC (-1) (by decide) dX12_newLine_6 ?_
    refine R_i 7 hR (by first | rfl | exact narrow_bI _) dX12_newLine_7 (Nat.le_refl _) (Nat.le_refl _) ?_
    exact ⟨rfl, rfl, rfl, rfl⟩
theorem n_line_bad (hF : FixR b N) (h0 : r 0 0 = nI 0) {ng : Nat} (hng : r 0 3 = nI ng) (hng2 : ng ≤ 6) {x y w : Int32} (hb : ¬ (inR x ng ∧ ¬ nI 13 < w)) : Cq l D B mX12_line [vr (some (b + 0)), vi x, vi y, vi w] (RI b r n G) L N (some (vi (-1))) (RI b r n G) L := by
  refine Ct.of (M := mX12_line) (by decide) (Nat.le_of_ble_eq_true rfl) (fun g (hR : Cr l D B RX12 cX12_line 4 "line" { frames := 2, cells := 0, slots := 0, locals := 44 } (some .int) 0 0 _ g) => ?_)
  have hC := hR.cx
  show g 0 [some (vr (some (b + 0))), some (vi x), some (vi y), some (vi w)] [] _ _ N 0 0
  refine G_aload_n 0 hC rfl dX12_line_0 ?_
  refine G_iconst 1 hC (nI 0) (by decide) dX12_line_1 ?_
  refine N_thr 2 hC hF h0 (fp_X12_96_11 _) dX12_line_2 ?_
  refine G_aload_n 5 hC rfl dX12_line_5 ?_
  refine G_iload_n 6 hC rfl dX12_line_6 ?_
  refine G_callV1 7 hC (n_isGrid hF hng hng2) okX12_isGrid lk_X12_122 ((hF.sh (o := 0) rfl (by decide)).1) rfl rfl rfl rfl (Nat.le_of_ble_eq_true rfl) (by decide) (by decide) dX12_line_7 ?_
  first | refine G_if_eq_b 10 19 hC dX12_line_10 (by decide) (fun h10 => ?_) (fun h10 => ?_) | refine G_if_eq 10 19 hC dX12_line_10 (by decide) (fun h10 => ?_) (fun h10 => ?_)
  · refine G_iconst 19 hC (-1) (by decide) dX12_line_19 ?_
    refine R_i 20 hR (by first | rfl | exact narrow_bI _) dX12_line_20 (Nat.le_refl _) (Nat.le_refl _) ?_
    exact ⟨rfl, rfl, rfl, rfl⟩
  · refine G_iload_n 13 hC rfl dX12_line_13 ?_
    refine G_bipush 14 hC (nI 13) (by decide) dX12_line_14 ?_
    refine G_icmp_le 16 21 hC dX12_line_16 (by decide) (fun h16 => ?_) (fun h16 => ?_)
    · exact absurd ⟨h10, Int32.not_lt.mpr h16⟩ hb
    · refine G_iconst 19 hC (-1) (by decide) dX12_line_19 ?_
      refine R_i 20 hR (by first | rfl | exact narrow_bI _) dX12_line_20 (Nat.le_refl _) (Nat.le_refl _) ?_
      exact ⟨rfl, rfl, rfl, rfl⟩
theorem n_line_state (hF : FixR b N) (h0 : r 0 0 = nI 0) {ng : Nat} (hng : r 0 3 = nI ng) (hng2 : ng ≤ 6) {x y w : Int32} (hok : (inR x ng ∧ ¬ nI 13 < w)) (hst : n 246 = 1) : Cq l D B mX12_line [vr (some (b + 0)), vi x, vi y, vi w] (RI b r n G) L N (some (vi (-2))) (RI b r n G) L := by
  refine Ct.of (M := mX12_line) (by decide) (Nat.le_of_ble_eq_true rfl) (fun g (hR : Cr l D B RX12 cX12_line 4 "line" { frames := 2, cells := 0, slots := 0, locals := 44 } (some .int) 0 0 _ g) => ?_)
  have hC := hR.cx
  show g 0 [some (vr (some (b + 0))), some (vi x), some (vi y), some (vi w)] [] _ _ N 0 0
  refine G_aload_n 0 hC rfl dX12_line_0 ?_
  refine G_iconst 1 hC (nI 0) (by decide) dX12_line_1 ?_
  refine N_thr 2 hC hF h0 (fp_X12_96_11 _) dX12_line_2 ?_
  refine G_aload_n 5 hC rfl dX12_line_5 ?_
  refine G_iload_n 6 hC rfl dX12_line_6 ?_
  refine G_callV1 7 hC (n_isGrid hF hng hng2) okX12_isGrid lk_X12_122 ((hF.sh (o := 0) rfl (by decide)).1) rfl rfl rfl rfl (Nat.le_of_ble_eq_true rfl) (by decide) (by decide) dX12_line_7 ?_
  first | refine G_if_eq_b 10 19 hC dX12_line_10 (by decide) (fun h10 => ?_) (fun h10 => ?_) | refine G_if_eq 10 19 hC dX12_line_10 (by decide) (fun h10 => ?_) (fun h10 => ?_)
  · exact absurd hok.1 h10
  · refine G_iload_n 13 hC rfl dX12_line_13 ?_
    refine G_bipush 14 hC (nI 13) (by decide) dX12_line_14 ?_
    refine G_icmp_le 16 21 hC dX12_line_16 (by decide) (fun h16 => ?_) (fun h16 => ?_)
    · refine G_aload_n 21 hC rfl dX12_line_21 ?_
      refine G_callV1 22 hC (n_isOpen hF) okX12_isOpen lk_X12_114 ((hF.sh (o := 0) rfl (by decide)).1) rfl rfl rfl rfl (Nat.le_of_ble_eq_true rfl) (by decide) (by decide) dX12_line_22 ?_
      first | refine G_if_eq_b 25 31 hC dX12_line_25 (by decide) (fun h25 => ?_) (fun h25 => ?_) | refine G_if_eq 25 31 hC dX12_line_25 (by decide) (fun h25 => ?_) (fun h25 => ?_)
      · exact absurd hst h25
      · refine G_bipush 28 hC (-2) (by decide) dX12_line_28 ?_
        refine R_i 30 hR (by first | rfl | exact narrow_bI _) dX12_line_30 (Nat.le_refl _) (Nat.le_refl _) ?_
        exact ⟨rfl, rfl, rfl, rfl⟩
    · exact absurd (Int32.not_lt.mp hok.2) h16
theorem n_line_size (hF : FixR b N) (h0 : r 0 0 = nI 0) {ng : Nat} (hng : r 0 3 = nI ng) (hng2 : ng ≤ 6) {x y w : Int32} (hok : (inR x ng ∧ ¬ nI 13 < w)) (hst : ¬ n 246 = 1) (hw : w < 0) : Cq l D B mX12_line [vr (some (b + 0)), vi x, vi y, vi w] (RI b r n G) L N (some (vi (-15))) (RI b r n G) L := by
  refine Ct.of (M := mX12_line) (by decide) (Nat.le_of_ble_eq_true rfl) (fun g (hR : Cr l D B RX12 cX12_line 4 "line" { frames := 2, cells := 0, slots := 0, locals := 44 } (some .int) 0 0 _ g) => ?_)
  have hC := hR.cx
  show g 0 [some (vr (some (b + 0))), some (vi x), some (vi y), some (vi w)] [] _ _ N 0 0
  refine G_aload_n 0 hC rfl dX12_line_0 ?_
  refine G_iconst 1 hC (nI 0) (by decide) dX12_line_1 ?_
  refine N_thr 2 hC hF h0 (fp_X12_96_11 _) dX12_line_2 ?_
  refine G_aload_n 5 hC rfl dX12_line_5 ?_
  refine G_iload_n 6 hC rfl dX12_line_6 ?_
  refine G_callV1 7 hC (n_isGrid hF hng hng2) okX12_isGrid lk_X12_122 ((hF.sh (o := 0) rfl (by decide)).1) rfl rfl rfl rfl (Nat.le_of_ble_eq_true rfl) (by decide) (by decide) dX12_line_7 ?_
  first | refine G_if_eq_b 10 19 hC dX12_line_10 (by decide) (fun h10 => ?_) (fun h10 => ?_) | refine G_if_eq 10 19 hC dX12_line_10 (by decide) (fun h10 => ?_) (fun h10 => ?_)
  · exact absurd hok.1 h10
  · refine G_iload_n 13 hC rfl dX12_line_13 ?_
    refine G_bipush 14 hC (nI 13) (by decide) dX12_line_14 ?_
    refine G_icmp_le 16 21 hC dX12_line_16 (by decide) (fun h16 => ?_) (fun h16 => ?_)
    · refine G_aload_n 21 hC rfl dX12_line_21 ?_
      refine G_callV1 22 hC (n_isOpen hF) okX12_isOpen lk_X12_114 ((hF.sh (o := 0) rfl (by decide)).1) rfl rfl rfl rfl (Nat.le_of_ble_eq_true rfl) (by decide) (by decide) dX12_line_22 ?_
      first | refine G_if_eq_b 25 31 hC dX12_line_25 (by decide) (fun h25 => ?_) (fun h25 => ?_) | refine G_if_eq 25 31 hC dX12_line_25 (by decide) (fun h25 => ?_) (fun h25 => ?_)
      · refine G_iload_n 31 hC rfl dX12_line_31 ?_
        refine G_if_ge 32 38 hC dX12_line_32 (by decide) (fun h32 => ?_) (fun h32 => ?_)
        · exact absurd h32 (Int32.not_le.mpr hw)
        · refine G_bipush 35 hC (-15) (by decide) dX12_line_35 ?_
          refine R_i 37 hR (by first | rfl | exact narrow_bI _) dX12_line_37 (Nat.le_refl _) (Nat.le_refl _) ?_
          exact ⟨rfl, rfl, rfl, rfl⟩
      · exact absurd h25 hst
    · exact absurd (Int32.not_lt.mp hok.2) h16
theorem n_line_index (hF : FixR b N) (h0 : r 0 0 = nI 0) {ng : Nat} (hng : r 0 3 = nI ng) (hng2 : ng ≤ 6) {y : Int32} {g0 sz w : Nat} (hg : g0 < ng) (h2 : r 2 g0 = nI sz) (hz : sz ≤ 12) (hw : w ≤ 13) (hst : ¬ n 246 = 1) (hy : ¬ inR y sz) : Cq l D B mX12_line [vr (some (b + 0)), vi (nI g0), vi y, vi (nI w)] (RI b r n G) L N (some (vi (-12))) (RI b r n G) L := by
  refine Ct.of (M := mX12_line) (by decide) (Nat.le_of_ble_eq_true rfl) (fun g (hR : Cr l D B RX12 cX12_line 4 "line" { frames := 2, cells := 0, slots := 0, locals := 44 } (some .int) 0 0 _ g) => ?_)
  have hC := hR.cx
  show g 0 [some (vr (some (b + 0))), some (vi (nI g0)), some (vi y), some (vi (nI w))] [] _ _ N 0 0
  refine G_aload_n 0 hC rfl dX12_line_0 ?_
  refine G_iconst 1 hC (nI 0) (by decide) dX12_line_1 ?_
  refine N_thr 2 hC hF h0 (fp_X12_96_11 _) dX12_line_2 ?_
  refine G_aload_n 5 hC rfl dX12_line_5 ?_
  refine G_iload_n 6 hC rfl dX12_line_6 ?_
  refine G_callV1 7 hC (n_isGrid hF hng hng2) okX12_isGrid lk_X12_122 ((hF.sh (o := 0) rfl (by decide)).1) rfl rfl rfl rfl (Nat.le_of_ble_eq_true rfl) (by decide) (by decide) dX12_line_7 ?_
  first | refine G_if_eq_b 10 19 hC dX12_line_10 (by decide) (fun h10 => ?_) (fun h10 => ?_) | refine G_if_eq 10 19 hC dX12_line_10 (by decide) (fun h10 => ?_) (fun h10 => ?_)
  · exact absurd (inR_nI hg (by omega)) h10
  · refine G_iload_n 13 hC rfl dX12_line_13 ?_
    refine G_bipush 14 hC (nI 13) (by decide) dX12_line_14 ?_
    refine G_icmp_le 16 21 hC dX12_line_16 (by decide) (fun h16 => ?_) (fun h16 => ?_)
    · refine G_aload_n 21 hC rfl dX12_line_21 ?_
      refine G_callV1 22 hC (n_isOpen hF) okX12_isOpen lk_X12_114 ((hF.sh (o := 0) rfl (by decide)).1) rfl rfl rfl rfl (Nat.le_of_ble_eq_true rfl) (by decide) (by decide) dX12_line_22 ?_
      first | refine G_if_eq_b 25 31 hC dX12_line_25 (by decide) (fun h25 => ?_) (fun h25 => ?_) | refine G_if_eq 25 31 hC dX12_line_25 (by decide) (fun h25 => ?_) (fun h25 => ?_)
      · refine G_iload_n 31 hC rfl dX12_line_31 ?_
        refine G_if_ge 32 38 hC dX12_line_32 (by decide) (fun h32 => ?_) (fun h32 => ?_)
        · refine G_aload_n 38 hC rfl dX12_line_38 ?_
          refine G_iload_n 39 hC rfl dX12_line_39 ?_
          refine G_iload_n 40 hC rfl dX12_line_40 ?_
          refine G_callV1 41 hC (n_isLine hF (by omega) h2 (by omega)) okX12_isLine lk_X12_126 ((hF.sh (o := 0) rfl (by decide)).1) rfl rfl rfl rfl (Nat.le_of_ble_eq_true rfl) (by decide) (by decide) dX12_line_41 ?_
          first | refine G_if_ne_b 44 50 hC dX12_line_44 (by decide) (fun h44 => ?_) (fun h44 => ?_) | refine G_if_ne 44 50 hC dX12_line_44 (by decide) (fun h44 => ?_) (fun h44 => ?_)
          · exact absurd h44 hy
          · refine G_bipush 47 hC (-12) (by decide) dX12_line_47 ?_
            refine R_i 49 hR (by first | rfl | exact narrow_bI _) dX12_line_49 (Nat.le_refl _) (Nat.le_refl _) ?_
            exact ⟨rfl, rfl, rfl, rfl⟩
        · exact absurd (nI_pos' (by omega)) h32
      · exact absurd h25 hst
    · exact absurd ((nI_leI (by omega) (by omega)).mpr hw) h16
theorem n_line_ok (hF : FixR b N) (h0 : r 0 0 = nI 0) {ng : Nat} (hng : r 0 3 = nI ng) (hng2 : ng ≤ 6) {g0 sz w i1 nl : Nat} (hg : g0 < ng) (h2 : r 2 g0 = nI sz) (hz : sz ≤ 12) (hw : w ≤ 13) (hw13 : w ≠ 13) (hst : ¬ n 246 = 1) (hi1 : i1 < sz) (hnl : r 0 7 = nI nl) (hnl2 : nl < 600) : Cq l D B mX12_line [vr (some (b + 0)), vi (nI g0), vi (nI i1), vi (nI w)] (RI b r n G) L N (some (vi (nI w))) (RI b (upd2 (upd2 (upd2 r 4 nl (nI w)) 0 7 (nI (nl + 1))) 3 (20 * g0 + i1) (nI nl)) n G) L := by
  refine Ct.of (M := mX12_line) (by decide) (Nat.le_of_ble_eq_true rfl) (fun g (hR : Cr l D B RX12 cX12_line 4 "line" { frames := 2, cells := 0, slots := 0, locals := 44 } (some .int) 0 0 _ g) => ?_)
  have hC := hR.cx
  show g 0 [some (vr (some (b + 0))), some (vi (nI g0)), some (vi (nI i1)), some (vi (nI w))] [] _ _ N 0 0
  refine G_aload_n 0 hC rfl dX12_line_0 ?_
  refine G_iconst 1 hC (nI 0) (by decide) dX12_line_1 ?_
  refine N_thr 2 hC hF h0 (fp_X12_96_11 _) dX12_line_2 ?_
  refine G_aload_n 5 hC rfl dX12_line_5 ?_
  refine G_iload_n 6 hC rfl dX12_line_6 ?_
  refine G_callV1 7 hC (n_isGrid hF hng hng2) okX12_isGrid lk_X12_122 ((hF.sh (o := 0) rfl (by decide)).1) rfl rfl rfl rfl (Nat.le_of_ble_eq_true rfl) (by decide) (by decide) dX12_line_7 ?_
  first | refine G_if_eq_b 10 19 hC dX12_line_10 (by decide) (fun h10 => ?_) (fun h10 => ?_) | refine G_if_eq 10 19 hC dX12_line_10 (by decide) (fun h10 => ?_) (fun h10 => ?_)
  · exact absurd (inR_nI hg (by omega)) h10
  · refine G_iload_n 13 hC rfl dX12_line_13 ?_
    refine G_bipush 14 hC (nI 13) (by decide) dX12_line_14 ?_
    refine G_icmp_le 16 21 hC dX12_line_16 (by decide) (fun h16 => ?_) (fun h16 => ?_)
    · refine G_aload_n 21 hC rfl dX12_line_21 ?_
      refine G_callV1 22 hC (n_isOpen hF) okX12_isOpen lk_X12_114 ((hF.sh (o := 0) rfl (by decide)).1) rfl rfl rfl rfl (Nat.le_of_ble_eq_true rfl) (by decide) (by decide) dX12_line_22 ?_
      first | refine G_if_eq_b 25 31 hC dX12_line_25 (by decide) (fun h25 => ?_) (fun h25 => ?_) | refine G_if_eq 25 31 hC dX12_line_25 (by decide) (fun h25 => ?_) (fun h25 => ?_)
      · refine G_iload_n 31 hC rfl dX12_line_31 ?_
        refine G_if_ge 32 38 hC dX12_line_32 (by decide) (fun h32 => ?_) (fun h32 => ?_)
        · refine G_aload_n 38 hC rfl dX12_line_38 ?_
          refine G_iload_n 39 hC rfl dX12_line_39 ?_
          refine G_iload_n 40 hC rfl dX12_line_40 ?_
          refine G_callV1 41 hC (n_isLine hF (by omega) h2 (by omega)) okX12_isLine lk_X12_126 ((hF.sh (o := 0) rfl (by decide)).1) rfl rfl rfl rfl (Nat.le_of_ble_eq_true rfl) (by decide) (by decide) dX12_line_41 ?_
          first | refine G_if_ne_b 44 50 hC dX12_line_44 (by decide) (fun h44 => ?_) (fun h44 => ?_) | refine G_if_ne 44 50 hC dX12_line_44 (by decide) (fun h44 => ?_) (fun h44 => ?_)
          · refine G_aload_n 50 hC rfl dX12_line_50 ?_
            refine M_getR 51 hC hF fl_X12_16_11 rfl rfl dX12_line_51 ?_
            refine G_bipush 54 hC (nI 20) (by decide) dX12_line_54 ?_
            refine G_iload_n 56 hC rfl dX12_line_56 ?_
            refine G_imulN 57 hC dX12_line_57 ?_
            refine G_iload_n 58 hC rfl dX12_line_58 ?_
            refine G_iaddN 59 hC dX12_line_59 ?_
            refine G_aload_n 60 hC rfl dX12_line_60 ?_
            refine G_iload_n 61 hC rfl dX12_line_61 ?_
            refine G_callV1 62 hC (n_newLine hF hnl hnl2 hw13 (by omega)) okX12_newLine lk_X12_118 ((hF.sh (o := 0) rfl (by decide)).1) rfl rfl rfl rfl (Nat.le_of_ble_eq_true rfl) (by decide) (by decide) dX12_line_62 ?_
            refine N_iastO 65 hC hF rfl (by decide) (by decide) rfl (by omega) dX12_line_65 ?_
            refine G_iload_n 66 hC rfl dX12_line_66 ?_
            refine R_i 67 hR (by first | rfl | exact narrow_bI _) dX12_line_67 (Nat.le_refl _) (Nat.le_refl _) ?_
            exact ⟨rfl, rfl, rfl, rfl⟩
          · exact absurd (inR_nI hi1 (by omega)) h44
        · exact absurd (nI_pos' (by omega)) h32
      · exact absurd h25 hst
    · exact absurd ((nI_leI (by omega) (by omega)).mpr hw) h16
theorem n_line_ok13 (hF : FixR b N) (h0 : r 0 0 = nI 0) {ng : Nat} (hng : r 0 3 = nI ng) (hng2 : ng ≤ 6) {g0 sz i1 : Nat} (hg : g0 < ng) (h2 : r 2 g0 = nI sz) (hz : sz ≤ 12) (hst : ¬ n 246 = 1) (hi1 : i1 < sz) : Cq l D B mX12_line [vr (some (b + 0)), vi (nI g0), vi (nI i1), vi (nI 13)] (RI b r n G) L N (some (vi (nI 13))) (RI b (upd2 r 3 (20 * g0 + i1) (-1)) n G) L := by
  refine Ct.of (M := mX12_line) (by decide) (Nat.le_of_ble_eq_true rfl) (fun g (hR : Cr l D B RX12 cX12_line 4 "line" { frames := 2, cells := 0, slots := 0, locals := 44 } (some .int) 0 0 _ g) => ?_)
  have hC := hR.cx
  show g 0 [some (vr (some (b + 0))), some (vi (nI g0)), some (vi (nI i1)), some (vi (nI 13))] [] _ _ N 0 0
  refine G_aload_n 0 hC rfl dX12_line_0 ?_
  refine G_iconst 1 hC (nI 0) (by decide) dX12_line_1 ?_
  refine N_thr 2 hC hF h0 (fp_X12_96_11 _) dX12_line_2 ?_
  refine G_aload_n 5 hC rfl dX12_line_5 ?_
  refine G_iload_n 6 hC rfl dX12_line_6 ?_
  refine G_callV1 7 hC (n_isGrid hF hng hng2) okX12_isGrid lk_X12_122 ((hF.sh (o := 0) rfl (by decide)).1) rfl rfl rfl rfl (Nat.le_of_ble_eq_true rfl) (by decide) (by decide) dX12_line_7 ?_
  first | refine G_if_eq_b 10 19 hC dX12_line_10 (by decide) (fun h10 => ?_) (fun h10 => ?_) | refine G_if_eq 10 19 hC dX12_line_10 (by decide) (fun h10 => ?_) (fun h10 => ?_)
  · exact absurd (inR_nI hg (by omega)) h10
  · refine G_iload_n 13 hC rfl dX12_line_13 ?_
    refine G_bipush 14 hC (nI 13) (by decide) dX12_line_14 ?_
    refine G_icmp_le 16 21 hC dX12_line_16 (by decide) (fun h16 => ?_) (fun h16 => ?_)
    · refine G_aload_n 21 hC rfl dX12_line_21 ?_
      refine G_callV1 22 hC (n_isOpen hF) okX12_isOpen lk_X12_114 ((hF.sh (o := 0) rfl (by decide)).1) rfl rfl rfl rfl (Nat.le_of_ble_eq_true rfl) (by decide) (by decide) dX12_line_22 ?_
      first | refine G_if_eq_b 25 31 hC dX12_line_25 (by decide) (fun h25 => ?_) (fun h25 => ?_) | refine G_if_eq 25 31 hC dX12_line_25 (by decide) (fun h25 => ?_) (fun h25 => ?_)
      · refine G_iload_n 31 hC rfl dX12_line_31 ?_
        refine G_if_ge 32 38 hC dX12_line_32 (by decide) (fun h32 => ?_) (fun h32 => ?_)
        · refine G_aload_n 38 hC rfl dX12_line_38 ?_
          refine G_iload_n 39 hC rfl dX12_line_39 ?_
          refine G_iload_n 40 hC rfl dX12_line_40 ?_
          refine G_callV1 41 hC (n_isLine hF (by omega) h2 (by omega)) okX12_isLine lk_X12_126 ((hF.sh (o := 0) rfl (by decide)).1) rfl rfl rfl rfl (Nat.le_of_ble_eq_true rfl) (by decide) (by decide) dX12_line_41 ?_
          first | refine G_if_ne_b 44 50 hC dX12_line_44 (by decide) (fun h44 => ?_) (fun h44 => ?_) | refine G_if_ne 44 50 hC dX12_line_44 (by decide) (fun h44 => ?_) (fun h44 => ?_)
          · refine G_aload_n 50 hC rfl dX12_line_50 ?_
            refine M_getR 51 hC hF fl_X12_16_11 rfl rfl dX12_line_51 ?_
            refine G_bipush 54 hC (nI 20) (by decide) dX12_line_54 ?_
            refine G_iload_n 56 hC rfl dX12_line_56 ?_
            refine G_imulN 57 hC dX12_line_57 ?_
            refine G_iload_n 58 hC rfl dX12_line_58 ?_
            refine G_iaddN 59 hC dX12_line_59 ?_
            refine G_aload_n 60 hC rfl dX12_line_60 ?_
            refine G_iload_n 61 hC rfl dX12_line_61 ?_
            refine G_callV1 62 hC (n_newLine13 hF) okX12_newLine lk_X12_118 ((hF.sh (o := 0) rfl (by decide)).1) rfl rfl rfl rfl (Nat.le_of_ble_eq_true rfl) (by decide) (by decide) dX12_line_62 ?_
            refine N_iastO 65 hC hF rfl (by decide) (by decide) rfl (by omega) dX12_line_65 ?_
            refine G_iload_n 66 hC rfl dX12_line_66 ?_
            refine R_i 67 hR (by first | rfl | exact narrow_bI _) dX12_line_67 (Nat.le_refl _) (Nat.le_refl _) ?_
            exact ⟨rfl, rfl, rfl, rfl⟩
          · exact absurd (inR_nI hi1 (by omega)) h44
        · exact absurd (nI_pos' (by omega)) h32
      · exact absurd h25 hst
    · exact absurd (by decide) h16
theorem n_put_bad (hF : FixR b N) (h0 : r 0 0 = nI 0) {ng : Nat} (hng : r 0 3 = nI ng) (hng2 : ng ≤ 6) {x y k : Int32} {v : Int64} (hx : ¬ inR x ng) : Cq l D B mX12_put [vr (some (b + 0)), vi x, vi y, vi k, vl v] (RI b r n G) (RLg b rl S q GL) N (some (vi (-1))) (RI b r n G) (RLg b rl S q GL) := by
  refine Ct.of (M := mX12_put) (by decide) (Nat.le_of_ble_eq_true rfl) (fun g (hR : Cr l D B RX12 cX12_put 7 "put" { frames := 3, cells := 0, slots := 0, locals := 68 } (some .int) 0 0 _ g) => ?_)
  have hC := hR.cx
  show g 0 [some (vr (some (b + 0))), some (vi x), some (vi y), some (vi k), some (vl v), none, none] [] _ _ N 0 0
  refine G_aload_n 0 hC rfl dX12_put_0 ?_
  refine G_iconst 1 hC (nI 0) (by decide) dX12_put_1 ?_
  refine N_thr 2 hC hF h0 (fp_X12_96_11 _) dX12_put_2 ?_
  refine G_aload_n 5 hC rfl dX12_put_5 ?_
  refine G_iload_n 6 hC rfl dX12_put_6 ?_
  refine G_callV1 7 hC (n_isGrid hF hng hng2) okX12_isGrid lk_X12_122 ((hF.sh (o := 0) rfl (by decide)).1) rfl rfl rfl rfl (Nat.le_of_ble_eq_true rfl) (by decide) (by decide) dX12_put_7 ?_
  first | refine G_if_ne_b 10 15 hC dX12_put_10 (by decide) (fun h10 => ?_) (fun h10 => ?_) | refine G_if_ne 10 15 hC dX12_put_10 (by decide) (fun h10 => ?_) (fun h10 => ?_)
  · exact absurd h10 hx
  · refine G_iconst 13 hC (-1) (by decide) dX12_put_13 ?_
    refine R_i 14 hR (by first | rfl | exact narrow_bI _) dX12_put_14 (Nat.le_refl _) (Nat.le_refl _) ?_
    exact ⟨rfl, rfl, rfl, rfl⟩
theorem n_put_state (hF : FixR b N) (h0 : r 0 0 = nI 0) {ng : Nat} (hng : r 0 3 = nI ng) (hng2 : ng ≤ 6) {x y k : Int32} {v : Int64} (hx : inR x ng) (hst : n 246 = 1) : Cq l D B mX12_put [vr (some (b + 0)), vi x, vi y, vi k, vl v] (RI b r n G) (RLg b rl S q GL) N (some (vi (-2))) (RI b r n G) (RLg b rl S q GL) := by
  refine Ct.of (M := mX12_put) (by decide) (Nat.le_of_ble_eq_true rfl) (fun g (hR : Cr l D B RX12 cX12_put 7 "put" { frames := 3, cells := 0, slots := 0, locals := 68 } (some .int) 0 0 _ g) => ?_)
  have hC := hR.cx
  show g 0 [some (vr (some (b + 0))), some (vi x), some (vi y), some (vi k), some (vl v), none, none] [] _ _ N 0 0
  refine G_aload_n 0 hC rfl dX12_put_0 ?_
  refine G_iconst 1 hC (nI 0) (by decide) dX12_put_1 ?_
  refine N_thr 2 hC hF h0 (fp_X12_96_11 _) dX12_put_2 ?_
  refine G_aload_n 5 hC rfl dX12_put_5 ?_
  refine G_iload_n 6 hC rfl dX12_put_6 ?_
  refine G_callV1 7 hC (n_isGrid hF hng hng2) okX12_isGrid lk_X12_122 ((hF.sh (o := 0) rfl (by decide)).1) rfl rfl rfl rfl (Nat.le_of_ble_eq_true rfl) (by decide) (by decide) dX12_put_7 ?_
  first | refine G_if_ne_b 10 15 hC dX12_put_10 (by decide) (fun h10 => ?_) (fun h10 => ?_) | refine G_if_ne 10 15 hC dX12_put_10 (by decide) (fun h10 => ?_) (fun h10 => ?_)
  · refine G_aload_n 15 hC rfl dX12_put_15 ?_
    refine G_callV1 16 hC (n_isOpen hF) okX12_isOpen lk_X12_114 ((hF.sh (o := 0) rfl (by decide)).1) rfl rfl rfl rfl (Nat.le_of_ble_eq_true rfl) (by decide) (by decide) dX12_put_16 ?_
    first | refine G_if_eq_b 19 25 hC dX12_put_19 (by decide) (fun h19 => ?_) (fun h19 => ?_) | refine G_if_eq 19 25 hC dX12_put_19 (by decide) (fun h19 => ?_) (fun h19 => ?_)
    · exact absurd hst h19
    · refine G_bipush 22 hC (-2) (by decide) dX12_put_22 ?_
      refine R_i 24 hR (by first | rfl | exact narrow_bI _) dX12_put_24 (Nat.le_refl _) (Nat.le_refl _) ?_
      exact ⟨rfl, rfl, rfl, rfl⟩
  · exact absurd hx h10
theorem n_put_fault (hF : FixR b N) (h0 : r 0 0 = nI 0) {ng : Nat} (hng : r 0 3 = nI ng) (hng2 : ng ≤ 6) {y k : Int32} {v : Int64} {g0 sz : Nat} (hg : g0 < ng) (h2 : r 2 g0 = nI sz) (hz : sz ≤ 12) (hpl : PlOk r g0 sz) (hst : ¬ n 246 = 1) (hf : ¬ F_ag r g0 y k = 0) : Cq l D B mX12_put [vr (some (b + 0)), vi (nI g0), vi y, vi k, vl v] (RI b r n G) (RLg b rl S q GL) N (some (vi (-10 - F_ag r g0 y k))) (RI b r n G) (RLg b rl S q GL) := by
  refine Ct.of (M := mX12_put) (by decide) (Nat.le_of_ble_eq_true rfl) (fun g (hR : Cr l D B RX12 cX12_put 7 "put" { frames := 3, cells := 0, slots := 0, locals := 68 } (some .int) 0 0 _ g) => ?_)
  have hC := hR.cx
  show g 0 [some (vr (some (b + 0))), some (vi (nI g0)), some (vi y), some (vi k), some (vl v), none, none] [] _ _ N 0 0
  refine G_aload_n 0 hC rfl dX12_put_0 ?_
  refine G_iconst 1 hC (nI 0) (by decide) dX12_put_1 ?_
  refine N_thr 2 hC hF h0 (fp_X12_96_11 _) dX12_put_2 ?_
  refine G_aload_n 5 hC rfl dX12_put_5 ?_
  refine G_iload_n 6 hC rfl dX12_put_6 ?_
  refine G_callV1 7 hC (n_isGrid hF hng hng2) okX12_isGrid lk_X12_122 ((hF.sh (o := 0) rfl (by decide)).1) rfl rfl rfl rfl (Nat.le_of_ble_eq_true rfl) (by decide) (by decide) dX12_put_7 ?_
  first | refine G_if_ne_b 10 15 hC dX12_put_10 (by decide) (fun h10 => ?_) (fun h10 => ?_) | refine G_if_ne 10 15 hC dX12_put_10 (by decide) (fun h10 => ?_) (fun h10 => ?_)
  · refine G_aload_n 15 hC rfl dX12_put_15 ?_
    refine G_callV1 16 hC (n_isOpen hF) okX12_isOpen lk_X12_114 ((hF.sh (o := 0) rfl (by decide)).1) rfl rfl rfl rfl (Nat.le_of_ble_eq_true rfl) (by decide) (by decide) dX12_put_16 ?_
    first | refine G_if_eq_b 19 25 hC dX12_put_19 (by decide) (fun h19 => ?_) (fun h19 => ?_) | refine G_if_eq 19 25 hC dX12_put_19 (by decide) (fun h19 => ?_) (fun h19 => ?_)
    · refine G_aload_n 25 hC rfl dX12_put_25 ?_
      refine G_iload_n 26 hC rfl dX12_put_26 ?_
      refine G_iload_n 27 hC rfl dX12_put_27 ?_
      refine G_iload_n 28 hC rfl dX12_put_28 ?_
      refine G_callV1 29 hC (n_against hF (by omega) h2 hz hpl) okX12_against lk_X12_133 ((hF.sh (o := 0) rfl (by decide)).1) rfl rfl rfl rfl (Nat.le_of_ble_eq_true rfl) (by decide) (by decide) dX12_put_29 ?_
      refine G_istore 32 hC (by decide) (ls' := [_, _, _, _, _, _, _]) rfl dX12_put_32 ?_
      refine G_iload 34 hC rfl dX12_put_34 ?_
      first | refine G_if_eq_b 36 45 hC dX12_put_36 (by decide) (fun h36 => ?_) (fun h36 => ?_) | refine G_if_eq 36 45 hC dX12_put_36 (by decide) (fun h36 => ?_) (fun h36 => ?_)
      · exact absurd h36 hf
      · refine G_bipush 39 hC (-10) (by decide) dX12_put_39 ?_
        refine G_iload 41 hC rfl dX12_put_41 ?_
        refine G_isub 43 hC dX12_put_43 ?_
        refine R_i 44 hR (by first | rfl | exact narrow_bI _) dX12_put_44 (Nat.le_refl _) (Nat.le_refl _) ?_
        exact ⟨rfl, rfl, rfl, rfl⟩
    · exact absurd h19 hst
  · exact absurd (inR_nI hg (by omega)) h10
theorem n_put_ok (hF : FixR b N) (h0 : r 0 0 = nI 0) {ng : Nat} (hng : r 0 3 = nI ng) (hng2 : ng ≤ 6) {v : Int64} {g0 sz i1 k1 p z gk : Nat} (hg : g0 < ng) (h2 : r 2 g0 = nI sz) (hz : sz ≤ 12) (hpl : PlOk r g0 sz) (hst : ¬ n 246 = 1) (hi1 : i1 < sz) (hp : r 3 (20 * g0 + i1) = nI p) (hp2 : p < 600) (hq : r 4 p = nI z) (hq2 : z ≤ 12) (hk1 : k1 < z) (hgk : r 1 g0 = nI gk) (hgk2 : gk ≤ 5) : Cq l D B mX12_put [vr (some (b + 0)), vi (nI g0), vi (nI i1), vi (nI k1), vl v] (RI b r n G) (RLg b rl S q GL) N (some (vi (nI 1))) (RI b r n G) (RLg b (upd2 rl 5 (12 * p + k1) (F_ak gk v)) S q GL) := by
  refine Ct.of (M := mX12_put) (by decide) (Nat.le_of_ble_eq_true rfl) (fun g (hR : Cr l D B RX12 cX12_put 7 "put" { frames := 3, cells := 0, slots := 0, locals := 68 } (some .int) 0 0 _ g) => ?_)
  have hC := hR.cx
  show g 0 [some (vr (some (b + 0))), some (vi (nI g0)), some (vi (nI i1)), some (vi (nI k1)), some (vl v), none, none] [] _ _ N 0 0
  refine G_aload_n 0 hC rfl dX12_put_0 ?_
  refine G_iconst 1 hC (nI 0) (by decide) dX12_put_1 ?_
  refine N_thr 2 hC hF h0 (fp_X12_96_11 _) dX12_put_2 ?_
  refine G_aload_n 5 hC rfl dX12_put_5 ?_
  refine G_iload_n 6 hC rfl dX12_put_6 ?_
  refine G_callV1 7 hC (n_isGrid hF hng hng2) okX12_isGrid lk_X12_122 ((hF.sh (o := 0) rfl (by decide)).1) rfl rfl rfl rfl (Nat.le_of_ble_eq_true rfl) (by decide) (by decide) dX12_put_7 ?_
  first | refine G_if_ne_b 10 15 hC dX12_put_10 (by decide) (fun h10 => ?_) (fun h10 => ?_) | refine G_if_ne 10 15 hC dX12_put_10 (by decide) (fun h10 => ?_) (fun h10 => ?_)
  · refine G_aload_n 15 hC rfl dX12_put_15 ?_
    refine G_callV1 16 hC (n_isOpen hF) okX12_isOpen lk_X12_114 ((hF.sh (o := 0) rfl (by decide)).1) rfl rfl rfl rfl (Nat.le_of_ble_eq_true rfl) (by decide) (by decide) dX12_put_16 ?_
    first | refine G_if_eq_b 19 25 hC dX12_put_19 (by decide) (fun h19 => ?_) (fun h19 => ?_) | refine G_if_eq 19 25 hC dX12_put_19 (by decide) (fun h19 => ?_) (fun h19 => ?_)
    · refine G_aload_n 25 hC rfl dX12_put_25 ?_
      refine G_iload_n 26 hC rfl dX12_put_26 ?_
      refine G_iload_n 27 hC rfl dX12_put_27 ?_
      refine G_iload_n 28 hC rfl dX12_put_28 ?_
      refine G_callV1 29 hC (n_against hF (by omega) h2 hz hpl) okX12_against lk_X12_133 ((hF.sh (o := 0) rfl (by decide)).1) rfl rfl rfl rfl (Nat.le_of_ble_eq_true rfl) (by decide) (by decide) dX12_put_29 ?_
      refine G_istore 32 hC (by decide) (ls' := [_, _, _, _, _, _, _]) rfl dX12_put_32 ?_
      refine G_iload 34 hC rfl dX12_put_34 ?_
      first | refine G_if_eq_b 36 45 hC dX12_put_36 (by decide) (fun h36 => ?_) (fun h36 => ?_) | refine G_if_eq 36 45 hC dX12_put_36 (by decide) (fun h36 => ?_) (fun h36 => ?_)
      · refine G_aload_n 45 hC rfl dX12_put_45 ?_
        refine M_getR 46 hC hF fl_X12_22_11 rfl rfl dX12_put_46 ?_
        refine G_bipush 49 hC (nI 12) (by decide) dX12_put_49 ?_
        refine G_aload_n 51 hC rfl dX12_put_51 ?_
        refine M_getR 52 hC hF fl_X12_16_11 rfl rfl dX12_put_52 ?_
        refine G_bipush 55 hC (nI 20) (by decide) dX12_put_55 ?_
        refine G_iload_n 57 hC rfl dX12_put_57 ?_
        refine G_imulN 58 hC dX12_put_58 ?_
        refine G_iload_n 59 hC rfl dX12_put_59 ?_
        refine G_iaddN 60 hC dX12_put_60 ?_
        refine N_ialdO 61 hC hF rfl (by decide) (by decide) rfl (by omega) dX12_put_61 ?_
        rw [hp]
        refine G_imulN 62 hC dX12_put_62 ?_
        refine G_iload_n 63 hC rfl dX12_put_63 ?_
        refine G_iaddN 64 hC dX12_put_64 ?_
        refine G_aload_n 65 hC rfl dX12_put_65 ?_
        refine M_getR 66 hC hF fl_X12_7_11 rfl rfl dX12_put_66 ?_
        refine G_iload_n 69 hC rfl dX12_put_69 ?_
        refine N_ialdO 70 hC hF rfl (by decide) (by decide) rfl (by omega) dX12_put_70 ?_
        rw [hgk]
        refine G_lload 71 hC rfl dX12_put_71 ?_
        refine G_callS1 73 hC (ref_asKind hgk2) okX12_asKind lk_X12_137 rfl rfl rfl (Nat.le_of_ble_eq_true rfl) (by decide) (by decide) dX12_put_73 ?_
        refine Q_lastO 76 hC hF rfl (by decide) (by decide) (by decide) rfl (by omega) dX12_put_76 ?_
        refine G_iconst 77 hC (nI 1) (by decide) dX12_put_77 ?_
        refine R_i 78 hR (by first | rfl | exact narrow_bI _) dX12_put_78 (Nat.le_refl _) (Nat.le_refl _) ?_
        exact ⟨rfl, rfl, rfl, rfl⟩
      · exact absurd (by rw [F_ag_ln h2 hz hi1 hp2 hp hq2 hq, if_pos (inR_nI hk1 (by omega))]; rfl) h36
    · exact absurd h19 hst
  · exact absurd (inR_nI hg (by omega)) h10
theorem n_item_bad (hF : FixR b N) (h0 : r 0 0 = nI 0) {ng : Nat} (hng : r 0 3 = nI ng) (hng2 : ng ≤ 6) {x kd y k : Int32} (hx : ¬ inR x ng) : Cq l D B mX12_item [vr (some (b + 0)), vi x, vi kd, vi y, vi k] (RI b r n G) (RLg b rl S q GL) N (some (vl (-9223372036854775808))) (RI b r n G) (RLg b rl S q GL) := by
  refine Ct.of (M := mX12_item) (by decide) (Nat.le_of_ble_eq_true rfl) (fun g (hR : Cr l D B RX12 cX12_item 5 "item" { frames := 3, cells := 0, slots := 0, locals := 68 } (some .long) 0 0 _ g) => ?_)
  have hC := hR.cx
  show g 0 [some (vr (some (b + 0))), some (vi x), some (vi kd), some (vi y), some (vi k)] [] _ _ N 0 0
  refine G_aload_n 0 hC rfl dX12_item_0 ?_
  refine G_iconst 1 hC (nI 0) (by decide) dX12_item_1 ?_
  refine N_thr 2 hC hF h0 (fp_X12_96_11 _) dX12_item_2 ?_
  refine G_aload_n 5 hC rfl dX12_item_5 ?_
  refine G_iload_n 6 hC rfl dX12_item_6 ?_
  refine G_callV1 7 hC (n_isGrid hF hng hng2) okX12_isGrid lk_X12_122 ((hF.sh (o := 0) rfl (by decide)).1) rfl rfl rfl rfl (Nat.le_of_ble_eq_true rfl) (by decide) (by decide) dX12_item_7 ?_
  first | refine G_if_eq_b 10 34 hC dX12_item_10 (by decide) (fun h10 => ?_) (fun h10 => ?_) | refine G_if_eq 10 34 hC dX12_item_10 (by decide) (fun h10 => ?_) (fun h10 => ?_)
  · refine G_ldc2 34 hC kc_X12_99 dX12_item_34 ?_
    refine R_l 37 hR dX12_item_37 (Nat.le_refl _) (Nat.le_refl _) ?_
    exact ⟨rfl, rfl, rfl, rfl⟩
  · exact absurd h10 hx
theorem n_item_cast (hF : FixR b N) (h0 : r 0 0 = nI 0) {ng : Nat} (hng : r 0 3 = nI ng) (hng2 : ng ≤ 6) {kd y k : Int32} {g0 sz : Nat} (hg : g0 < ng) (h2 : r 2 g0 = nI sz) (hz : sz ≤ 12) (hpl : PlOk r g0 sz) (hkd : ¬ kd = r 1 g0) : Cq l D B mX12_item [vr (some (b + 0)), vi (nI g0), vi kd, vi y, vi k] (RI b r n G) (RLg b rl S q GL) N (some (vl (-9223372036854775808))) (RI b r n G) (RLg b rl S q GL) := by
  refine Ct.of (M := mX12_item) (by decide) (Nat.le_of_ble_eq_true rfl) (fun g (hR : Cr l D B RX12 cX12_item 5 "item" { frames := 3, cells := 0, slots := 0, locals := 68 } (some .long) 0 0 _ g) => ?_)
  have hC := hR.cx
  show g 0 [some (vr (some (b + 0))), some (vi (nI g0)), some (vi kd), some (vi y), some (vi k)] [] _ _ N 0 0
  refine G_aload_n 0 hC rfl dX12_item_0 ?_
  refine G_iconst 1 hC (nI 0) (by decide) dX12_item_1 ?_
  refine N_thr 2 hC hF h0 (fp_X12_96_11 _) dX12_item_2 ?_
  refine G_aload_n 5 hC rfl dX12_item_5 ?_
  refine G_iload_n 6 hC rfl dX12_item_6 ?_
  refine G_callV1 7 hC (n_isGrid hF hng hng2) okX12_isGrid lk_X12_122 ((hF.sh (o := 0) rfl (by decide)).1) rfl rfl rfl rfl (Nat.le_of_ble_eq_true rfl) (by decide) (by decide) dX12_item_7 ?_
  first | refine G_if_eq_b 10 34 hC dX12_item_10 (by decide) (fun h10 => ?_) (fun h10 => ?_) | refine G_if_eq 10 34 hC dX12_item_10 (by decide) (fun h10 => ?_) (fun h10 => ?_)
  · exact absurd (inR_nI hg (by omega)) h10
  · refine G_iload_n 13 hC rfl dX12_item_13 ?_
    refine G_aload_n 14 hC rfl dX12_item_14 ?_
    refine M_getR 15 hC hF fl_X12_7_11 rfl rfl dX12_item_15 ?_
    refine G_iload_n 18 hC rfl dX12_item_18 ?_
    refine N_ialdO 19 hC hF rfl (by decide) (by decide) rfl (by omega) dX12_item_19 ?_
    refine G_icmp_ne 20 34 hC dX12_item_20 (by decide) (fun h20 => ?_) (fun h20 => ?_)
    · refine G_ldc2 34 hC kc_X12_99 dX12_item_34 ?_
      refine R_l 37 hR dX12_item_37 (Nat.le_refl _) (Nat.le_refl _) ?_
      exact ⟨rfl, rfl, rfl, rfl⟩
    · exact absurd h20 hkd
theorem n_item_fault (hF : FixR b N) (h0 : r 0 0 = nI 0) {ng : Nat} (hng : r 0 3 = nI ng) (hng2 : ng ≤ 6) {kd y k : Int32} {g0 sz : Nat} (hg : g0 < ng) (h2 : r 2 g0 = nI sz) (hz : sz ≤ 12) (hpl : PlOk r g0 sz) (hkd : kd = r 1 g0) (hf : ¬ F_ag r g0 y k = 0) : Cq l D B mX12_item [vr (some (b + 0)), vi (nI g0), vi kd, vi y, vi k] (RI b r n G) (RLg b rl S q GL) N (some (vl (-9223372036854775808))) (RI b r n G) (RLg b rl S q GL) := by
  refine Ct.of (M := mX12_item) (by decide) (Nat.le_of_ble_eq_true rfl) (fun g (hR : Cr l D B RX12 cX12_item 5 "item" { frames := 3, cells := 0, slots := 0, locals := 68 } (some .long) 0 0 _ g) => ?_)
  have hC := hR.cx
  show g 0 [some (vr (some (b + 0))), some (vi (nI g0)), some (vi kd), some (vi y), some (vi k)] [] _ _ N 0 0
  refine G_aload_n 0 hC rfl dX12_item_0 ?_
  refine G_iconst 1 hC (nI 0) (by decide) dX12_item_1 ?_
  refine N_thr 2 hC hF h0 (fp_X12_96_11 _) dX12_item_2 ?_
  refine G_aload_n 5 hC rfl dX12_item_5 ?_
  refine G_iload_n 6 hC rfl dX12_item_6 ?_
  refine G_callV1 7 hC (n_isGrid hF hng hng2) okX12_isGrid lk_X12_122 ((hF.sh (o := 0) rfl (by decide)).1) rfl rfl rfl rfl (Nat.le_of_ble_eq_true rfl) (by decide) (by decide) dX12_item_7 ?_
  first | refine G_if_eq_b 10 34 hC dX12_item_10 (by decide) (fun h10 => ?_) (fun h10 => ?_) | refine G_if_eq 10 34 hC dX12_item_10 (by decide) (fun h10 => ?_) (fun h10 => ?_)
  · exact absurd (inR_nI hg (by omega)) h10
  · refine G_iload_n 13 hC rfl dX12_item_13 ?_
    refine G_aload_n 14 hC rfl dX12_item_14 ?_
    refine M_getR 15 hC hF fl_X12_7_11 rfl rfl dX12_item_15 ?_
    refine G_iload_n 18 hC rfl dX12_item_18 ?_
    refine N_ialdO 19 hC hF rfl (by decide) (by decide) rfl (by omega) dX12_item_19 ?_
    refine G_icmp_ne 20 34 hC dX12_item_20 (by decide) (fun h20 => ?_) (fun h20 => ?_)
    · exact absurd hkd h20
    · refine G_aload_n 23 hC rfl dX12_item_23 ?_
      refine G_iload_n 24 hC rfl dX12_item_24 ?_
      refine G_iload_n 25 hC rfl dX12_item_25 ?_
      refine G_iload 26 hC rfl dX12_item_26 ?_
      refine G_callV1 28 hC (n_against hF (by omega) h2 hz hpl) okX12_against lk_X12_133 ((hF.sh (o := 0) rfl (by decide)).1) rfl rfl rfl rfl (Nat.le_of_ble_eq_true rfl) (by decide) (by decide) dX12_item_28 ?_
      first | refine G_if_eq_b 31 38 hC dX12_item_31 (by decide) (fun h31 => ?_) (fun h31 => ?_) | refine G_if_eq 31 38 hC dX12_item_31 (by decide) (fun h31 => ?_) (fun h31 => ?_)
      · exact absurd h31 hf
      · refine G_ldc2 34 hC kc_X12_99 dX12_item_34 ?_
        refine R_l 37 hR dX12_item_37 (Nat.le_refl _) (Nat.le_refl _) ?_
        exact ⟨rfl, rfl, rfl, rfl⟩
theorem n_item_ok (hF : FixR b N) (h0 : r 0 0 = nI 0) {ng : Nat} (hng : r 0 3 = nI ng) (hng2 : ng ≤ 6) {kd : Int32} {g0 sz i1 k1 p z : Nat} (hg : g0 < ng) (h2 : r 2 g0 = nI sz) (hz : sz ≤ 12) (hpl : PlOk r g0 sz) (hkd : kd = r 1 g0) (hi1 : i1 < sz) (hp : r 3 (20 * g0 + i1) = nI p) (hp2 : p < 600) (hq : r 4 p = nI z) (hq2 : z ≤ 12) (hk1 : k1 < z) : Cq l D B mX12_item [vr (some (b + 0)), vi (nI g0), vi kd, vi (nI i1), vi (nI k1)] (RI b r n G) (RLg b rl S q GL) N (some (vl (rl 5 (12 * p + k1)))) (RI b r n G) (RLg b rl S q GL) := by
  refine Ct.of (M := mX12_item) (by decide) (Nat.le_of_ble_eq_true rfl) (fun g (hR : Cr l D B RX12 cX12_item 5 "item" { frames := 3, cells := 0, slots := 0, locals := 68 } (some .long) 0 0 _ g) => ?_)
  have hC := hR.cx
  show g 0 [some (vr (some (b + 0))), some (vi (nI g0)), some (vi kd), some (vi (nI i1)), some (vi (nI k1))] [] _ _ N 0 0
  refine G_aload_n 0 hC rfl dX12_item_0 ?_
  refine G_iconst 1 hC (nI 0) (by decide) dX12_item_1 ?_
  refine N_thr 2 hC hF h0 (fp_X12_96_11 _) dX12_item_2 ?_
  refine G_aload_n 5 hC rfl dX12_item_5 ?_
  refine G_iload_n 6 hC rfl dX12_item_6 ?_
  refine G_callV1 7 hC (n_isGrid hF hng hng2) okX12_isGrid lk_X12_122 ((hF.sh (o := 0) rfl (by decide)).1) rfl rfl rfl rfl (Nat.le_of_ble_eq_true rfl) (by decide) (by decide) dX12_item_7 ?_
  first | refine G_if_eq_b 10 34 hC dX12_item_10 (by decide) (fun h10 => ?_) (fun h10 => ?_) | refine G_if_eq 10 34 hC dX12_item_10 (by decide) (fun h10 => ?_) (fun h10 => ?_)
  · exact absurd (inR_nI hg (by omega)) h10
  · refine G_iload_n 13 hC rfl dX12_item_13 ?_
    refine G_aload_n 14 hC rfl dX12_item_14 ?_
    refine M_getR 15 hC hF fl_X12_7_11 rfl rfl dX12_item_15 ?_
    refine G_iload_n 18 hC rfl dX12_item_18 ?_
    refine N_ialdO 19 hC hF rfl (by decide) (by decide) rfl (by omega) dX12_item_19 ?_
    refine G_icmp_ne 20 34 hC dX12_item_20 (by decide) (fun h20 => ?_) (fun h20 => ?_)
    · exact absurd hkd h20
    · refine G_aload_n 23 hC rfl dX12_item_23 ?_
      refine G_iload_n 24 hC rfl dX12_item_24 ?_
      refine G_iload_n 25 hC rfl dX12_item_25 ?_
      refine G_iload 26 hC rfl dX12_item_26 ?_
      refine G_callV1 28 hC (n_against hF (by omega) h2 hz hpl) okX12_against lk_X12_133 ((hF.sh (o := 0) rfl (by decide)).1) rfl rfl rfl rfl (Nat.le_of_ble_eq_true rfl) (by decide) (by decide) dX12_item_28 ?_
      first | refine G_if_eq_b 31 38 hC dX12_item_31 (by decide) (fun h31 => ?_) (fun h31 => ?_) | refine G_if_eq 31 38 hC dX12_item_31 (by decide) (fun h31 => ?_) (fun h31 => ?_)
      · refine G_aload_n 38 hC rfl dX12_item_38 ?_
        refine M_getR 39 hC hF fl_X12_22_11 rfl rfl dX12_item_39 ?_
        refine G_bipush 42 hC (nI 12) (by decide) dX12_item_42 ?_
        refine G_aload_n 44 hC rfl dX12_item_44 ?_
        refine M_getR 45 hC hF fl_X12_16_11 rfl rfl dX12_item_45 ?_
        refine G_bipush 48 hC (nI 20) (by decide) dX12_item_48 ?_
        refine G_iload_n 50 hC rfl dX12_item_50 ?_
        refine G_imulN 51 hC dX12_item_51 ?_
        refine G_iload_n 52 hC rfl dX12_item_52 ?_
        refine G_iaddN 53 hC dX12_item_53 ?_
        refine N_ialdO 54 hC hF rfl (by decide) (by decide) rfl (by omega) dX12_item_54 ?_
        rw [hp]
        refine G_imulN 55 hC dX12_item_55 ?_
        refine G_iload 56 hC rfl dX12_item_56 ?_
        refine G_iaddN 58 hC dX12_item_58 ?_
        refine Q_laldO 59 hC hF rfl (by decide) (by decide) (by decide) rfl (by omega) dX12_item_59 ?_
        refine R_l 60 hR dX12_item_60 (Nat.le_refl _) (Nat.le_refl _) ?_
        exact ⟨rfl, rfl, rfl, rfl⟩
      · exact absurd (by rw [F_ag_ln h2 hz hi1 hp2 hp hq2 hq, if_pos (inR_nI hk1 (by omega))]; rfl) h31
theorem n_lay_bad (hF : FixR b N) (h0 : r 0 0 = nI 0) {ng : Nat} (hng : r 0 3 = nI ng) (hng2 : ng ≤ 6) {x y f w : Int32} (hb : ¬ (inR x ng ∧ inR f ng)) : Cq l D B mX12_lay [vr (some (b + 0)), vi x, vi y, vi f, vi w] (RI b r n G) L N (some (vi (-1))) (RI b r n G) L := by
  refine Ct.of (M := mX12_lay) (by decide) (Nat.le_of_ble_eq_true rfl) (fun g (hR : Cr l D B RX12 cX12_lay 6 "lay" { frames := 2, cells := 0, slots := 0, locals := 44 } (some .int) 0 0 _ g) => ?_)
  have hC := hR.cx
  show g 0 [some (vr (some (b + 0))), some (vi x), some (vi y), some (vi f), some (vi w), none] [] _ _ N 0 0
  refine G_aload_n 0 hC rfl dX12_lay_0 ?_
  refine G_iconst 1 hC (nI 0) (by decide) dX12_lay_1 ?_
  refine N_thr 2 hC hF h0 (fp_X12_96_11 _) dX12_lay_2 ?_
  refine G_aload_n 5 hC rfl dX12_lay_5 ?_
  refine G_iload_n 6 hC rfl dX12_lay_6 ?_
  refine G_callV1 7 hC (n_isGrid hF hng hng2) okX12_isGrid lk_X12_122 ((hF.sh (o := 0) rfl (by decide)).1) rfl rfl rfl rfl (Nat.le_of_ble_eq_true rfl) (by decide) (by decide) dX12_lay_7 ?_
  first | refine G_if_eq_b 10 21 hC dX12_lay_10 (by decide) (fun h10 => ?_) (fun h10 => ?_) | refine G_if_eq 10 21 hC dX12_lay_10 (by decide) (fun h10 => ?_) (fun h10 => ?_)
  · refine G_iconst 21 hC (-1) (by decide) dX12_lay_21 ?_
    refine R_i 22 hR (by first | rfl | exact narrow_bI _) dX12_lay_22 (Nat.le_refl _) (Nat.le_refl _) ?_
    exact ⟨rfl, rfl, rfl, rfl⟩
  · refine G_aload_n 13 hC rfl dX12_lay_13 ?_
    refine G_iload_n 14 hC rfl dX12_lay_14 ?_
    refine G_callV1 15 hC (n_isGrid hF hng hng2) okX12_isGrid lk_X12_122 ((hF.sh (o := 0) rfl (by decide)).1) rfl rfl rfl rfl (Nat.le_of_ble_eq_true rfl) (by decide) (by decide) dX12_lay_15 ?_
    first | refine G_if_ne_b 18 23 hC dX12_lay_18 (by decide) (fun h18 => ?_) (fun h18 => ?_) | refine G_if_ne 18 23 hC dX12_lay_18 (by decide) (fun h18 => ?_) (fun h18 => ?_)
    · exact absurd ⟨h10, h18⟩ hb
    · refine G_iconst 21 hC (-1) (by decide) dX12_lay_21 ?_
      refine R_i 22 hR (by first | rfl | exact narrow_bI _) dX12_lay_22 (Nat.le_refl _) (Nat.le_refl _) ?_
      exact ⟨rfl, rfl, rfl, rfl⟩
theorem n_lay_state (hF : FixR b N) (h0 : r 0 0 = nI 0) {ng : Nat} (hng : r 0 3 = nI ng) (hng2 : ng ≤ 6) {x y f w : Int32} (hok : inR x ng ∧ inR f ng) (hst : n 246 = 1) : Cq l D B mX12_lay [vr (some (b + 0)), vi x, vi y, vi f, vi w] (RI b r n G) L N (some (vi (-2))) (RI b r n G) L := by
  refine Ct.of (M := mX12_lay) (by decide) (Nat.le_of_ble_eq_true rfl) (fun g (hR : Cr l D B RX12 cX12_lay 6 "lay" { frames := 2, cells := 0, slots := 0, locals := 44 } (some .int) 0 0 _ g) => ?_)
  have hC := hR.cx
  show g 0 [some (vr (some (b + 0))), some (vi x), some (vi y), some (vi f), some (vi w), none] [] _ _ N 0 0
  refine G_aload_n 0 hC rfl dX12_lay_0 ?_
  refine G_iconst 1 hC (nI 0) (by decide) dX12_lay_1 ?_
  refine N_thr 2 hC hF h0 (fp_X12_96_11 _) dX12_lay_2 ?_
  refine G_aload_n 5 hC rfl dX12_lay_5 ?_
  refine G_iload_n 6 hC rfl dX12_lay_6 ?_
  refine G_callV1 7 hC (n_isGrid hF hng hng2) okX12_isGrid lk_X12_122 ((hF.sh (o := 0) rfl (by decide)).1) rfl rfl rfl rfl (Nat.le_of_ble_eq_true rfl) (by decide) (by decide) dX12_lay_7 ?_
  first | refine G_if_eq_b 10 21 hC dX12_lay_10 (by decide) (fun h10 => ?_) (fun h10 => ?_) | refine G_if_eq 10 21 hC dX12_lay_10 (by decide) (fun h10 => ?_) (fun h10 => ?_)
  · exact absurd hok.1 h10
  · refine G_aload_n 13 hC rfl dX12_lay_13 ?_
    refine G_iload_n 14 hC rfl dX12_lay_14 ?_
    refine G_callV1 15 hC (n_isGrid hF hng hng2) okX12_isGrid lk_X12_122 ((hF.sh (o := 0) rfl (by decide)).1) rfl rfl rfl rfl (Nat.le_of_ble_eq_true rfl) (by decide) (by decide) dX12_lay_15 ?_
    first | refine G_if_ne_b 18 23 hC dX12_lay_18 (by decide) (fun h18 => ?_) (fun h18 => ?_) | refine G_if_ne 18 23 hC dX12_lay_18 (by decide) (fun h18 => ?_) (fun h18 => ?_)
    · refine G_aload_n 23 hC rfl dX12_lay_23 ?_
      refine G_callV1 24 hC (n_isOpen hF) okX12_isOpen lk_X12_114 ((hF.sh (o := 0) rfl (by decide)).1) rfl rfl rfl rfl (Nat.le_of_ble_eq_true rfl) (by decide) (by decide) dX12_lay_24 ?_
      first | refine G_if_eq_b 27 33 hC dX12_lay_27 (by decide) (fun h27 => ?_) (fun h27 => ?_) | refine G_if_eq 27 33 hC dX12_lay_27 (by decide) (fun h27 => ?_) (fun h27 => ?_)
      · exact absurd hst h27
      · refine G_bipush 30 hC (-2) (by decide) dX12_lay_30 ?_
        refine R_i 32 hR (by first | rfl | exact narrow_bI _) dX12_lay_32 (Nat.le_refl _) (Nat.le_refl _) ?_
        exact ⟨rfl, rfl, rfl, rfl⟩
    · exact absurd hok.2 h18
theorem n_lay_index (hF : FixR b N) (h0 : r 0 0 = nI 0) {ng : Nat} (hng : r 0 3 = nI ng) (hng2 : ng ≤ 6) {y w : Int32} {g0 f0 sz sf : Nat} (hg : g0 < ng) (hf : f0 < ng) (h2 : r 2 g0 = nI sz) (hz : sz ≤ 12) (h2f : r 2 f0 = nI sf) (hzf : sf ≤ 12) (hst : ¬ n 246 = 1) (hix : ¬ (inR w sf ∧ inR y sz)) : Cq l D B mX12_lay [vr (some (b + 0)), vi (nI g0), vi y, vi (nI f0), vi w] (RI b r n G) L N (some (vi (-12))) (RI b r n G) L := by
  refine Ct.of (M := mX12_lay) (by decide) (Nat.le_of_ble_eq_true rfl) (fun g (hR : Cr l D B RX12 cX12_lay 6 "lay" { frames := 2, cells := 0, slots := 0, locals := 44 } (some .int) 0 0 _ g) => ?_)
  have hC := hR.cx
  show g 0 [some (vr (some (b + 0))), some (vi (nI g0)), some (vi y), some (vi (nI f0)), some (vi w), none] [] _ _ N 0 0
  refine G_aload_n 0 hC rfl dX12_lay_0 ?_
  refine G_iconst 1 hC (nI 0) (by decide) dX12_lay_1 ?_
  refine N_thr 2 hC hF h0 (fp_X12_96_11 _) dX12_lay_2 ?_
  refine G_aload_n 5 hC rfl dX12_lay_5 ?_
  refine G_iload_n 6 hC rfl dX12_lay_6 ?_
  refine G_callV1 7 hC (n_isGrid hF hng hng2) okX12_isGrid lk_X12_122 ((hF.sh (o := 0) rfl (by decide)).1) rfl rfl rfl rfl (Nat.le_of_ble_eq_true rfl) (by decide) (by decide) dX12_lay_7 ?_
  first | refine G_if_eq_b 10 21 hC dX12_lay_10 (by decide) (fun h10 => ?_) (fun h10 => ?_) | refine G_if_eq 10 21 hC dX12_lay_10 (by decide) (fun h10 => ?_) (fun h10 => ?_)
  · exact absurd (inR_nI hg (by omega)) h10
  · refine G_aload_n 13 hC rfl dX12_lay_13 ?_
    refine G_iload_n 14 hC rfl dX12_lay_14 ?_
    refine G_callV1 15 hC (n_isGrid hF hng hng2) okX12_isGrid lk_X12_122 ((hF.sh (o := 0) rfl (by decide)).1) rfl rfl rfl rfl (Nat.le_of_ble_eq_true rfl) (by decide) (by decide) dX12_lay_15 ?_
    first | refine G_if_ne_b 18 23 hC dX12_lay_18 (by decide) (fun h18 => ?_) (fun h18 => ?_) | refine G_if_ne 18 23 hC dX12_lay_18 (by decide) (fun h18 => ?_) (fun h18 => ?_)
    · refine G_aload_n 23 hC rfl dX12_lay_23 ?_
      refine G_callV1 24 hC (n_isOpen hF) okX12_isOpen lk_X12_114 ((hF.sh (o := 0) rfl (by decide)).1) rfl rfl rfl rfl (Nat.le_of_ble_eq_true rfl) (by decide) (by decide) dX12_lay_24 ?_
      first | refine G_if_eq_b 27 33 hC dX12_lay_27 (by decide) (fun h27 => ?_) (fun h27 => ?_) | refine G_if_eq 27 33 hC dX12_lay_27 (by decide) (fun h27 => ?_) (fun h27 => ?_)
      · refine G_aload_n 33 hC rfl dX12_lay_33 ?_
        refine G_iload_n 34 hC rfl dX12_lay_34 ?_
        refine G_iload 35 hC rfl dX12_lay_35 ?_
        refine G_callV1 37 hC (n_isLine hF (by omega) h2f (by omega)) okX12_isLine lk_X12_126 ((hF.sh (o := 0) rfl (by decide)).1) rfl rfl rfl rfl (Nat.le_of_ble_eq_true rfl) (by decide) (by decide) dX12_lay_37 ?_
        first | refine G_if_eq_b 40 52 hC dX12_lay_40 (by decide) (fun h40 => ?_) (fun h40 => ?_) | refine G_if_eq 40 52 hC dX12_lay_40 (by decide) (fun h40 => ?_) (fun h40 => ?_)
        · refine G_bipush 52 hC (-12) (by decide) dX12_lay_52 ?_
          refine R_i 54 hR (by first | rfl | exact narrow_bI _) dX12_lay_54 (Nat.le_refl _) (Nat.le_refl _) ?_
          exact ⟨rfl, rfl, rfl, rfl⟩
        · refine G_aload_n 43 hC rfl dX12_lay_43 ?_
          refine G_iload_n 44 hC rfl dX12_lay_44 ?_
          refine G_iload_n 45 hC rfl dX12_lay_45 ?_
          refine G_callV1 46 hC (n_isLine hF (by omega) h2 (by omega)) okX12_isLine lk_X12_126 ((hF.sh (o := 0) rfl (by decide)).1) rfl rfl rfl rfl (Nat.le_of_ble_eq_true rfl) (by decide) (by decide) dX12_lay_46 ?_
          first | refine G_if_ne_b 49 55 hC dX12_lay_49 (by decide) (fun h49 => ?_) (fun h49 => ?_) | refine G_if_ne 49 55 hC dX12_lay_49 (by decide) (fun h49 => ?_) (fun h49 => ?_)
          · exact absurd ⟨h40, h49⟩ hix
          · refine G_bipush 52 hC (-12) (by decide) dX12_lay_52 ?_
            refine R_i 54 hR (by first | rfl | exact narrow_bI _) dX12_lay_54 (Nat.le_refl _) (Nat.le_refl _) ?_
            exact ⟨rfl, rfl, rfl, rfl⟩
      · exact absurd h27 hst
    · exact absurd (inR_nI hf (by omega)) h18
theorem n_lay_store (hF : FixR b N) (h0 : r 0 0 = nI 0) {ng : Nat} (hng : r 0 3 = nI ng) (hng2 : ng ≤ 6) {g0 f0 sz sf i1 j1 : Nat} (hg : g0 < ng) (hf : f0 < ng) (h2 : r 2 g0 = nI sz) (hz : sz ≤ 12) (h2f : r 2 f0 = nI sf) (hzf : sf ≤ 12) (hst : ¬ n 246 = 1) (hi1 : i1 < sz) (hj1 : j1 < sf) (hnn : ¬ r 3 (20 * f0 + j1) < 0) (hkd : ¬ r 1 g0 = r 1 f0) : Cq l D B mX12_lay [vr (some (b + 0)), vi (nI g0), vi (nI i1), vi (nI f0), vi (nI j1)] (RI b r n G) L N (some (vi (-14))) (RI b r n G) L := by
  refine Ct.of (M := mX12_lay) (by decide) (Nat.le_of_ble_eq_true rfl) (fun g (hR : Cr l D B RX12 cX12_lay 6 "lay" { frames := 2, cells := 0, slots := 0, locals := 44 } (some .int) 0 0 _ g) => ?_)
  have hC := hR.cx
  show g 0 [some (vr (some (b + 0))), some (vi (nI g0)), some (vi (nI i1)), some (vi (nI f0)), some (vi (nI j1)), none] [] _ _ N 0 0
  refine G_aload_n 0 hC rfl dX12_lay_0 ?_
  refine G_iconst 1 hC (nI 0) (by decide) dX12_lay_1 ?_
  refine N_thr 2 hC hF h0 (fp_X12_96_11 _) dX12_lay_2 ?_
  refine G_aload_n 5 hC rfl dX12_lay_5 ?_
  refine G_iload_n 6 hC rfl dX12_lay_6 ?_
  refine G_callV1 7 hC (n_isGrid hF hng hng2) okX12_isGrid lk_X12_122 ((hF.sh (o := 0) rfl (by decide)).1) rfl rfl rfl rfl (Nat.le_of_ble_eq_true rfl) (by decide) (by decide) dX12_lay_7 ?_
  first | refine G_if_eq_b 10 21 hC dX12_lay_10 (by decide) (fun h10 => ?_) (fun h10 => ?_) | refine G_if_eq 10 21 hC dX12_lay_10 (by decide) (fun h10 => ?_) (fun h10 => ?_)
  · exact absurd (inR_nI hg (by omega)) h10
  · refine G_aload_n 13 hC rfl dX12_lay_13 ?_
    refine G_iload_n 14 hC rfl dX12_lay_14 ?_
    refine G_callV1 15 hC (n_isGrid hF hng hng2) okX12_isGrid lk_X12_122 ((hF.sh (o := 0) rfl (by decide)).1) rfl rfl rfl rfl (Nat.le_of_ble_eq_true rfl) (by decide) (by decide) dX12_lay_15 ?_
    first | refine G_if_ne_b 18 23 hC dX12_lay_18 (by decide) (fun h18 => ?_) (fun h18 => ?_) | refine G_if_ne 18 23 hC dX12_lay_18 (by decide) (fun h18 => ?_) (fun h18 => ?_)
    · refine G_aload_n 23 hC rfl dX12_lay_23 ?_
      refine G_callV1 24 hC (n_isOpen hF) okX12_isOpen lk_X12_114 ((hF.sh (o := 0) rfl (by decide)).1) rfl rfl rfl rfl (Nat.le_of_ble_eq_true rfl) (by decide) (by decide) dX12_lay_24 ?_
      first | refine G_if_eq_b 27 33 hC dX12_lay_27 (by decide) (fun h27 => ?_) (fun h27 => ?_) | refine G_if_eq 27 33 hC dX12_lay_27 (by decide) (fun h27 => ?_) (fun h27 => ?_)
      · refine G_aload_n 33 hC rfl dX12_lay_33 ?_
        refine G_iload_n 34 hC rfl dX12_lay_34 ?_
        refine G_iload 35 hC rfl dX12_lay_35 ?_
        refine G_callV1 37 hC (n_isLine hF (by omega) h2f (by omega)) okX12_isLine lk_X12_126 ((hF.sh (o := 0) rfl (by decide)).1) rfl rfl rfl rfl (Nat.le_of_ble_eq_true rfl) (by decide) (by decide) dX12_lay_37 ?_
        first | refine G_if_eq_b 40 52 hC dX12_lay_40 (by decide) (fun h40 => ?_) (fun h40 => ?_) | refine G_if_eq 40 52 hC dX12_lay_40 (by decide) (fun h40 => ?_) (fun h40 => ?_)
        · exact absurd (inR_nI hj1 (by omega)) h40
        · refine G_aload_n 43 hC rfl dX12_lay_43 ?_
          refine G_iload_n 44 hC rfl dX12_lay_44 ?_
          refine G_iload_n 45 hC rfl dX12_lay_45 ?_
          refine G_callV1 46 hC (n_isLine hF (by omega) h2 (by omega)) okX12_isLine lk_X12_126 ((hF.sh (o := 0) rfl (by decide)).1) rfl rfl rfl rfl (Nat.le_of_ble_eq_true rfl) (by decide) (by decide) dX12_lay_46 ?_
          first | refine G_if_ne_b 49 55 hC dX12_lay_49 (by decide) (fun h49 => ?_) (fun h49 => ?_) | refine G_if_ne 49 55 hC dX12_lay_49 (by decide) (fun h49 => ?_) (fun h49 => ?_)
          · refine G_aload_n 55 hC rfl dX12_lay_55 ?_
            refine M_getR 56 hC hF fl_X12_16_11 rfl rfl dX12_lay_56 ?_
            refine G_bipush 59 hC (nI 20) (by decide) dX12_lay_59 ?_
            refine G_iload_n 61 hC rfl dX12_lay_61 ?_
            refine G_imulN 62 hC dX12_lay_62 ?_
            refine G_iload 63 hC rfl dX12_lay_63 ?_
            refine G_iaddN 65 hC dX12_lay_65 ?_
            refine N_ialdO 66 hC hF rfl (by decide) (by decide) rfl (by omega) dX12_lay_66 ?_
            refine G_istore 67 hC (by decide) (ls' := [_, _, _, _, _, _]) rfl dX12_lay_67 ?_
            refine G_iload 69 hC rfl dX12_lay_69 ?_
            refine G_if_lt 71 92 hC dX12_lay_71 (by decide) (fun h71 => ?_) (fun h71 => ?_)
            · exact absurd h71 hnn
            · refine G_aload_n 74 hC rfl dX12_lay_74 ?_
              refine M_getR 75 hC hF fl_X12_7_11 rfl rfl dX12_lay_75 ?_
              refine G_iload_n 78 hC rfl dX12_lay_78 ?_
              refine N_ialdO 79 hC hF rfl (by decide) (by decide) rfl (by omega) dX12_lay_79 ?_
              refine G_aload_n 80 hC rfl dX12_lay_80 ?_
              refine M_getR 81 hC hF fl_X12_7_11 rfl rfl dX12_lay_81 ?_
              refine G_iload_n 84 hC rfl dX12_lay_84 ?_
              refine N_ialdO 85 hC hF rfl (by decide) (by decide) rfl (by omega) dX12_lay_85 ?_
              refine G_icmp_eq 86 92 hC dX12_lay_86 (by decide) (fun h86 => ?_) (fun h86 => ?_)
              · exact absurd h86 hkd
              · refine G_bipush 89 hC (-14) (by decide) dX12_lay_89 ?_
                refine R_i 91 hR (by first | rfl | exact narrow_bI _) dX12_lay_91 (Nat.le_refl _) (Nat.le_refl _) ?_
                exact ⟨rfl, rfl, rfl, rfl⟩
          · exact absurd (inR_nI hi1 (by omega)) h49
      · exact absurd h27 hst
    · exact absurd (inR_nI hf (by omega)) h18
theorem n_lay_ok (hF : FixR b N) (h0 : r 0 0 = nI 0) {ng : Nat} (hng : r 0 3 = nI ng) (hng2 : ng ≤ 6) {g0 f0 sz sf i1 j1 : Nat} (hg : g0 < ng) (hf : f0 < ng) (h2 : r 2 g0 = nI sz) (hz : sz ≤ 12) (h2f : r 2 f0 = nI sf) (hzf : sf ≤ 12) (hst : ¬ n 246 = 1) (hi1 : i1 < sz) (hj1 : j1 < sf) (hkd : ¬ r 3 (20 * f0 + j1) < 0 → r 1 g0 = r 1 f0) : Cq l D B mX12_lay [vr (some (b + 0)), vi (nI g0), vi (nI i1), vi (nI f0), vi (nI j1)] (RI b r n G) L N (some (vi (if r 3 (20 * f0 + j1) < 0 then nI 0 else nI 1))) (RI b (upd2 r 3 (20 * g0 + i1) (r 3 (20 * f0 + j1))) n G) L := by
  refine Ct.of (M := mX12_lay) (by decide) (Nat.le_of_ble_eq_true rfl) (fun g (hR : Cr l D B RX12 cX12_lay 6 "lay" { frames := 2, cells := 0, slots := 0, locals := 44 } (some .int) 0 0 _ g) => ?_)
  have hC := hR.cx
  show g 0 [some (vr (some (b + 0))), some (vi (nI g0)), some (vi (nI i1)), some (vi (nI f0)), some (vi (nI j1)), none] [] _ _ N 0 0
  refine G_aload_n 0 hC rfl dX12_lay_0 ?_
  refine G_iconst 1 hC (nI 0) (by decide) dX12_lay_1 ?_
  refine N_thr 2 hC hF h0 (fp_X12_96_11 _) dX12_lay_2 ?_
  refine G_aload_n 5 hC rfl dX12_lay_5 ?_
  refine G_iload_n 6 hC rfl dX12_lay_6 ?_
  refine G_callV1 7 hC (n_isGrid hF hng hng2) okX12_isGrid lk_X12_122 ((hF.sh (o := 0) rfl (by decide)).1) rfl rfl rfl rfl (Nat.le_of_ble_eq_true rfl) (by decide) (by decide) dX12_lay_7 ?_
  first | refine G_if_eq_b 10 21 hC dX12_lay_10 (by decide) (fun h10 => ?_) (fun h10 => ?_) | refine G_if_eq 10 21 hC dX12_lay_10 (by decide) (fun h10 => ?_) (fun h10 => ?_)
  · exact absurd (inR_nI hg (by omega)) h10
  · refine G_aload_n 13 hC rfl dX12_lay_13 ?_
    refine G_iload_n 14 hC rfl dX12_lay_14 ?_
    refine G_callV1 15 hC (n_isGrid hF hng hng2) okX12_isGrid lk_X12_122 ((hF.sh (o := 0) rfl (by decide)).1) rfl rfl rfl rfl (Nat.le_of_ble_eq_true rfl) (by decide) (by decide) dX12_lay_15 ?_
    first | refine G_if_ne_b 18 23 hC dX12_lay_18 (by decide) (fun h18 => ?_) (fun h18 => ?_) | refine G_if_ne 18 23 hC dX12_lay_18 (by decide) (fun h18 => ?_) (fun h18 => ?_)
    · refine G_aload_n 23 hC rfl dX12_lay_23 ?_
      refine G_callV1 24 hC (n_isOpen hF) okX12_isOpen lk_X12_114 ((hF.sh (o := 0) rfl (by decide)).1) rfl rfl rfl rfl (Nat.le_of_ble_eq_true rfl) (by decide) (by decide) dX12_lay_24 ?_
      first | refine G_if_eq_b 27 33 hC dX12_lay_27 (by decide) (fun h27 => ?_) (fun h27 => ?_) | refine G_if_eq 27 33 hC dX12_lay_27 (by decide) (fun h27 => ?_) (fun h27 => ?_)
      · refine G_aload_n 33 hC rfl dX12_lay_33 ?_
        refine G_iload_n 34 hC rfl dX12_lay_34 ?_
        refine G_iload 35 hC rfl dX12_lay_35 ?_
        refine G_callV1 37 hC (n_isLine hF (by omega) h2f (by omega)) okX12_isLine lk_X12_126 ((hF.sh (o := 0) rfl (by decide)).1) rfl rfl rfl rfl (Nat.le_of_ble_eq_true rfl) (by decide) (by decide) dX12_lay_37 ?_
        first | refine G_if_eq_b 40 52 hC dX12_lay_40 (by decide) (fun h40 => ?_) (fun h40 => ?_) | refine G_if_eq 40 52 hC dX12_lay_40 (by decide) (fun h40 => ?_) (fun h40 => ?_)
        · exact absurd (inR_nI hj1 (by omega)) h40
        · refine G_aload_n 43 hC rfl dX12_lay_43 ?_
          refine G_iload_n 44 hC rfl dX12_lay_44 ?_
          refine G_iload_n 45 hC rfl dX12_lay_45 ?_
          refine G_callV1 46 hC (n_isLine hF (by omega) h2 (by omega)) okX12_isLine lk_X12_126 ((hF.sh (o := 0) rfl (by decide)).1) rfl rfl rfl rfl (Nat.le_of_ble_eq_true rfl) (by decide) (by decide) dX12_lay_46 ?_
          first | refine G_if_ne_b 49 55 hC dX12_lay_49 (by decide) (fun h49 => ?_) (fun h49 => ?_) | refine G_if_ne 49 55 hC dX12_lay_49 (by decide) (fun h49 => ?_) (fun h49 => ?_)
          · refine G_aload_n 55 hC rfl dX12_lay_55 ?_
            refine M_getR 56 hC hF fl_X12_16_11 rfl rfl dX12_lay_56 ?_
            refine G_bipush 59 hC (nI 20) (by decide) dX12_lay_59 ?_
            refine G_iload_n 61 hC rfl dX12_lay_61 ?_
            refine G_imulN 62 hC dX12_lay_62 ?_
            refine G_iload 63 hC rfl dX12_lay_63 ?_
            refine G_iaddN 65 hC dX12_lay_65 ?_
            refine N_ialdO 66 hC hF rfl (by decide) (by decide) rfl (by omega) dX12_lay_66 ?_
            refine G_istore 67 hC (by decide) (ls' := [_, _, _, _, _, _]) rfl dX12_lay_67 ?_
            refine G_iload 69 hC rfl dX12_lay_69 ?_
            refine G_if_lt 71 92 hC dX12_lay_71 (by decide) (fun h71 => ?_) (fun h71 => ?_)
            · refine G_aload_n 92 hC rfl dX12_lay_92 ?_
              refine M_getR 93 hC hF fl_X12_16_11 rfl rfl dX12_lay_93 ?_
              refine G_bipush 96 hC (nI 20) (by decide) dX12_lay_96 ?_
              refine G_iload_n 98 hC rfl dX12_lay_98 ?_
              refine G_imulN 99 hC dX12_lay_99 ?_
              refine G_iload_n 100 hC rfl dX12_lay_100 ?_
              refine G_iaddN 101 hC dX12_lay_101 ?_
              refine G_iload 102 hC rfl dX12_lay_102 ?_
              refine N_iastO 104 hC hF rfl (by decide) (by decide) rfl (by omega) dX12_lay_104 ?_
              refine G_iload 105 hC rfl dX12_lay_105 ?_
              refine G_if_ge 107 114 hC dX12_lay_107 (by decide) (fun h107 => ?_) (fun h107 => ?_)
              · refine G_iconst 114 hC (nI 1) (by decide) dX12_lay_114 ?_
                refine R_i 115 hR (by first | rfl | exact narrow_bI _) dX12_lay_115 (Nat.le_refl _) (Nat.le_refl _) ?_
                refine ⟨?_, rfl, rfl, rfl⟩
                first | (rw [if_neg (Int32.not_lt.mpr h107)]; done) | (rw [if_pos (Int32.not_le.mp h107)]; done)
              · refine G_iconst 110 hC (nI 0) (by decide) dX12_lay_110 ?_
                refine G_goto 111 115 hC dX12_lay_111 (by decide) ?_
                refine R_i 115 hR (by first | rfl | exact narrow_bI _) dX12_lay_115 (Nat.le_refl _) (Nat.le_refl _) ?_
                refine ⟨?_, rfl, rfl, rfl⟩
                first | (rw [if_neg (Int32.not_lt.mpr h107)]; done) | (rw [if_pos (Int32.not_le.mp h107)]; done)
            · refine G_aload_n 74 hC rfl dX12_lay_74 ?_
              refine M_getR 75 hC hF fl_X12_7_11 rfl rfl dX12_lay_75 ?_
              refine G_iload_n 78 hC rfl dX12_lay_78 ?_
              refine N_ialdO 79 hC hF rfl (by decide) (by decide) rfl (by omega) dX12_lay_79 ?_
              refine G_aload_n 80 hC rfl dX12_lay_80 ?_
              refine M_getR 81 hC hF fl_X12_7_11 rfl rfl dX12_lay_81 ?_
              refine G_iload_n 84 hC rfl dX12_lay_84 ?_
              refine N_ialdO 85 hC hF rfl (by decide) (by decide) rfl (by omega) dX12_lay_85 ?_
              refine G_icmp_eq 86 92 hC dX12_lay_86 (by decide) (fun h86 => ?_) (fun h86 => ?_)
              · refine G_aload_n 92 hC rfl dX12_lay_92 ?_
                refine M_getR 93 hC hF fl_X12_16_11 rfl rfl dX12_lay_93 ?_
                refine G_bipush 96 hC (nI 20) (by decide) dX12_lay_96 ?_
                refine G_iload_n 98 hC rfl dX12_lay_98 ?_
                refine G_imulN 99 hC dX12_lay_99 ?_
                refine G_iload_n 100 hC rfl dX12_lay_100 ?_
                refine G_iaddN 101 hC dX12_lay_101 ?_
                refine G_iload 102 hC rfl dX12_lay_102 ?_
                refine N_iastO 104 hC hF rfl (by decide) (by decide) rfl (by omega) dX12_lay_104 ?_
                refine G_iload 105 hC rfl dX12_lay_105 ?_
                refine G_if_ge 107 114 hC dX12_lay_107 (by decide) (fun h107 => ?_) (fun h107 => ?_)
                · refine G_iconst 114 hC (nI 1) (by decide) dX12_lay_114 ?_
                  refine R_i 115 hR (by first | rfl | exact narrow_bI _) dX12_lay_115 (Nat.le_refl _) (Nat.le_refl _) ?_
                  refine ⟨?_, rfl, rfl, rfl⟩
                  first | (rw [if_neg (Int32.not_lt.mpr h107)]; done) | (rw [if_pos (Int32.not_le.mp h107)]; done)
                · refine G_iconst 110 hC (nI 0) (by decide) dX12_lay_110 ?_
                  refine G_goto 111 115 hC dX12_lay_111 (by decide) ?_
                  refine R_i 115 hR (by first | rfl | exact narrow_bI _) dX12_lay_115 (Nat.le_refl _) (Nat.le_refl _) ?_
                  refine ⟨?_, rfl, rfl, rfl⟩
                  first | (rw [if_neg (Int32.not_lt.mpr h107)]; done) | (rw [if_pos (Int32.not_le.mp h107)]; done)
              · exact absurd (hkd h71) h86
          · exact absurd (inR_nI hi1 (by omega)) h49
      · exact absurd h27 hst
    · exact absurd (inR_nI hf (by omega)) h18
theorem n_size_bad (hF : FixR b N) (h0 : r 0 0 = nI 0) {ng : Nat} (hng : r 0 3 = nI ng) (hng2 : ng ≤ 6) {x y : Int32} (hx : ¬ inR x ng) : Cq l D B mX12_size [vr (some (b + 0)), vi x, vi y] (RI b r n G) L N (some (vi (-1))) (RI b r n G) L := by
  refine Ct.of (M := mX12_size) (by decide) (Nat.le_of_ble_eq_true rfl) (fun g (hR : Cr l D B RX12 cX12_size 4 "size" { frames := 2, cells := 0, slots := 0, locals := 44 } (some .int) 0 0 _ g) => ?_)
  have hC := hR.cx
  show g 0 [some (vr (some (b + 0))), some (vi x), some (vi y), none] [] _ _ N 0 0
  refine G_aload_n 0 hC rfl dX12_size_0 ?_
  refine G_iconst 1 hC (nI 0) (by decide) dX12_size_1 ?_
  refine N_thr 2 hC hF h0 (fp_X12_96_11 _) dX12_size_2 ?_
  refine G_aload_n 5 hC rfl dX12_size_5 ?_
  refine G_iload_n 6 hC rfl dX12_size_6 ?_
  refine G_callV1 7 hC (n_isGrid hF hng hng2) okX12_isGrid lk_X12_122 ((hF.sh (o := 0) rfl (by decide)).1) rfl rfl rfl rfl (Nat.le_of_ble_eq_true rfl) (by decide) (by decide) dX12_size_7 ?_
  first | refine G_if_ne_b 10 15 hC dX12_size_10 (by decide) (fun h10 => ?_) (fun h10 => ?_) | refine G_if_ne 10 15 hC dX12_size_10 (by decide) (fun h10 => ?_) (fun h10 => ?_)
  · exact absurd h10 hx
  · refine G_iconst 13 hC (-1) (by decide) dX12_size_13 ?_
    refine R_i 14 hR (by first | rfl | exact narrow_bI _) dX12_size_14 (Nat.le_refl _) (Nat.le_refl _) ?_
    exact ⟨rfl, rfl, rfl, rfl⟩
theorem n_size_all (hF : FixR b N) (h0 : r 0 0 = nI 0) {ng : Nat} (hng : r 0 3 = nI ng) (hng2 : ng ≤ 6) {g0 : Nat} (hg : g0 < ng) : Cq l D B mX12_size [vr (some (b + 0)), vi (nI g0), vi (-1)] (RI b r n G) L N (some (vi (r 2 g0))) (RI b r n G) L := by
  refine Ct.of (M := mX12_size) (by decide) (Nat.le_of_ble_eq_true rfl) (fun g (hR : Cr l D B RX12 cX12_size 4 "size" { frames := 2, cells := 0, slots := 0, locals := 44 } (some .int) 0 0 _ g) => ?_)
  have hC := hR.cx
  show g 0 [some (vr (some (b + 0))), some (vi (nI g0)), some (vi (-1)), none] [] _ _ N 0 0
  refine G_aload_n 0 hC rfl dX12_size_0 ?_
  refine G_iconst 1 hC (nI 0) (by decide) dX12_size_1 ?_
  refine N_thr 2 hC hF h0 (fp_X12_96_11 _) dX12_size_2 ?_
  refine G_aload_n 5 hC rfl dX12_size_5 ?_
  refine G_iload_n 6 hC rfl dX12_size_6 ?_
  refine G_callV1 7 hC (n_isGrid hF hng hng2) okX12_isGrid lk_X12_122 ((hF.sh (o := 0) rfl (by decide)).1) rfl rfl rfl rfl (Nat.le_of_ble_eq_true rfl) (by decide) (by decide) dX12_size_7 ?_
  first | refine G_if_ne_b 10 15 hC dX12_size_10 (by decide) (fun h10 => ?_) (fun h10 => ?_) | refine G_if_ne 10 15 hC dX12_size_10 (by decide) (fun h10 => ?_) (fun h10 => ?_)
  · refine G_iload_n 15 hC rfl dX12_size_15 ?_
    refine G_iconst 16 hC (-1) (by decide) dX12_size_16 ?_
    refine G_icmp_ne 17 27 hC dX12_size_17 (by decide) (fun h17 => ?_) (fun h17 => ?_)
    · exact absurd rfl h17
    · refine G_aload_n 20 hC rfl dX12_size_20 ?_
      refine M_getR 21 hC hF fl_X12_13_11 rfl rfl dX12_size_21 ?_
      refine G_iload_n 24 hC rfl dX12_size_24 ?_
      refine N_ialdO 25 hC hF rfl (by decide) (by decide) rfl (by omega) dX12_size_25 ?_
      refine R_i 26 hR (by first | rfl | exact narrow_bI _) dX12_size_26 (Nat.le_refl _) (Nat.le_refl _) ?_
      exact ⟨rfl, rfl, rfl, rfl⟩
  · exact absurd (inR_nI hg (by omega)) h10
theorem n_size_index (hF : FixR b N) (h0 : r 0 0 = nI 0) {ng : Nat} (hng : r 0 3 = nI ng) (hng2 : ng ≤ 6) {y : Int32} {g0 sz : Nat} (hg : g0 < ng) (h2 : r 2 g0 = nI sz) (hz : sz ≤ 12) (hy1 : ¬ y = -1) (hy : ¬ inR y sz) : Cq l D B mX12_size [vr (some (b + 0)), vi (nI g0), vi y] (RI b r n G) L N (some (vi (-12))) (RI b r n G) L := by
  refine Ct.of (M := mX12_size) (by decide) (Nat.le_of_ble_eq_true rfl) (fun g (hR : Cr l D B RX12 cX12_size 4 "size" { frames := 2, cells := 0, slots := 0, locals := 44 } (some .int) 0 0 _ g) => ?_)
  have hC := hR.cx
  show g 0 [some (vr (some (b + 0))), some (vi (nI g0)), some (vi y), none] [] _ _ N 0 0
  refine G_aload_n 0 hC rfl dX12_size_0 ?_
  refine G_iconst 1 hC (nI 0) (by decide) dX12_size_1 ?_
  refine N_thr 2 hC hF h0 (fp_X12_96_11 _) dX12_size_2 ?_
  refine G_aload_n 5 hC rfl dX12_size_5 ?_
  refine G_iload_n 6 hC rfl dX12_size_6 ?_
  refine G_callV1 7 hC (n_isGrid hF hng hng2) okX12_isGrid lk_X12_122 ((hF.sh (o := 0) rfl (by decide)).1) rfl rfl rfl rfl (Nat.le_of_ble_eq_true rfl) (by decide) (by decide) dX12_size_7 ?_
  first | refine G_if_ne_b 10 15 hC dX12_size_10 (by decide) (fun h10 => ?_) (fun h10 => ?_) | refine G_if_ne 10 15 hC dX12_size_10 (by decide) (fun h10 => ?_) (fun h10 => ?_)
  · refine G_iload_n 15 hC rfl dX12_size_15 ?_
    refine G_iconst 16 hC (-1) (by decide) dX12_size_16 ?_
    refine G_icmp_ne 17 27 hC dX12_size_17 (by decide) (fun h17 => ?_) (fun h17 => ?_)
    · refine G_aload_n 27 hC rfl dX12_size_27 ?_
      refine G_iload_n 28 hC rfl dX12_size_28 ?_
      refine G_iload_n 29 hC rfl dX12_size_29 ?_
      refine G_callV1 30 hC (n_isLine hF (by omega) h2 (by omega)) okX12_isLine lk_X12_126 ((hF.sh (o := 0) rfl (by decide)).1) rfl rfl rfl rfl (Nat.le_of_ble_eq_true rfl) (by decide) (by decide) dX12_size_30 ?_
      first | refine G_if_ne_b 33 39 hC dX12_size_33 (by decide) (fun h33 => ?_) (fun h33 => ?_) | refine G_if_ne 33 39 hC dX12_size_33 (by decide) (fun h33 => ?_) (fun h33 => ?_)
      · exact absurd h33 hy
      · refine G_bipush 36 hC (-12) (by decide) dX12_size_36 ?_
        refine R_i 38 hR (by first | rfl | exact narrow_bI _) dX12_size_38 (Nat.le_refl _) (Nat.le_refl _) ?_
        exact ⟨rfl, rfl, rfl, rfl⟩
    · exact absurd h17 hy1
  · exact absurd (inR_nI hg (by omega)) h10
theorem n_size_null (hF : FixR b N) (h0 : r 0 0 = nI 0) {ng : Nat} (hng : r 0 3 = nI ng) (hng2 : ng ≤ 6) {g0 sz i1 : Nat} (hg : g0 < ng) (h2 : r 2 g0 = nI sz) (hz : sz ≤ 12) (hi1 : i1 < sz) (hp : r 3 (20 * g0 + i1) = -1) : Cq l D B mX12_size [vr (some (b + 0)), vi (nI g0), vi (nI i1)] (RI b r n G) L N (some (vi (-11))) (RI b r n G) L := by
  refine Ct.of (M := mX12_size) (by decide) (Nat.le_of_ble_eq_true rfl) (fun g (hR : Cr l D B RX12 cX12_size 4 "size" { frames := 2, cells := 0, slots := 0, locals := 44 } (some .int) 0 0 _ g) => ?_)
  have hC := hR.cx
  show g 0 [some (vr (some (b + 0))), some (vi (nI g0)), some (vi (nI i1)), none] [] _ _ N 0 0
  refine G_aload_n 0 hC rfl dX12_size_0 ?_
  refine G_iconst 1 hC (nI 0) (by decide) dX12_size_1 ?_
  refine N_thr 2 hC hF h0 (fp_X12_96_11 _) dX12_size_2 ?_
  refine G_aload_n 5 hC rfl dX12_size_5 ?_
  refine G_iload_n 6 hC rfl dX12_size_6 ?_
  refine G_callV1 7 hC (n_isGrid hF hng hng2) okX12_isGrid lk_X12_122 ((hF.sh (o := 0) rfl (by decide)).1) rfl rfl rfl rfl (Nat.le_of_ble_eq_true rfl) (by decide) (by decide) dX12_size_7 ?_
  first | refine G_if_ne_b 10 15 hC dX12_size_10 (by decide) (fun h10 => ?_) (fun h10 => ?_) | refine G_if_ne 10 15 hC dX12_size_10 (by decide) (fun h10 => ?_) (fun h10 => ?_)
  · refine G_iload_n 15 hC rfl dX12_size_15 ?_
    refine G_iconst 16 hC (-1) (by decide) dX12_size_16 ?_
    refine G_icmp_ne 17 27 hC dX12_size_17 (by decide) (fun h17 => ?_) (fun h17 => ?_)
    · refine G_aload_n 27 hC rfl dX12_size_27 ?_
      refine G_iload_n 28 hC rfl dX12_size_28 ?_
      refine G_iload_n 29 hC rfl dX12_size_29 ?_
      refine G_callV1 30 hC (n_isLine hF (by omega) h2 (by omega)) okX12_isLine lk_X12_126 ((hF.sh (o := 0) rfl (by decide)).1) rfl rfl rfl rfl (Nat.le_of_ble_eq_true rfl) (by decide) (by decide) dX12_size_30 ?_
      first | refine G_if_ne_b 33 39 hC dX12_size_33 (by decide) (fun h33 => ?_) (fun h33 => ?_) | refine G_if_ne 33 39 hC dX12_size_33 (by decide) (fun h33 => ?_) (fun h33 => ?_)
      · refine G_aload_n 39 hC rfl dX12_size_39 ?_
        refine M_getR 40 hC hF fl_X12_16_11 rfl rfl dX12_size_40 ?_
        refine G_bipush 43 hC (nI 20) (by decide) dX12_size_43 ?_
        refine G_iload_n 45 hC rfl dX12_size_45 ?_
        refine G_imulN 46 hC dX12_size_46 ?_
        refine G_iload_n 47 hC rfl dX12_size_47 ?_
        refine G_iaddN 48 hC dX12_size_48 ?_
        refine N_ialdO 49 hC hF rfl (by decide) (by decide) rfl (by omega) dX12_size_49 ?_
        refine G_istore_n 50 hC 3 rfl (by decide) (ls' := [_, _, _, _]) rfl dX12_size_50 ?_
        refine G_iload_n 51 hC rfl dX12_size_51 ?_
        refine G_if_ge 52 60 hC dX12_size_52 (by decide) (fun h52 => ?_) (fun h52 => ?_)
        · exact absurd h52 (by rw [hp]; decide)
        · refine G_bipush 55 hC (-11) (by decide) dX12_size_55 ?_
          refine G_goto 57 66 hC dX12_size_57 (by decide) ?_
          refine R_i 66 hR (by first | rfl | exact narrow_bI _) dX12_size_66 (Nat.le_refl _) (Nat.le_refl _) ?_
          exact ⟨rfl, rfl, rfl, rfl⟩
      · exact absurd (inR_nI hi1 (by omega)) h33
    · exact absurd h17 (nI_nm1 (by omega))
  · exact absurd (inR_nI hg (by omega)) h10
theorem n_size_ok (hF : FixR b N) (h0 : r 0 0 = nI 0) {ng : Nat} (hng : r 0 3 = nI ng) (hng2 : ng ≤ 6) {g0 sz i1 p : Nat} (hg : g0 < ng) (h2 : r 2 g0 = nI sz) (hz : sz ≤ 12) (hi1 : i1 < sz) (hp : r 3 (20 * g0 + i1) = nI p) (hp2 : p < 600) : Cq l D B mX12_size [vr (some (b + 0)), vi (nI g0), vi (nI i1)] (RI b r n G) L N (some (vi (r 4 p))) (RI b r n G) L := by
  refine Ct.of (M := mX12_size) (by decide) (Nat.le_of_ble_eq_true rfl) (fun g (hR : Cr l D B RX12 cX12_size 4 "size" { frames := 2, cells := 0, slots := 0, locals := 44 } (some .int) 0 0 _ g) => ?_)
  have hC := hR.cx
  show g 0 [some (vr (some (b + 0))), some (vi (nI g0)), some (vi (nI i1)), none] [] _ _ N 0 0
  refine G_aload_n 0 hC rfl dX12_size_0 ?_
  refine G_iconst 1 hC (nI 0) (by decide) dX12_size_1 ?_
  refine N_thr 2 hC hF h0 (fp_X12_96_11 _) dX12_size_2 ?_
  refine G_aload_n 5 hC rfl dX12_size_5 ?_
  refine G_iload_n 6 hC rfl dX12_size_6 ?_
  refine G_callV1 7 hC (n_isGrid hF hng hng2) okX12_isGrid lk_X12_122 ((hF.sh (o := 0) rfl (by decide)).1) rfl rfl rfl rfl (Nat.le_of_ble_eq_true rfl) (by decide) (by decide) dX12_size_7 ?_
  first | refine G_if_ne_b 10 15 hC dX12_size_10 (by decide) (fun h10 => ?_) (fun h10 => ?_) | refine G_if_ne 10 15 hC dX12_size_10 (by decide) (fun h10 => ?_) (fun h10 => ?_)
  · refine G_iload_n 15 hC rfl dX12_size_15 ?_
    refine G_iconst 16 hC (-1) (by decide) dX12_size_16 ?_
    refine G_icmp_ne 17 27 hC dX12_size_17 (by decide) (fun h17 => ?_) (fun h17 => ?_)
    · refine G_aload_n 27 hC rfl dX12_size_27 ?_
      refine G_iload_n 28 hC rfl dX12_size_28 ?_
      refine G_iload_n 29 hC rfl dX12_size_29 ?_
      refine G_callV1 30 hC (n_isLine hF (by omega) h2 (by omega)) okX12_isLine lk_X12_126 ((hF.sh (o := 0) rfl (by decide)).1) rfl rfl rfl rfl (Nat.le_of_ble_eq_true rfl) (by decide) (by decide) dX12_size_30 ?_
      first | refine G_if_ne_b 33 39 hC dX12_size_33 (by decide) (fun h33 => ?_) (fun h33 => ?_) | refine G_if_ne 33 39 hC dX12_size_33 (by decide) (fun h33 => ?_) (fun h33 => ?_)
      · refine G_aload_n 39 hC rfl dX12_size_39 ?_
        refine M_getR 40 hC hF fl_X12_16_11 rfl rfl dX12_size_40 ?_
        refine G_bipush 43 hC (nI 20) (by decide) dX12_size_43 ?_
        refine G_iload_n 45 hC rfl dX12_size_45 ?_
        refine G_imulN 46 hC dX12_size_46 ?_
        refine G_iload_n 47 hC rfl dX12_size_47 ?_
        refine G_iaddN 48 hC dX12_size_48 ?_
        refine N_ialdO 49 hC hF rfl (by decide) (by decide) rfl (by omega) dX12_size_49 ?_
        rw [hp]
        refine G_istore_n 50 hC 3 rfl (by decide) (ls' := [_, _, _, _]) rfl dX12_size_50 ?_
        refine G_iload_n 51 hC rfl dX12_size_51 ?_
        refine G_if_ge 52 60 hC dX12_size_52 (by decide) (fun h52 => ?_) (fun h52 => ?_)
        · refine G_aload_n 60 hC rfl dX12_size_60 ?_
          refine M_getR 61 hC hF fl_X12_19_11 rfl rfl dX12_size_61 ?_
          refine G_iload_n 64 hC rfl dX12_size_64 ?_
          refine N_ialdO 65 hC hF rfl (by decide) (by decide) rfl (by omega) dX12_size_65 ?_
          refine R_i 66 hR (by first | rfl | exact narrow_bI _) dX12_size_66 (Nat.le_refl _) (Nat.le_refl _) ?_
          exact ⟨rfl, rfl, rfl, rfl⟩
        · exact absurd (nI_pos' (by omega)) h52
      · exact absurd (inR_nI hi1 (by omega)) h33
    · exact absurd h17 (nI_nm1 (by omega))
  · exact absurd (inR_nI hg (by omega)) h10
theorem n_best_bad (hF : FixR b N) (h0 : r 0 0 = nI 0) {ns nt : Nat} (hns : r 0 20 = nI ns) (hns2 : ns ≤ 8) (hnt : r 0 10 = nI nt) (hnt2 : nt ≤ 20) {x y : Int32} (hx : ¬ inR x ns) : Cq l D B mX12_best [vr (some (b + 0)), vi x, vi y] (RI b r n G) (RLg b rl S q GL) N (some (vl (-1))) (RI b r n G) (RLg b rl S q GL) := by
  refine Ct.of (M := mX12_best) (by decide) (Nat.le_of_ble_eq_true rfl) (fun g (hR : Cr l D B RX12 cX12_best 5 "best" { frames := 1, cells := 0, slots := 0, locals := 22 } (some .long) 0 0 _ g) => ?_)
  have hC := hR.cx
  show g 0 [some (vr (some (b + 0))), some (vi x), some (vi y), none, none] [] _ _ N 0 0
  refine G_aload_n 0 hC rfl dX12_best_0 ?_
  refine G_iconst 1 hC (nI 0) (by decide) dX12_best_1 ?_
  refine N_thr 2 hC hF h0 (fp_X12_96_11 _) dX12_best_2 ?_
  refine G_iload_n 5 hC rfl dX12_best_5 ?_
  refine G_iconst 6 hC (nI 0) (by decide) dX12_best_6 ?_
  refine G_aload_n 7 hC rfl dX12_best_7 ?_
  refine N_getI 8 hC hF fl_X12_148_11 rfl dX12_best_8 ?_
  refine G_iconst 11 hC (nI 1) (by decide) dX12_best_11 ?_
  refine G_isub 12 hC dX12_best_12 ?_
  refine G_callS1 13 hC (ref_in) okX12_in lk_X12_107 rfl rfl rfl (Nat.le_of_ble_eq_true rfl) (by decide) (by decide) dX12_best_13 ?_
  first | refine G_if_ne_b 16 23 hC dX12_best_16 (by decide) (fun h16 => ?_) (fun h16 => ?_) | refine G_if_ne 16 23 hC dX12_best_16 (by decide) (fun h16 => ?_) (fun h16 => ?_)
  · exact absurd ((in_inR (by omega)).mp (hns ▸ h16)) hx
  · refine G_ldc2 19 hC kc_X12_233 dX12_best_19 ?_
    refine R_l 22 hR dX12_best_22 (Nat.le_refl _) (Nat.le_refl _) ?_
    exact ⟨rfl, rfl, rfl, rfl⟩
theorem n_best_yes (hF : FixR b N) (h0 : r 0 0 = nI 0) {ns nt : Nat} (hns : r 0 20 = nI ns) (hns2 : ns ≤ 8) (hnt : r 0 10 = nI nt) (hnt2 : nt ≤ 20) {y : Int32} {s : Nat} (hs : s < ns) : Cq l D B mX12_best [vr (some (b + 0)), vi (nI s), vi y] (RI b r n G) (RLg b rl S q GL) N (some (vl (F_best r n q s nt y))) (RI b r n G) (RLg b rl S q GL) := by
  refine Ct.of (M := mX12_best) (by decide) (Nat.le_of_ble_eq_true rfl) (fun g (hR : Cr l D B RX12 cX12_best 5 "best" { frames := 1, cells := 0, slots := 0, locals := 22 } (some .long) 0 0 _ g) => ?_)
  have hC := hR.cx
  have k1 : g 80 [some (vr (some (b + 0))), some (vi (nI s)), some (vi y), some (vi (F_bl r n s nt)), some (vi (nI nt))] [] (RI b r n G) (RLg b rl S q GL) N 0 0 := by
    refine G_iload_n 80 hC rfl dX12_best_80 ?_
    rcases sw_any y 3 (by omega) with hsw | ⟨k, hk, rfl⟩
    · refine G_tableOut 81 147 hC dX12_best_81 (by simpa using hsw) (by decide) ?_
      refine G_ldc2 147 hC kc_X12_233 dX12_best_147 ?_
      refine R_l 150 hR dX12_best_150 (Nat.le_refl _) (Nat.le_refl _) ?_
      refine ⟨?_, rfl, rfl, rfl⟩
      first | (rw [F_best_o (by simpa using hsw)]; done) | rfl
    rcases (show k = 0 ∨ k = 1 ∨ k = 2 ∨ k = 3 by omega) with rfl | rfl | rfl | rfl
    · refine G_tableIn 81 31 112 hC dX12_best_81 (by decide) (by decide) rfl (by decide) ?_
      refine G_aload_n 112 hC rfl dX12_best_112 ?_
      refine M_getR 113 hC hF fl_X12_74_11 rfl rfl dX12_best_113 ?_
      refine G_bipush 116 hC (nI 20) (by decide) dX12_best_116 ?_
      refine G_iload_n 118 hC rfl dX12_best_118 ?_
      refine G_iaddN 119 hC dX12_best_119 ?_
      refine Q_lald 120 hC hF rfl (by omega) dX12_best_120 ?_
      refine R_l 121 hR dX12_best_121 (Nat.le_refl _) (Nat.le_refl _) ?_
      refine ⟨?_, rfl, rfl, rfl⟩
      first | (rw [F_best_o (by simpa using hsw)]; done) | rfl
    · refine G_tableIn 81 41 122 hC dX12_best_81 (by decide) (by decide) rfl (by decide) ?_
      refine G_aload_n 122 hC rfl dX12_best_122 ?_
      refine M_getR 123 hC hF fl_X12_68_11 rfl rfl dX12_best_123 ?_
      refine G_sipush 126 hC (nI 302) (by decide) dX12_best_126 ?_
      refine G_iload_n 129 hC rfl dX12_best_129 ?_
      refine G_iaddN 130 hC dX12_best_130 ?_
      refine N_iald 131 hC hF rfl (by omega) dX12_best_131 ?_
      refine G_i2l 132 hC dX12_best_132 ?_
      refine R_l 133 hR dX12_best_133 (Nat.le_refl _) (Nat.le_refl _) ?_
      refine ⟨?_, rfl, rfl, rfl⟩
      first | (rw [F_best_o (by simpa using hsw)]; done) | rfl
    · refine G_tableIn 81 53 134 hC dX12_best_81 (by decide) (by decide) rfl (by decide) ?_
      refine G_aload_n 134 hC rfl dX12_best_134 ?_
      refine M_getR 135 hC hF fl_X12_74_11 rfl rfl dX12_best_135 ?_
      refine G_bipush 138 hC (nI 28) (by decide) dX12_best_138 ?_
      refine G_iload_n 140 hC rfl dX12_best_140 ?_
      refine G_iaddN 141 hC dX12_best_141 ?_
      refine Q_lald 142 hC hF rfl (by omega) dX12_best_142 ?_
      refine R_l 143 hR dX12_best_143 (Nat.le_refl _) (Nat.le_refl _) ?_
      refine ⟨?_, rfl, rfl, rfl⟩
      first | (rw [F_best_o (by simpa using hsw)]; done) | rfl
    · refine G_tableIn 81 63 144 hC dX12_best_81 (by decide) (by decide) rfl (by decide) ?_
      refine G_iload_n 144 hC rfl dX12_best_144 ?_
      refine G_i2l 145 hC dX12_best_145 ?_
      refine R_l 146 hR dX12_best_146 (Nat.le_refl _) (Nat.le_refl _) ?_
      refine ⟨?_, rfl, rfl, rfl⟩
      first | (rw [F_best_o (by simpa using hsw)]; done) | rfl
  have loop : ∀ (k j : Nat), nt - j < k → j ≤ nt → g 28 [some (vr (some (b + 0))), some (vi (nI s)), some (vi y), some (vi (F_bl r n s j)), some (vi (nI j))] [] (RI b r n G) (RLg b rl S q GL) N 0 0 := by
    intro k
    induction k with
    | zero => intro j h1; omega
    | succ k ih =>
      intro j hk1 hj
      refine G_iload 28 hC rfl dX12_best_28 ?_
      refine G_aload_n 30 hC rfl dX12_best_30 ?_
      refine N_getI 31 hC hF fl_X12_101_11 rfl dX12_best_31 ?_
      rw [hnt]
      refine G_icmp_ge 34 80 hC dX12_best_34 (by decide) (fun h34 => ?_) (fun h34 => ?_)
      · have ej : j = nt := by
          have z := (nI_leI (by omega) (by omega)).mp h34
          omega
        subst ej
        exact k1
      · have a34 : j < nt := by
          rcases Nat.lt_or_ge j nt with y | y
          · exact y
          · exact absurd ((nI_leI (by omega) (by omega)).mpr y) h34
        refine G_iload_n 37 hC rfl dX12_best_37 ?_
        refine G_aload_n 38 hC rfl dX12_best_38 ?_
        refine M_getR 39 hC hF fl_X12_26_11 rfl rfl dX12_best_39 ?_
        refine G_iload 42 hC rfl dX12_best_42 ?_
        refine N_ialdO 44 hC hF rfl (by decide) (by decide) rfl (by omega) dX12_best_44 ?_
        refine G_iconst 45 hC (nI 4) (by decide) dX12_best_45 ?_
        refine G_icmp_ne 46 71 hC dX12_best_46 (by decide) (fun h46 => ?_) (fun h46 => ?_)
        · refine G_iconst 71 hC (nI 0) (by decide) dX12_best_71 ?_
          refine G_iadd 72 hC dX12_best_72 ?_
          refine G_istore_n 73 hC 3 rfl (by decide) (ls' := [_, _, _, _, _]) rfl dX12_best_73 ?_
          first | refine G_iincN 74 hC (by decide) rfl (ls' := [_, _, _, _, _]) rfl dX12_best_74 ?_ | refine G_iinc 74 hC _ rfl (by decide) rfl (ls' := [_, _, _, _, _]) rfl dX12_best_74 ?_
          refine G_goto 77 28 hC dX12_best_77 (by decide) ?_
          have e : F_bl r n s (j + 1) = F_bl r n s j + (if r 6 j = nI 4 ∧ r 12 j = nI s then n (12 * j + 6) else nI 0) := rfl
          first
            | (rw [if_pos (And.intro h46 h57)] at e; rw [← e]; exact ih (j + 1) (by omega) (by omega))
            | (rw [if_neg (show ¬ (r 6 j = nI 4 ∧ r 12 j = nI s) from fun z => h57 z.2)] at e; rw [← e]; exact ih (j + 1) (by omega) (by omega))
            | (rw [if_neg (show ¬ (r 6 j = nI 4 ∧ r 12 j = nI s) from fun z => h46 z.1)] at e; rw [← e]; exact ih (j + 1) (by omega) (by omega))
        · refine G_aload_n 49 hC rfl dX12_best_49 ?_
          refine M_getR 50 hC hF fl_X12_44_11 rfl rfl dX12_best_50 ?_
          refine G_iload 53 hC rfl dX12_best_53 ?_
          refine N_ialdO 55 hC hF rfl (by decide) (by decide) rfl (by omega) dX12_best_55 ?_
          refine G_iload_n 56 hC rfl dX12_best_56 ?_
          refine G_icmp_ne 57 71 hC dX12_best_57 (by decide) (fun h57 => ?_) (fun h57 => ?_)
          · refine G_iconst 71 hC (nI 0) (by decide) dX12_best_71 ?_
            refine G_iadd 72 hC dX12_best_72 ?_
            refine G_istore_n 73 hC 3 rfl (by decide) (ls' := [_, _, _, _, _]) rfl dX12_best_73 ?_
            first | refine G_iincN 74 hC (by decide) rfl (ls' := [_, _, _, _, _]) rfl dX12_best_74 ?_ | refine G_iinc 74 hC _ rfl (by decide) rfl (ls' := [_, _, _, _, _]) rfl dX12_best_74 ?_
            refine G_goto 77 28 hC dX12_best_77 (by decide) ?_
            have e : F_bl r n s (j + 1) = F_bl r n s j + (if r 6 j = nI 4 ∧ r 12 j = nI s then n (12 * j + 6) else nI 0) := rfl
            first
              | (rw [if_pos (And.intro h46 h57)] at e; rw [← e]; exact ih (j + 1) (by omega) (by omega))
              | (rw [if_neg (show ¬ (r 6 j = nI 4 ∧ r 12 j = nI s) from fun z => h57 z.2)] at e; rw [← e]; exact ih (j + 1) (by omega) (by omega))
              | (rw [if_neg (show ¬ (r 6 j = nI 4 ∧ r 12 j = nI s) from fun z => h46 z.1)] at e; rw [← e]; exact ih (j + 1) (by omega) (by omega))
          · refine G_aload_n 60 hC rfl dX12_best_60 ?_
            refine G_iload 61 hC rfl dX12_best_61 ?_
            refine G_bipush 63 hC (nI 6) (by decide) dX12_best_63 ?_
            refine G_callV1 65 hC (n_at hF (by omega) (by omega)) okX12_at lk_X12_173 ((hF.sh (o := 0) rfl (by decide)).1) rfl rfl rfl rfl (Nat.le_of_ble_eq_true rfl) (by decide) (by decide) dX12_best_65 ?_
            refine G_goto 68 72 hC dX12_best_68 (by decide) ?_
            refine G_iadd 72 hC dX12_best_72 ?_
            refine G_istore_n 73 hC 3 rfl (by decide) (ls' := [_, _, _, _, _]) rfl dX12_best_73 ?_
            first | refine G_iincN 74 hC (by decide) rfl (ls' := [_, _, _, _, _]) rfl dX12_best_74 ?_ | refine G_iinc 74 hC _ rfl (by decide) rfl (ls' := [_, _, _, _, _]) rfl dX12_best_74 ?_
            refine G_goto 77 28 hC dX12_best_77 (by decide) ?_
            have e : F_bl r n s (j + 1) = F_bl r n s j + (if r 6 j = nI 4 ∧ r 12 j = nI s then n (12 * j + 6) else nI 0) := rfl
            first
              | (rw [if_pos (And.intro h46 h57)] at e; rw [← e]; exact ih (j + 1) (by omega) (by omega))
              | (rw [if_neg (show ¬ (r 6 j = nI 4 ∧ r 12 j = nI s) from fun z => h57 z.2)] at e; rw [← e]; exact ih (j + 1) (by omega) (by omega))
              | (rw [if_neg (show ¬ (r 6 j = nI 4 ∧ r 12 j = nI s) from fun z => h46 z.1)] at e; rw [← e]; exact ih (j + 1) (by omega) (by omega))
  show g 0 [some (vr (some (b + 0))), some (vi (nI s)), some (vi y), none, none] [] _ _ N 0 0
  refine G_aload_n 0 hC rfl dX12_best_0 ?_
  refine G_iconst 1 hC (nI 0) (by decide) dX12_best_1 ?_
  refine N_thr 2 hC hF h0 (fp_X12_96_11 _) dX12_best_2 ?_
  refine G_iload_n 5 hC rfl dX12_best_5 ?_
  refine G_iconst 6 hC (nI 0) (by decide) dX12_best_6 ?_
  refine G_aload_n 7 hC rfl dX12_best_7 ?_
  refine N_getI 8 hC hF fl_X12_148_11 rfl dX12_best_8 ?_
  refine G_iconst 11 hC (nI 1) (by decide) dX12_best_11 ?_
  refine G_isub 12 hC dX12_best_12 ?_
  refine G_callS1 13 hC (ref_in) okX12_in lk_X12_107 rfl rfl rfl (Nat.le_of_ble_eq_true rfl) (by decide) (by decide) dX12_best_13 ?_
  first | refine G_if_ne_b 16 23 hC dX12_best_16 (by decide) (fun h16 => ?_) (fun h16 => ?_) | refine G_if_ne 16 23 hC dX12_best_16 (by decide) (fun h16 => ?_) (fun h16 => ?_)
  · refine G_iconst 23 hC (nI 0) (by decide) dX12_best_23 ?_
    refine G_istore_n 24 hC 3 rfl (by decide) (ls' := [_, _, _, _, _]) rfl dX12_best_24 ?_
    refine G_iconst 25 hC (nI 0) (by decide) dX12_best_25 ?_
    refine G_istore 26 hC (by decide) (ls' := [_, _, _, _, _]) rfl dX12_best_26 ?_
    exact loop _ 0 (Nat.lt_succ_self _) (Nat.zero_le _)
  · exact absurd (hns.symm ▸ (in_inR (by omega)).mpr (inR_nI hs (by omega))) h16
theorem n_grid_bad (hF : FixR b N) (h0 : r 0 0 = nI 0) {ng : Nat} (hng : r 0 3 = nI ng) (hng2 : ng ≤ 6) {k x y : Int32} (hb : ¬ ((nI 0 ≤ k ∧ k ≤ nI 5) ∧ ¬ nI 12 < x ∧ ¬ nI 13 < y)) : Cq l D B mX12_grid [vr (some (b + 0)), vi k, vi x, vi y] (RI b r n G) L N (some (vi (-1))) (RI b r n G) L := by
  refine Ct.of (M := mX12_grid) (by decide) (Nat.le_of_ble_eq_true rfl) (fun g (hR : Cr l D B RX12 cX12_grid 5 "grid" { frames := 1, cells := 0, slots := 0, locals := 22 } (some .int) 0 0 _ g) => ?_)
  have hC := hR.cx
  show g 0 [some (vr (some (b + 0))), some (vi k), some (vi x), some (vi y), none] [] _ _ N 0 0
  refine G_aload_n 0 hC rfl dX12_grid_0 ?_
  refine G_iconst 1 hC (nI 0) (by decide) dX12_grid_1 ?_
  refine N_thr 2 hC hF h0 (fp_X12_96_11 _) dX12_grid_2 ?_
  refine G_iload_n 5 hC rfl dX12_grid_5 ?_
  refine G_iconst 6 hC (nI 0) (by decide) dX12_grid_6 ?_
  refine G_iconst 7 hC (nI 5) (by decide) dX12_grid_7 ?_
  refine G_callS1 8 hC (ref_in) okX12_in lk_X12_107 rfl rfl rfl (Nat.le_of_ble_eq_true rfl) (by decide) (by decide) dX12_grid_8 ?_
  first | refine G_if_eq_b 11 26 hC dX12_grid_11 (by decide) (fun h11 => ?_) (fun h11 => ?_) | refine G_if_eq 11 26 hC dX12_grid_11 (by decide) (fun h11 => ?_) (fun h11 => ?_)
  · refine G_iconst 26 hC (-1) (by decide) dX12_grid_26 ?_
    refine R_i 27 hR (by first | rfl | exact narrow_bI _) dX12_grid_27 (Nat.le_refl _) (Nat.le_refl _) ?_
    exact ⟨rfl, rfl, rfl, rfl⟩
  · refine G_iload_n 14 hC rfl dX12_grid_14 ?_
    refine G_bipush 15 hC (nI 12) (by decide) dX12_grid_15 ?_
    refine G_icmp_gt 17 26 hC dX12_grid_17 (by decide) (fun h17 => ?_) (fun h17 => ?_)
    · refine G_iconst 26 hC (-1) (by decide) dX12_grid_26 ?_
      refine R_i 27 hR (by first | rfl | exact narrow_bI _) dX12_grid_27 (Nat.le_refl _) (Nat.le_refl _) ?_
      exact ⟨rfl, rfl, rfl, rfl⟩
    · refine G_iload_n 20 hC rfl dX12_grid_20 ?_
      refine G_bipush 21 hC (nI 13) (by decide) dX12_grid_21 ?_
      refine G_icmp_le 23 28 hC dX12_grid_23 (by decide) (fun h23 => ?_) (fun h23 => ?_)
      · exact absurd ⟨h11, h17, Int32.not_lt.mpr h23⟩ hb
      · refine G_iconst 26 hC (-1) (by decide) dX12_grid_26 ?_
        refine R_i 27 hR (by first | rfl | exact narrow_bI _) dX12_grid_27 (Nat.le_refl _) (Nat.le_refl _) ?_
        exact ⟨rfl, rfl, rfl, rfl⟩
theorem n_grid_state (hF : FixR b N) (h0 : r 0 0 = nI 0) {ng : Nat} (hng : r 0 3 = nI ng) (hng2 : ng ≤ 6) {k x y : Int32} (hok : ((nI 0 ≤ k ∧ k ≤ nI 5) ∧ ¬ nI 12 < x ∧ ¬ nI 13 < y)) (hst : n 246 = 1) : Cq l D B mX12_grid [vr (some (b + 0)), vi k, vi x, vi y] (RI b r n G) L N (some (vi (-2))) (RI b r n G) L := by
  refine Ct.of (M := mX12_grid) (by decide) (Nat.le_of_ble_eq_true rfl) (fun g (hR : Cr l D B RX12 cX12_grid 5 "grid" { frames := 1, cells := 0, slots := 0, locals := 22 } (some .int) 0 0 _ g) => ?_)
  have hC := hR.cx
  show g 0 [some (vr (some (b + 0))), some (vi k), some (vi x), some (vi y), none] [] _ _ N 0 0
  refine G_aload_n 0 hC rfl dX12_grid_0 ?_
  refine G_iconst 1 hC (nI 0) (by decide) dX12_grid_1 ?_
  refine N_thr 2 hC hF h0 (fp_X12_96_11 _) dX12_grid_2 ?_
  refine G_iload_n 5 hC rfl dX12_grid_5 ?_
  refine G_iconst 6 hC (nI 0) (by decide) dX12_grid_6 ?_
  refine G_iconst 7 hC (nI 5) (by decide) dX12_grid_7 ?_
  refine G_callS1 8 hC (ref_in) okX12_in lk_X12_107 rfl rfl rfl (Nat.le_of_ble_eq_true rfl) (by decide) (by decide) dX12_grid_8 ?_
  first | refine G_if_eq_b 11 26 hC dX12_grid_11 (by decide) (fun h11 => ?_) (fun h11 => ?_) | refine G_if_eq 11 26 hC dX12_grid_11 (by decide) (fun h11 => ?_) (fun h11 => ?_)
  · exact absurd hok.1 h11
  · refine G_iload_n 14 hC rfl dX12_grid_14 ?_
    refine G_bipush 15 hC (nI 12) (by decide) dX12_grid_15 ?_
    refine G_icmp_gt 17 26 hC dX12_grid_17 (by decide) (fun h17 => ?_) (fun h17 => ?_)
    · exact absurd h17 hok.2.1
    · refine G_iload_n 20 hC rfl dX12_grid_20 ?_
      refine G_bipush 21 hC (nI 13) (by decide) dX12_grid_21 ?_
      refine G_icmp_le 23 28 hC dX12_grid_23 (by decide) (fun h23 => ?_) (fun h23 => ?_)
      · refine G_aload_n 28 hC rfl dX12_grid_28 ?_
        refine G_callV1 29 hC (n_isOpen hF) okX12_isOpen lk_X12_114 ((hF.sh (o := 0) rfl (by decide)).1) rfl rfl rfl rfl (Nat.le_of_ble_eq_true rfl) (by decide) (by decide) dX12_grid_29 ?_
        first | refine G_if_eq_b 32 38 hC dX12_grid_32 (by decide) (fun h32 => ?_) (fun h32 => ?_) | refine G_if_eq 32 38 hC dX12_grid_32 (by decide) (fun h32 => ?_) (fun h32 => ?_)
        · exact absurd hst h32
        · refine G_bipush 35 hC (-2) (by decide) dX12_grid_35 ?_
          refine R_i 37 hR (by first | rfl | exact narrow_bI _) dX12_grid_37 (Nat.le_refl _) (Nat.le_refl _) ?_
          exact ⟨rfl, rfl, rfl, rfl⟩
      · exact absurd (Int32.not_lt.mp hok.2.2) h23
theorem n_grid_full (hF : FixR b N) (h0 : r 0 0 = nI 0) (hng : r 0 3 = nI 6) {k x y : Int32} (hok : ((nI 0 ≤ k ∧ k ≤ nI 5) ∧ ¬ nI 12 < x ∧ ¬ nI 13 < y)) (hst : ¬ n 246 = 1) : Cq l D B mX12_grid [vr (some (b + 0)), vi k, vi x, vi y] (RI b r n G) L N (some (vi (-3))) (RI b r n G) L := by
  refine Ct.of (M := mX12_grid) (by decide) (Nat.le_of_ble_eq_true rfl) (fun g (hR : Cr l D B RX12 cX12_grid 5 "grid" { frames := 1, cells := 0, slots := 0, locals := 22 } (some .int) 0 0 _ g) => ?_)
  have hC := hR.cx
  show g 0 [some (vr (some (b + 0))), some (vi k), some (vi x), some (vi y), none] [] _ _ N 0 0
  refine G_aload_n 0 hC rfl dX12_grid_0 ?_
  refine G_iconst 1 hC (nI 0) (by decide) dX12_grid_1 ?_
  refine N_thr 2 hC hF h0 (fp_X12_96_11 _) dX12_grid_2 ?_
  refine G_iload_n 5 hC rfl dX12_grid_5 ?_
  refine G_iconst 6 hC (nI 0) (by decide) dX12_grid_6 ?_
  refine G_iconst 7 hC (nI 5) (by decide) dX12_grid_7 ?_
  refine G_callS1 8 hC (ref_in) okX12_in lk_X12_107 rfl rfl rfl (Nat.le_of_ble_eq_true rfl) (by decide) (by decide) dX12_grid_8 ?_
  first | refine G_if_eq_b 11 26 hC dX12_grid_11 (by decide) (fun h11 => ?_) (fun h11 => ?_) | refine G_if_eq 11 26 hC dX12_grid_11 (by decide) (fun h11 => ?_) (fun h11 => ?_)
  · exact absurd hok.1 h11
  · refine G_iload_n 14 hC rfl dX12_grid_14 ?_
    refine G_bipush 15 hC (nI 12) (by decide) dX12_grid_15 ?_
    refine G_icmp_gt 17 26 hC dX12_grid_17 (by decide) (fun h17 => ?_) (fun h17 => ?_)
    · exact absurd h17 hok.2.1
    · refine G_iload_n 20 hC rfl dX12_grid_20 ?_
      refine G_bipush 21 hC (nI 13) (by decide) dX12_grid_21 ?_
      refine G_icmp_le 23 28 hC dX12_grid_23 (by decide) (fun h23 => ?_) (fun h23 => ?_)
      · refine G_aload_n 28 hC rfl dX12_grid_28 ?_
        refine G_callV1 29 hC (n_isOpen hF) okX12_isOpen lk_X12_114 ((hF.sh (o := 0) rfl (by decide)).1) rfl rfl rfl rfl (Nat.le_of_ble_eq_true rfl) (by decide) (by decide) dX12_grid_29 ?_
        first | refine G_if_eq_b 32 38 hC dX12_grid_32 (by decide) (fun h32 => ?_) (fun h32 => ?_) | refine G_if_eq 32 38 hC dX12_grid_32 (by decide) (fun h32 => ?_) (fun h32 => ?_)
        · refine G_aload_n 38 hC rfl dX12_grid_38 ?_
          refine N_getI 39 hC hF fl_X12_104_11 rfl dX12_grid_39 ?_
          refine G_bipush 42 hC (nI 6) (by decide) dX12_grid_42 ?_
          refine G_icmp_ne 44 50 hC dX12_grid_44 (by decide) (fun h44 => ?_) (fun h44 => ?_)
          · exact absurd hng h44
          · refine G_bipush 47 hC (-3) (by decide) dX12_grid_47 ?_
            refine R_i 49 hR (by first | rfl | exact narrow_bI _) dX12_grid_49 (Nat.le_refl _) (Nat.le_refl _) ?_
            exact ⟨rfl, rfl, rfl, rfl⟩
        · exact absurd h32 hst
      · exact absurd (Int32.not_lt.mp hok.2.2) h23
theorem n_grid_size (hF : FixR b N) (h0 : r 0 0 = nI 0) {ng : Nat} (hng : r 0 3 = nI ng) (hng2 : ng ≤ 6) {k x y : Int32} (hng3 : ng < 6) (hok : ((nI 0 ≤ k ∧ k ≤ nI 5) ∧ ¬ nI 12 < x ∧ ¬ nI 13 < y)) (hst : ¬ n 246 = 1) (hsz : x < 0 ∨ y < 0) : Cq l D B mX12_grid [vr (some (b + 0)), vi k, vi x, vi y] (RI b r n G) L N (some (vi (-15))) (RI b r n G) L := by
  refine Ct.of (M := mX12_grid) (by decide) (Nat.le_of_ble_eq_true rfl) (fun g (hR : Cr l D B RX12 cX12_grid 5 "grid" { frames := 1, cells := 0, slots := 0, locals := 22 } (some .int) 0 0 _ g) => ?_)
  have hC := hR.cx
  show g 0 [some (vr (some (b + 0))), some (vi k), some (vi x), some (vi y), none] [] _ _ N 0 0
  refine G_aload_n 0 hC rfl dX12_grid_0 ?_
  refine G_iconst 1 hC (nI 0) (by decide) dX12_grid_1 ?_
  refine N_thr 2 hC hF h0 (fp_X12_96_11 _) dX12_grid_2 ?_
  refine G_iload_n 5 hC rfl dX12_grid_5 ?_
  refine G_iconst 6 hC (nI 0) (by decide) dX12_grid_6 ?_
  refine G_iconst 7 hC (nI 5) (by decide) dX12_grid_7 ?_
  refine G_callS1 8 hC (ref_in) okX12_in lk_X12_107 rfl rfl rfl (Nat.le_of_ble_eq_true rfl) (by decide) (by decide) dX12_grid_8 ?_
  first | refine G_if_eq_b 11 26 hC dX12_grid_11 (by decide) (fun h11 => ?_) (fun h11 => ?_) | refine G_if_eq 11 26 hC dX12_grid_11 (by decide) (fun h11 => ?_) (fun h11 => ?_)
  · exact absurd hok.1 h11
  · refine G_iload_n 14 hC rfl dX12_grid_14 ?_
    refine G_bipush 15 hC (nI 12) (by decide) dX12_grid_15 ?_
    refine G_icmp_gt 17 26 hC dX12_grid_17 (by decide) (fun h17 => ?_) (fun h17 => ?_)
    · exact absurd h17 hok.2.1
    · refine G_iload_n 20 hC rfl dX12_grid_20 ?_
      refine G_bipush 21 hC (nI 13) (by decide) dX12_grid_21 ?_
      refine G_icmp_le 23 28 hC dX12_grid_23 (by decide) (fun h23 => ?_) (fun h23 => ?_)
      · refine G_aload_n 28 hC rfl dX12_grid_28 ?_
        refine G_callV1 29 hC (n_isOpen hF) okX12_isOpen lk_X12_114 ((hF.sh (o := 0) rfl (by decide)).1) rfl rfl rfl rfl (Nat.le_of_ble_eq_true rfl) (by decide) (by decide) dX12_grid_29 ?_
        first | refine G_if_eq_b 32 38 hC dX12_grid_32 (by decide) (fun h32 => ?_) (fun h32 => ?_) | refine G_if_eq 32 38 hC dX12_grid_32 (by decide) (fun h32 => ?_) (fun h32 => ?_)
        · refine G_aload_n 38 hC rfl dX12_grid_38 ?_
          refine N_getI 39 hC hF fl_X12_104_11 rfl dX12_grid_39 ?_
          refine G_bipush 42 hC (nI 6) (by decide) dX12_grid_42 ?_
          refine G_icmp_ne 44 50 hC dX12_grid_44 (by decide) (fun h44 => ?_) (fun h44 => ?_)
          · refine G_iload_n 50 hC rfl dX12_grid_50 ?_
            refine G_if_lt 51 58 hC dX12_grid_51 (by decide) (fun h51 => ?_) (fun h51 => ?_)
            · refine G_bipush 58 hC (-15) (by decide) dX12_grid_58 ?_
              refine R_i 60 hR (by first | rfl | exact narrow_bI _) dX12_grid_60 (Nat.le_refl _) (Nat.le_refl _) ?_
              exact ⟨rfl, rfl, rfl, rfl⟩
            · refine G_iload_n 54 hC rfl dX12_grid_54 ?_
              refine G_if_ge 55 61 hC dX12_grid_55 (by decide) (fun h55 => ?_) (fun h55 => ?_)
              · exact absurd (Or.elim hsz h51 (fun z => absurd h55 (Int32.not_le.mpr z))) id
              · refine G_bipush 58 hC (-15) (by decide) dX12_grid_58 ?_
                refine R_i 60 hR (by first | rfl | exact narrow_bI _) dX12_grid_60 (Nat.le_refl _) (Nat.le_refl _) ?_
                exact ⟨rfl, rfl, rfl, rfl⟩
          · exact absurd (nI_eq_of (hng.symm.trans h44) (by omega) (by omega)) (by omega)
        · exact absurd h32 hst
      · exact absurd (Int32.not_lt.mp hok.2.2) h23
theorem n_grid_ok (hF : FixR b N) (h0 : r 0 0 = nI 0) {ng : Nat} (hng : r 0 3 = nI ng) (hng2 : ng ≤ 6) {k : Int32} {z w nl : Nat} (hng3 : ng < 6) (hk : nI 0 ≤ k ∧ k ≤ nI 5) (hz : z ≤ 12) (hw : w ≤ 13) (hst : ¬ n 246 = 1) (hnl : r 0 7 = nI nl) (hnl2 : nl + z ≤ 600) : Cq l D B mX12_grid [vr (some (b + 0)), vi k, vi (nI z), vi (nI w)] (RI b r n G) L N (some (vi (nI ng))) (RI b (upd2 (F_gr r ng nl w k z z) 0 3 (nI (ng + 1))) n G) L := by
  refine Ct.of (M := mX12_grid) (by decide) (Nat.le_of_ble_eq_true rfl) (fun g (hR : Cr l D B RX12 cX12_grid 5 "grid" { frames := 1, cells := 0, slots := 0, locals := 22 } (some .int) 0 0 _ g) => ?_)
  have hC := hR.cx
  have hg3 : ∀ j, F_gr r ng nl w k z j 0 3 = nI ng := F_gr_3 hng
  have hl3 : ∀ j, w < 13 → F_gr r ng nl w k z j 0 7 = nI (nl + j) := fun j h => F_gr_7 hnl h j
  have loop : ∀ (m j : Nat), z - j < m → j ≤ z → g 84 [some (vr (some (b + 0))), some (vi k), some (vi (nI z)), some (vi (nI w)), some (vi (nI j))] [] (RI b (F_gr r ng nl w k z j) n G) L N 0 0 := by
    intro m
    induction m with
    | zero => intro j h1; omega
    | succ m ih =>
      intro j hk1 hj
      refine G_iload 84 hC rfl dX12_grid_84 ?_
      refine G_iload_n 86 hC rfl dX12_grid_86 ?_
      refine G_icmp_ge 87 116 hC dX12_grid_87 (by decide) (fun h87 => ?_) (fun h87 => ?_)
      · refine G_aload_n 116 hC rfl dX12_grid_116 ?_
        refine G_dup 117 hC rfl dX12_grid_117 ?_
        refine N_getI 118 hC hF fl_X12_104_11 rfl dX12_grid_118 ?_
        refine G_iconst 121 hC (nI 1) (by decide) dX12_grid_121 ?_
        refine G_iadd 122 hC dX12_grid_122 ?_
        refine N_putI 123 hC hF (fp_X12_104_11 _) rfl dX12_grid_123 ?_
        refine G_aload_n 126 hC rfl dX12_grid_126 ?_
        refine N_getI 127 hC hF fl_X12_104_11 rfl dX12_grid_127 ?_
        refine G_iconst 130 hC (nI 1) (by decide) dX12_grid_130 ?_
        refine G_isub 131 hC dX12_grid_131 ?_
        refine R_i 132 hR (by first | rfl | exact narrow_bI _) dX12_grid_132 (Nat.le_refl _) (Nat.le_refl _) ?_
        have ej : j = z := by
          have y := (nI_leI (by omega) (by omega)).mp h87
          omega
        subst ej
        refine ⟨?_, ?_, rfl, rfl⟩
        · show some (vi (upd2 (F_gr r ng nl w k j j) 0 3 _ 0 3 - nI 1)) = _
          rw [upd2_row, up_s, hg3 j, nI_add, pk_sub (by omega)]
          rfl
        · rw [hg3 j, nI_add]
      · have a87 : j < z := by
          rcases Nat.lt_or_ge j z with y | y
          · exact y
          · exact absurd ((nI_leI (by omega) (by omega)).mpr y) h87
        refine G_aload_n 90 hC rfl dX12_grid_90 ?_
        refine M_getR 91 hC hF fl_X12_16_11 rfl rfl dX12_grid_91 ?_
        refine G_bipush 94 hC (nI 20) (by decide) dX12_grid_94 ?_
        refine G_aload_n 96 hC rfl dX12_grid_96 ?_
        refine N_getI 97 hC hF fl_X12_104_11 rfl dX12_grid_97 ?_
        rw [hg3 j]
        refine G_imulN 100 hC dX12_grid_100 ?_
        refine G_iload 101 hC rfl dX12_grid_101 ?_
        refine G_iaddN 103 hC dX12_grid_103 ?_
        refine G_aload_n 104 hC rfl dX12_grid_104 ?_
        refine G_iload_n 105 hC rfl dX12_grid_105 ?_
        rcases Nat.lt_or_ge w 13 with a13 | a13
        · refine G_callV1 106 hC (n_newLine hF (hl3 j a13) (by omega) (by omega) (by omega)) okX12_newLine lk_X12_118 ((hF.sh (o := 0) rfl (by decide)).1) rfl rfl rfl rfl (Nat.le_of_ble_eq_true rfl) (by decide) (by decide) dX12_grid_106 ?_
          refine N_iastO 109 hC hF rfl (by decide) (by decide) rfl (by omega) dX12_grid_109 ?_
          first | refine G_iincN 110 hC (by decide) rfl (ls' := [_, _, _, _, _]) rfl dX12_grid_110 ?_ | refine G_iinc 110 hC _ rfl (by decide) rfl (ls' := [_, _, _, _, _]) rfl dX12_grid_110 ?_
          refine G_goto 113 84 hC dX12_grid_113 (by decide) ?_
          have y := ih (j + 1) (by omega) (by omega)
          rw [F_gr_s, if_neg (by omega)] at y
          exact y
        · obtain rfl : w = 13 := by omega
          refine G_callV1 106 hC (n_newLine13 hF) okX12_newLine lk_X12_118 ((hF.sh (o := 0) rfl (by decide)).1) rfl rfl rfl rfl (Nat.le_of_ble_eq_true rfl) (by decide) (by decide) dX12_grid_106 ?_
          refine N_iastO 109 hC hF rfl (by decide) (by decide) rfl (by omega) dX12_grid_109 ?_
          first | refine G_iincN 110 hC (by decide) rfl (ls' := [_, _, _, _, _]) rfl dX12_grid_110 ?_ | refine G_iinc 110 hC _ rfl (by decide) rfl (ls' := [_, _, _, _, _]) rfl dX12_grid_110 ?_
          refine G_goto 113 84 hC dX12_grid_113 (by decide) ?_
          have y := ih (j + 1) (by omega) (by omega)
          rw [F_gr_s, if_pos rfl] at y
          exact y
  show g 0 [some (vr (some (b + 0))), some (vi k), some (vi (nI z)), some (vi (nI w)), none] [] _ _ N 0 0
  refine G_aload_n 0 hC rfl dX12_grid_0 ?_
  refine G_iconst 1 hC (nI 0) (by decide) dX12_grid_1 ?_
  refine N_thr 2 hC hF h0 (fp_X12_96_11 _) dX12_grid_2 ?_
  refine G_iload_n 5 hC rfl dX12_grid_5 ?_
  refine G_iconst 6 hC (nI 0) (by decide) dX12_grid_6 ?_
  refine G_iconst 7 hC (nI 5) (by decide) dX12_grid_7 ?_
  refine G_callS1 8 hC (ref_in) okX12_in lk_X12_107 rfl rfl rfl (Nat.le_of_ble_eq_true rfl) (by decide) (by decide) dX12_grid_8 ?_
  first | refine G_if_eq_b 11 26 hC dX12_grid_11 (by decide) (fun h11 => ?_) (fun h11 => ?_) | refine G_if_eq 11 26 hC dX12_grid_11 (by decide) (fun h11 => ?_) (fun h11 => ?_)
  · exact absurd hk h11
  · refine G_iload_n 14 hC rfl dX12_grid_14 ?_
    refine G_bipush 15 hC (nI 12) (by decide) dX12_grid_15 ?_
    refine G_icmp_gt 17 26 hC dX12_grid_17 (by decide) (fun h17 => ?_) (fun h17 => ?_)
    · exact absurd ((nI_ltI (by omega) (by omega)).mp h17) (by omega)
    · refine G_iload_n 20 hC rfl dX12_grid_20 ?_
      refine G_bipush 21 hC (nI 13) (by decide) dX12_grid_21 ?_
      refine G_icmp_le 23 28 hC dX12_grid_23 (by decide) (fun h23 => ?_) (fun h23 => ?_)
      · refine G_aload_n 28 hC rfl dX12_grid_28 ?_
        refine G_callV1 29 hC (n_isOpen hF) okX12_isOpen lk_X12_114 ((hF.sh (o := 0) rfl (by decide)).1) rfl rfl rfl rfl (Nat.le_of_ble_eq_true rfl) (by decide) (by decide) dX12_grid_29 ?_
        first | refine G_if_eq_b 32 38 hC dX12_grid_32 (by decide) (fun h32 => ?_) (fun h32 => ?_) | refine G_if_eq 32 38 hC dX12_grid_32 (by decide) (fun h32 => ?_) (fun h32 => ?_)
        · refine G_aload_n 38 hC rfl dX12_grid_38 ?_
          refine N_getI 39 hC hF fl_X12_104_11 rfl dX12_grid_39 ?_
          refine G_bipush 42 hC (nI 6) (by decide) dX12_grid_42 ?_
          refine G_icmp_ne 44 50 hC dX12_grid_44 (by decide) (fun h44 => ?_) (fun h44 => ?_)
          · refine G_iload_n 50 hC rfl dX12_grid_50 ?_
            refine G_if_lt 51 58 hC dX12_grid_51 (by decide) (fun h51 => ?_) (fun h51 => ?_)
            · exact absurd h51 (nI_pos (by omega))
            · refine G_iload_n 54 hC rfl dX12_grid_54 ?_
              refine G_if_ge 55 61 hC dX12_grid_55 (by decide) (fun h55 => ?_) (fun h55 => ?_)
              · refine G_aload_n 61 hC rfl dX12_grid_61 ?_
                refine M_getR 62 hC hF fl_X12_7_11 rfl rfl dX12_grid_62 ?_
                refine G_aload_n 65 hC rfl dX12_grid_65 ?_
                refine N_getI 66 hC hF fl_X12_104_11 rfl dX12_grid_66 ?_
                refine G_iload_n 69 hC rfl dX12_grid_69 ?_
                refine N_iastO 70 hC hF rfl (by decide) (by decide) (hng) (by omega) dX12_grid_70 ?_
                refine G_aload_n 71 hC rfl dX12_grid_71 ?_
                refine M_getR 72 hC hF fl_X12_13_11 rfl rfl dX12_grid_72 ?_
                refine G_aload_n 75 hC rfl dX12_grid_75 ?_
                refine N_getI 76 hC hF fl_X12_104_11 rfl dX12_grid_76 ?_
                refine G_iload_n 79 hC rfl dX12_grid_79 ?_
                refine N_iastO 80 hC hF rfl (by decide) (by decide) (hng) (by omega) dX12_grid_80 ?_
                refine G_iconst 81 hC (nI 0) (by decide) dX12_grid_81 ?_
                refine G_istore 82 hC (by decide) (ls' := [_, _, _, _, _]) rfl dX12_grid_82 ?_
                exact loop _ 0 (Nat.lt_succ_self _) (Nat.zero_le _)
              · exact absurd (nI_pos' (by omega)) h55
          · exact absurd (nI_eq_of (hng.symm.trans h44) (by omega) (by omega)) (by omega)
        · exact absurd h32 hst
      · exact absurd ((nI_leI (by omega) (by omega)).mpr hw) h23
end M18

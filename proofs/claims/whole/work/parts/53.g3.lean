/-! ===== the class itself: grids ===== -/
def GrA (N : NT) (P g0 ga la z : Nat) : Prop := N.1 (P + 1) g0 = some ga ∧ N.2.1 ga = (1, 2) ∧ N.1 ga 1 = some la ∧ N.2.1 la = (16, z) ∧ z ≤ 12
def GrP (N : NT) (P ng : Nat) : Prop := ∀ j, j < ng → ∃ ga la z, GrA N P j ga la z
def LnA (N : NT) (la i p np m : Nat) : Prop := N.1 la i = some p ∧ N.2.1 p = (3, 2) ∧ N.1 p 1 = some np ∧ N.2.1 np = (13, m) ∧ m ≤ 12
section NL
variable {N : NT} {m a : Nat}
theorem nlN_sh (h : a < N.2.2) : (nlN N m).2.1 a = N.2.1 a := by
  show up (up N.2.1 N.2.2 (3, 2)) (N.2.2 + 1) (13, m) a = _
  rw [up_ne (by omega), up_ne (by omega)]
theorem nlN_rf (h : a < N.2.2) : (nlN N m).1 a = N.1 a := by
  show upd2 N.1 N.2.2 1 _ a = _
  rw [upd2_ne (by omega)]
theorem nlN_new : (nlN N m).2.1 N.2.2 = (3, 2) := by
  show up (up N.2.1 N.2.2 (3, 2)) (N.2.2 + 1) (13, m) N.2.2 = _
  rw [up_ne (by omega), up_s]
theorem nlN_num : (nlN N m).2.1 (N.2.2 + 1) = (13, m) := by
  show up (up N.2.1 N.2.2 (3, 2)) (N.2.2 + 1) (13, m) (N.2.2 + 1) = _
  rw [up_s]
theorem nlN_r : (nlN N m).1 N.2.2 1 = some (N.2.2 + 1) := by
  show upd2 N.1 N.2.2 1 (some (N.2.2 + 1)) N.2.2 1 = _
  rw [upd2_row, up_s]
theorem nlN_sz : (nlN N m).2.2 = N.2.2 + 2 := rfl
end NL
/-- a new grid, then its lines one after the other -/
def gdN (N : NT) (z : Nat) : NT := mkN (N.1, (up N.2.1 N.2.2 (1, 2), N.2.2 + 1)) N.2.2 1 (16, z)
def F_gdN (N : NT) (w la : Nat) : Nat → NT
  | 0 => N
  | j + 1 => if w = 13 then (upd2 (F_gdN N w la j).1 la j none, (F_gdN N w la j).2) else (upd2 (nlN (F_gdN N w la j) w).1 la j (some (F_gdN N w la j).2.2), (nlN (F_gdN N w la j) w).2)
def F_gdI (I : MI) (k : Int32) (N : NT) (w la : Nat) : Nat → MI
  | 0 => I
  | j + 1 => if w = 13 then F_gdI I k N w la j else upd2 (F_gdI I k N w la j) (F_gdN N w la j).2.2 0 k
section GDN
variable {N : NT} {w la a : Nat} {I : MI} {k : Int32}
theorem F_gdN_s13 {j : Nat} (h : w = 13) : F_gdN N w la (j + 1) = (upd2 (F_gdN N w la j).1 la j none, (F_gdN N w la j).2) := by
  conv => lhs; unfold F_gdN
  rw [if_pos h]
theorem F_gdN_sw {j : Nat} (h : ¬ w = 13) : F_gdN N w la (j + 1) = (upd2 (nlN (F_gdN N w la j) w).1 la j (some (F_gdN N w la j).2.2), (nlN (F_gdN N w la j) w).2) := by
  conv => lhs; unfold F_gdN
  rw [if_neg h]
theorem F_gdI_s13 {j : Nat} (h : w = 13) : F_gdI I k N w la (j + 1) = F_gdI I k N w la j := by
  conv => lhs; unfold F_gdI
  rw [if_pos h]
theorem F_gdI_sw {j : Nat} (h : ¬ w = 13) : F_gdI I k N w la (j + 1) = upd2 (F_gdI I k N w la j) (F_gdN N w la j).2.2 0 k := by
  conv => lhs; unfold F_gdI
  rw [if_neg h]
theorem F_gdN_sz : ∀ j, (F_gdN N w la j).2.2 = if w = 13 then N.2.2 else N.2.2 + 2 * j
  | 0 => by split <;> rfl
  | j + 1 => by
    by_cases h : w = 13
    · rw [F_gdN_s13 h, if_pos h]
      show (F_gdN N w la j).2.2 = _
      rw [F_gdN_sz j, if_pos h]
    · rw [F_gdN_sw h, if_neg h]
      show (F_gdN N w la j).2.2 + 2 = _
      rw [F_gdN_sz j, if_neg h]
      omega
theorem F_gdN_ge (j : Nat) : N.2.2 ≤ (F_gdN N w la j).2.2 := by rw [F_gdN_sz]; split <;> omega
theorem F_gdN_sh (h : a < N.2.2) : ∀ j, (F_gdN N w la j).2.1 a = N.2.1 a
  | 0 => rfl
  | j + 1 => by
    by_cases hw : w = 13
    · rw [F_gdN_s13 hw]; exact F_gdN_sh h j
    · rw [F_gdN_sw hw]
      show (nlN (F_gdN N w la j) w).2.1 a = _
      rw [nlN_sh (Nat.lt_of_lt_of_le h (F_gdN_ge j))]
      exact F_gdN_sh h j
theorem F_gdN_rf (h : a < N.2.2) (hl : a ≠ la) : ∀ j, (F_gdN N w la j).1 a = N.1 a
  | 0 => rfl
  | j + 1 => by
    by_cases hw : w = 13
    · rw [F_gdN_s13 hw]
      show upd2 (F_gdN N w la j).1 la j none a = _
      rw [upd2_ne hl]; exact F_gdN_rf h hl j
    · rw [F_gdN_sw hw]
      show upd2 (nlN (F_gdN N w la j) w).1 la j _ a = _
      rw [upd2_ne hl, nlN_rf (Nat.lt_of_lt_of_le h (F_gdN_ge j))]
      exact F_gdN_rf h hl j
theorem F_gdI_lt (h : a < N.2.2) : ∀ j, F_gdI I k N w la j a = I a
  | 0 => rfl
  | j + 1 => by
    by_cases hw : w = 13
    · rw [F_gdI_s13 hw]; exact F_gdI_lt h j
    · rw [F_gdI_sw hw, upd2_ne (Nat.ne_of_lt (Nat.lt_of_lt_of_le h (F_gdN_ge j)))]; exact F_gdI_lt h j
end GDN
section WIDE
variable {l : Launch} {D : va_G} {B : Nat} {own : String} {cc : ByteArray} {nL : Nat} {mn : String} {R : Room} {g : GT} {ls : List (Option MV)} {st : List MV} {I : MI} {L : ML} {N : NT} {pc kc ks kc' ks' : Nat}
theorem G_wide (hC : Cx l D B own cc nL mn R g) (h1 : kc ≤ kc') (h2 : ks ≤ ks') (kk : g pc ls st I L N kc' ks') : g pc ls st I L N kc ks := by
  obtain ⟨p, e, s, m, args, below, meth, c, Q, ⟨hx, hb, hml, ho, hts, hK, hnm⟩, rfl⟩ := hC
  exact fun lr H locs hl hH hS => W.widen h1 h2 (kk lr H locs hl hH hS)
/-- beyond the heap all is 0 -/
theorem G_zero (hC : Cx l D B own cc nL mn R g) (kk : (∀ a, N.2.2 ≤ a → (N.2.1 a).1 = 21 ∧ ∀ k, I a k = 0 ∧ L a k = 0 ∧ N.1 a k = none) → g pc ls st I L N kc ks) : g pc ls st I L N kc ks := by
  obtain ⟨p, e, s, m, args, below, meth, c, Q, ⟨hx, hb, hml, ho, hts, hK, hnm⟩, rfl⟩ := hC
  exact fun lr H locs hl hH hS => kk hH.2.2.2.1 lr H locs hl hH hS
end WIDE
section G3
variable {l : Launch} {D : va_G} {B X P c d e : Nat} {N : NT} {I : MI} {L : ML}
theorem g_line_bad (hX : FixX X P c d e N) (hK : FixC c P N) (hP : FixP c P N) {ng : Nat} (hng : I P 4 = nI ng) (hng2 : ng ≤ 6) (hGr : GrP N P ng) {x y w : Int32} (hb : ¬ (inR x ng ∧ ¬ nI 13 < w)) : Cq l D B mX11_line [vr (some X), vi x, vi y, vi w] I L N (some (vi (-1))) I L := by
  have hB := hK.b
  refine Ct.of (M := mX11_line) (by decide) (Nat.le_of_ble_eq_true rfl) (fun g (hR : Cr l D B RX11 cX11_line 5 "line" { frames := 3, cells := 0, slots := 0, locals := 63 } (some .int) 0 0 _ g) => ?_)
  have hC := hR.cx
  show g 0 [some (vr (some X)), some (vi x), some (vi y), some (vi w), none] [] _ _ N 0 0
  refine G_aload_n 0 hC rfl dX11_line_0 ?_
  refine G_getR 1 hC fl_X11_30_10 (hX.sh) (hX.plan) rfl dX11_line_1 ?_
  refine G_iload_n 4 hC rfl dX11_line_4 ?_
  by_cases hx : inR x ng
  · obtain ⟨g0, hg0, rfl⟩ := inR_of hx (by omega)
    obtain ⟨ga, la, z, hG⟩ := hGr g0 hg0
    refine G_callV1 5 hC (c_gridAt hP.sh hP.rgr hP.gr hng hng2 hg0) okX4_gridAt lk_X11_84 (hP.sh) rfl rfl rfl rfl (Nat.le_of_ble_eq_true rfl) (by decide) (by decide) dX11_line_5 ?_
    rw [hG.1]
    refine G_astore 8 hC (by decide) (ls' := [_, _, _, _, _]) rfl dX11_line_8 ?_
    refine G_aload 10 hC rfl dX11_line_10 ?_
    refine G_ifnull 12 21 hC dX11_line_12 (by decide) (fun h12 => ?_) (fun a12 h12 => ?_)
    · exact absurd h12 (by simp)
    · refine G_iload_n 15 hC rfl dX11_line_15 ?_
      refine G_bipush 16 hC (nI 13) (by decide) dX11_line_16 ?_
      refine G_icmp_le 18 23 hC dX11_line_18 (by decide) (fun h18 => ?_) (fun h18 => ?_)
      · exact absurd ⟨hx, Int32.not_lt.mpr h18⟩ hb
      · refine G_iconst 21 hC (-1) (by decide) dX11_line_21 ?_
        refine R_i 22 hR (by first | rfl | exact narrow_bI _) dX11_line_22 (Nat.le_refl _) (Nat.le_refl _) ?_
        exact ⟨rfl, rfl, rfl, rfl⟩
  · refine G_callV1 5 hC (c_gridAt_no hP.sh hP.rgr hP.gr hng hng2 hx) okX4_gridAt lk_X11_84 (hP.sh) rfl rfl rfl rfl (Nat.le_of_ble_eq_true rfl) (by decide) (by decide) dX11_line_5 ?_
    refine G_astore 8 hC (by decide) (ls' := [_, _, _, _, _]) rfl dX11_line_8 ?_
    refine G_aload 10 hC rfl dX11_line_10 ?_
    refine G_ifnull 12 21 hC dX11_line_12 (by decide) (fun h12 => ?_) (fun a12 h12 => ?_)
    · refine G_iconst 21 hC (-1) (by decide) dX11_line_21 ?_
      refine R_i 22 hR (by first | rfl | exact narrow_bI _) dX11_line_22 (Nat.le_refl _) (Nat.le_refl _) ?_
      exact ⟨rfl, rfl, rfl, rfl⟩
    · cases h12
theorem g_line_state (hX : FixX X P c d e N) (hK : FixC c P N) (hP : FixP c P N) {ng : Nat} (hng : I P 4 = nI ng) (hng2 : ng ≤ 6) {g0 ga la z : Nat} (hg : g0 < ng) (hG : GrA N P g0 ga la z) {y w : Int32} (hw : ¬ nI 13 < w) (hst : I (c + 0) 16 = nI 1) : Cq l D B mX11_line [vr (some X), vi (nI g0), vi y, vi w] I L N (some (vi (-2))) I L := by
  have hB := hK.b
  refine Ct.of (M := mX11_line) (by decide) (Nat.le_of_ble_eq_true rfl) (fun g (hR : Cr l D B RX11 cX11_line 5 "line" { frames := 3, cells := 0, slots := 0, locals := 63 } (some .int) 0 0 _ g) => ?_)
  have hC := hR.cx
  show g 0 [some (vr (some X)), some (vi (nI g0)), some (vi y), some (vi w), none] [] _ _ N 0 0
  refine G_aload_n 0 hC rfl dX11_line_0 ?_
  refine G_getR 1 hC fl_X11_30_10 (hX.sh) (hX.plan) rfl dX11_line_1 ?_
  refine G_iload_n 4 hC rfl dX11_line_4 ?_
  refine G_callV1 5 hC (c_gridAt hP.sh hP.rgr hP.gr hng hng2 hg) okX4_gridAt lk_X11_84 (hP.sh) rfl rfl rfl rfl (Nat.le_of_ble_eq_true rfl) (by decide) (by decide) dX11_line_5 ?_
  rw [hG.1]
  refine G_astore 8 hC (by decide) (ls' := [_, _, _, _, _]) rfl dX11_line_8 ?_
  refine G_aload 10 hC rfl dX11_line_10 ?_
  refine G_ifnull 12 21 hC dX11_line_12 (by decide) (fun h12 => ?_) (fun a12 h12 => ?_)
  · exact absurd h12 (by simp)
  · refine G_iload_n 15 hC rfl dX11_line_15 ?_
    refine G_bipush 16 hC (nI 13) (by decide) dX11_line_16 ?_
    refine G_icmp_le 18 23 hC dX11_line_18 (by decide) (fun h18 => ?_) (fun h18 => ?_)
    · refine G_aload_n 23 hC rfl dX11_line_23 ?_
      refine G_getR 24 hC fl_X11_39_10 (hX.sh) (hX.course) rfl dX11_line_24 ?_
      refine G_getI 27 hC fl_X11_57_0 (hB 0 _ rfl (by decide)) rfl dX11_line_27 ?_
      refine G_iconst 30 hC (nI 1) (by decide) dX11_line_30 ?_
      refine G_icmp_ne 31 37 hC dX11_line_31 (by decide) (fun h31 => ?_) (fun h31 => ?_)
      · exact absurd hst h31
      · refine G_bipush 34 hC (-2) (by decide) dX11_line_34 ?_
        refine R_i 36 hR (by first | rfl | exact narrow_bI _) dX11_line_36 (Nat.le_refl _) (Nat.le_refl _) ?_
        exact ⟨rfl, rfl, rfl, rfl⟩
    · exact absurd (Int32.not_lt.mp hw) h18
theorem g_line_size (hX : FixX X P c d e N) (hK : FixC c P N) (hP : FixP c P N) {ng : Nat} (hng : I P 4 = nI ng) (hng2 : ng ≤ 6) {g0 ga la z : Nat} (hg : g0 < ng) (hG : GrA N P g0 ga la z) {y w : Int32} (hw : ¬ nI 13 < w) (hst : ¬ I (c + 0) 16 = nI 1) (hw0 : w < 0) : Cq l D B mX11_line [vr (some X), vi (nI g0), vi y, vi w] I L N (some (vi (-15))) I L := by
  have hB := hK.b
  refine Ct.of (M := mX11_line) (by decide) (Nat.le_of_ble_eq_true rfl) (fun g (hR : Cr l D B RX11 cX11_line 5 "line" { frames := 3, cells := 0, slots := 0, locals := 63 } (some .int) 0 0 _ g) => ?_)
  have hC := hR.cx
  show g 0 [some (vr (some X)), some (vi (nI g0)), some (vi y), some (vi w), none] [] _ _ N 0 0
  refine G_aload_n 0 hC rfl dX11_line_0 ?_
  refine G_getR 1 hC fl_X11_30_10 (hX.sh) (hX.plan) rfl dX11_line_1 ?_
  refine G_iload_n 4 hC rfl dX11_line_4 ?_
  refine G_callV1 5 hC (c_gridAt hP.sh hP.rgr hP.gr hng hng2 hg) okX4_gridAt lk_X11_84 (hP.sh) rfl rfl rfl rfl (Nat.le_of_ble_eq_true rfl) (by decide) (by decide) dX11_line_5 ?_
  rw [hG.1]
  refine G_astore 8 hC (by decide) (ls' := [_, _, _, _, _]) rfl dX11_line_8 ?_
  refine G_aload 10 hC rfl dX11_line_10 ?_
  refine G_ifnull 12 21 hC dX11_line_12 (by decide) (fun h12 => ?_) (fun a12 h12 => ?_)
  · exact absurd h12 (by simp)
  · refine G_iload_n 15 hC rfl dX11_line_15 ?_
    refine G_bipush 16 hC (nI 13) (by decide) dX11_line_16 ?_
    refine G_icmp_le 18 23 hC dX11_line_18 (by decide) (fun h18 => ?_) (fun h18 => ?_)
    · refine G_aload_n 23 hC rfl dX11_line_23 ?_
      refine G_getR 24 hC fl_X11_39_10 (hX.sh) (hX.course) rfl dX11_line_24 ?_
      refine G_getI 27 hC fl_X11_57_0 (hB 0 _ rfl (by decide)) rfl dX11_line_27 ?_
      refine G_iconst 30 hC (nI 1) (by decide) dX11_line_30 ?_
      refine G_icmp_ne 31 37 hC dX11_line_31 (by decide) (fun h31 => ?_) (fun h31 => ?_)
      · refine G_iload_n 37 hC rfl dX11_line_37 ?_
        refine G_if_ge 38 46 hC dX11_line_38 (by decide) (fun h38 => ?_) (fun h38 => ?_)
        · exact absurd hw0 (Int32.not_lt.mpr h38)
        · refine G_iconst 41 hC (nI 5) (by decide) dX11_line_41 ?_
          refine G_callS1 42 hC (g_refusal) okX11_refusal lk_X11_63 rfl rfl rfl (Nat.le_of_ble_eq_true rfl) (by decide) (by decide) dX11_line_42 ?_
          refine R_i 45 hR (by first | rfl | exact narrow_bI _) dX11_line_45 (Nat.le_refl _) (Nat.le_refl _) ?_
          exact ⟨congrArg (fun z => some (vi z)) (by decide), rfl, rfl, rfl⟩
      · exact absurd h31 hst
    · exact absurd (Int32.not_lt.mp hw) h18
theorem g_line_index (hX : FixX X P c d e N) (hK : FixC c P N) (hP : FixP c P N) {ng : Nat} (hng : I P 4 = nI ng) (hng2 : ng ≤ 6) {g0 ga la z w : Nat} (hg : g0 < ng) (hG : GrA N P g0 ga la z) {y : Int32} (hw : w ≤ 13) (hst : ¬ I (c + 0) 16 = nI 1) (hy : ¬ inR y z) : Cq l D B mX11_line [vr (some X), vi (nI g0), vi y, vi (nI w)] I L N (some (vi (-12))) I L := by
  have hB := hK.b
  refine Ct.of (M := mX11_line) (by decide) (Nat.le_of_ble_eq_true rfl) (fun g (hR : Cr l D B RX11 cX11_line 5 "line" { frames := 3, cells := 0, slots := 0, locals := 63 } (some .int) 0 0 _ g) => ?_)
  have hC := hR.cx
  show g 0 [some (vr (some X)), some (vi (nI g0)), some (vi y), some (vi (nI w)), none] [] _ _ N 0 0
  refine G_aload_n 0 hC rfl dX11_line_0 ?_
  refine G_getR 1 hC fl_X11_30_10 (hX.sh) (hX.plan) rfl dX11_line_1 ?_
  refine G_iload_n 4 hC rfl dX11_line_4 ?_
  refine G_callV1 5 hC (c_gridAt hP.sh hP.rgr hP.gr hng hng2 hg) okX4_gridAt lk_X11_84 (hP.sh) rfl rfl rfl rfl (Nat.le_of_ble_eq_true rfl) (by decide) (by decide) dX11_line_5 ?_
  rw [hG.1]
  refine G_astore 8 hC (by decide) (ls' := [_, _, _, _, _]) rfl dX11_line_8 ?_
  refine G_aload 10 hC rfl dX11_line_10 ?_
  refine G_ifnull 12 21 hC dX11_line_12 (by decide) (fun h12 => ?_) (fun a12 h12 => ?_)
  · exact absurd h12 (by simp)
  · refine G_iload_n 15 hC rfl dX11_line_15 ?_
    refine G_bipush 16 hC (nI 13) (by decide) dX11_line_16 ?_
    refine G_icmp_le 18 23 hC dX11_line_18 (by decide) (fun h18 => ?_) (fun h18 => ?_)
    · refine G_aload_n 23 hC rfl dX11_line_23 ?_
      refine G_getR 24 hC fl_X11_39_10 (hX.sh) (hX.course) rfl dX11_line_24 ?_
      refine G_getI 27 hC fl_X11_57_0 (hB 0 _ rfl (by decide)) rfl dX11_line_27 ?_
      refine G_iconst 30 hC (nI 1) (by decide) dX11_line_30 ?_
      refine G_icmp_ne 31 37 hC dX11_line_31 (by decide) (fun h31 => ?_) (fun h31 => ?_)
      · refine G_iload_n 37 hC rfl dX11_line_37 ?_
        refine G_if_ge 38 46 hC dX11_line_38 (by decide) (fun h38 => ?_) (fun h38 => ?_)
        · refine G_aload 46 hC rfl dX11_line_46 ?_
          refine G_iload_n 48 hC rfl dX11_line_48 ?_
          refine G_callV1 49 hC (c_Grid_has hG.2.1 hG.2.2.1 hG.2.2.2.1 hG.2.2.2.2) okX1_has lk_X11_88 (hG.2.1) rfl rfl rfl rfl (Nat.le_of_ble_eq_true rfl) (by decide) (by decide) dX11_line_49 ?_
          first | refine G_if_ne_b 52 60 hC dX11_line_52 (by decide) (fun h52 => ?_) (fun h52 => ?_) | refine G_if_ne 52 60 hC dX11_line_52 (by decide) (fun h52 => ?_) (fun h52 => ?_)
          · exact absurd h52 hy
          · refine G_iconst 55 hC (nI 2) (by decide) dX11_line_55 ?_
            refine G_callS1 56 hC (g_refusal) okX11_refusal lk_X11_63 rfl rfl rfl (Nat.le_of_ble_eq_true rfl) (by decide) (by decide) dX11_line_56 ?_
            refine R_i 59 hR (by first | rfl | exact narrow_bI _) dX11_line_59 (Nat.le_refl _) (Nat.le_refl _) ?_
            exact ⟨congrArg (fun z => some (vi z)) (by decide), rfl, rfl, rfl⟩
        · exact absurd (Int32.not_lt.mp (nI_pos (by omega))) h38
      · exact absurd h31 hst
    · exact absurd ((nI_leI (by omega) (by omega)).mpr (by omega)) h18
theorem g_line_ok (hX : FixX X P c d e N) (hK : FixC c P N) (hP : FixP c P N) {ng : Nat} (hng : I P 4 = nI ng) (hng2 : ng ≤ 6) {g0 ga la z w i1 : Nat} (hg : g0 < ng) (hG : GrA N P g0 ga la z) (hw : w ≤ 12) (hst : ¬ I (c + 0) 16 = nI 1) (hi1 : i1 < z) (hla : la < N.2.2) : Cn l D B mX11_line [vr (some X), vi (nI g0), vi (nI i1), vi (nI w)] I L N 2 14 (some (vi (nI w))) (upd2 I N.2.2 0 (I ga 0)) L (upd2 (nlN N w).1 la i1 (some N.2.2), (nlN N w).2) := by
  have hB := hK.b
  have hz12 := hG.2.2.2.2
  refine Ct.of (M := mX11_line) (by decide) (Nat.le_of_ble_eq_true rfl) (fun g (hR : Cr l D B RX11 cX11_line 5 "line" { frames := 3, cells := 2, slots := 14, locals := 63 } (some .int) 2 14 _ g) => ?_)
  have hC := hR.cx
  show g 0 [some (vr (some X)), some (vi (nI g0)), some (vi (nI i1)), some (vi (nI w)), none] [] _ _ N 0 0
  refine G_aload_n 0 hC rfl dX11_line_0 ?_
  refine G_getR 1 hC fl_X11_30_10 (hX.sh) (hX.plan) rfl dX11_line_1 ?_
  refine G_iload_n 4 hC rfl dX11_line_4 ?_
  refine G_callV1 5 hC (c_gridAt hP.sh hP.rgr hP.gr hng hng2 hg) okX4_gridAt lk_X11_84 (hP.sh) rfl rfl rfl rfl (Nat.le_of_ble_eq_true rfl) (by decide) (by decide) dX11_line_5 ?_
  rw [hG.1]
  refine G_astore 8 hC (by decide) (ls' := [_, _, _, _, _]) rfl dX11_line_8 ?_
  refine G_aload 10 hC rfl dX11_line_10 ?_
  refine G_ifnull 12 21 hC dX11_line_12 (by decide) (fun h12 => ?_) (fun a12 h12 => ?_)
  · exact absurd h12 (by simp)
  · refine G_iload_n 15 hC rfl dX11_line_15 ?_
    refine G_bipush 16 hC (nI 13) (by decide) dX11_line_16 ?_
    refine G_icmp_le 18 23 hC dX11_line_18 (by decide) (fun h18 => ?_) (fun h18 => ?_)
    · refine G_aload_n 23 hC rfl dX11_line_23 ?_
      refine G_getR 24 hC fl_X11_39_10 (hX.sh) (hX.course) rfl dX11_line_24 ?_
      refine G_getI 27 hC fl_X11_57_0 (hB 0 _ rfl (by decide)) rfl dX11_line_27 ?_
      refine G_iconst 30 hC (nI 1) (by decide) dX11_line_30 ?_
      refine G_icmp_ne 31 37 hC dX11_line_31 (by decide) (fun h31 => ?_) (fun h31 => ?_)
      · refine G_iload_n 37 hC rfl dX11_line_37 ?_
        refine G_if_ge 38 46 hC dX11_line_38 (by decide) (fun h38 => ?_) (fun h38 => ?_)
        · refine G_aload 46 hC rfl dX11_line_46 ?_
          refine G_iload_n 48 hC rfl dX11_line_48 ?_
          refine G_callV1 49 hC (c_Grid_has hG.2.1 hG.2.2.1 hG.2.2.2.1 hG.2.2.2.2) okX1_has lk_X11_88 (hG.2.1) rfl rfl rfl rfl (Nat.le_of_ble_eq_true rfl) (by decide) (by decide) dX11_line_49 ?_
          first | refine G_if_ne_b 52 60 hC dX11_line_52 (by decide) (fun h52 => ?_) (fun h52 => ?_) | refine G_if_ne 52 60 hC dX11_line_52 (by decide) (fun h52 => ?_) (fun h52 => ?_)
          · refine G_aload 60 hC rfl dX11_line_60 ?_
            refine G_getR 62 hC fl_X11_72_1 (hG.2.1) (hG.2.2.1) rfl dX11_line_62 ?_
            refine G_iload_n 65 hC rfl dX11_line_65 ?_
            refine G_aload 66 hC rfl dX11_line_66 ?_
            refine G_getI 68 hC fl_X11_91_1 (hG.2.1) rfl dX11_line_68 ?_
            refine G_iload_n 71 hC rfl dX11_line_71 ?_
            refine G_callSn 72 hC (g_newLine hw) okX11_newLine lk_X11_76 rfl rfl rfl (Nat.le_of_ble_eq_true rfl) (by decide) (by decide) dX11_line_72 ?_
            refine G_aast 75 hC ((RX3, TX3, 2)) ((nlN_sh hla).trans hG.2.2.2.1) (by decide) (by decide) (nlN_new) rfl (Or.inl rfl) (rfl) (by omega) (by omega) dX11_line_75 ?_
            refine G_iload_n 76 hC rfl dX11_line_76 ?_
            refine R_i 77 hR (by first | rfl | exact narrow_bI _) dX11_line_77 (Nat.le_refl _) (Nat.le_refl _) ?_
            exact ⟨rfl, rfl, rfl, rfl⟩
          · exact absurd (inR_nI hi1 (by omega)) h52
        · exact absurd (Int32.not_lt.mp (nI_pos (by omega))) h38
      · exact absurd h31 hst
    · exact absurd ((nI_leI (by omega) (by omega)).mpr (by omega)) h18
theorem g_line_ok13 (hX : FixX X P c d e N) (hK : FixC c P N) (hP : FixP c P N) {ng : Nat} (hng : I P 4 = nI ng) (hng2 : ng ≤ 6) {g0 ga la z i1 : Nat} (hg : g0 < ng) (hG : GrA N P g0 ga la z) (hst : ¬ I (c + 0) 16 = nI 1) (hi1 : i1 < z) : Cn l D B mX11_line [vr (some X), vi (nI g0), vi (nI i1), vi (nI 13)] I L N 0 0 (some (vi (nI 13))) I L (upd2 N.1 la i1 none, N.2) := by
  have hB := hK.b
  have hz12 := hG.2.2.2.2
  refine Ct.of (M := mX11_line) (by decide) (Nat.le_of_ble_eq_true rfl) (fun g (hR : Cr l D B RX11 cX11_line 5 "line" { frames := 3, cells := 0, slots := 0, locals := 63 } (some .int) 0 0 _ g) => ?_)
  have hC := hR.cx
  show g 0 [some (vr (some X)), some (vi (nI g0)), some (vi (nI i1)), some (vi (nI 13)), none] [] _ _ N 0 0
  refine G_aload_n 0 hC rfl dX11_line_0 ?_
  refine G_getR 1 hC fl_X11_30_10 (hX.sh) (hX.plan) rfl dX11_line_1 ?_
  refine G_iload_n 4 hC rfl dX11_line_4 ?_
  refine G_callV1 5 hC (c_gridAt hP.sh hP.rgr hP.gr hng hng2 hg) okX4_gridAt lk_X11_84 (hP.sh) rfl rfl rfl rfl (Nat.le_of_ble_eq_true rfl) (by decide) (by decide) dX11_line_5 ?_
  rw [hG.1]
  refine G_astore 8 hC (by decide) (ls' := [_, _, _, _, _]) rfl dX11_line_8 ?_
  refine G_aload 10 hC rfl dX11_line_10 ?_
  refine G_ifnull 12 21 hC dX11_line_12 (by decide) (fun h12 => ?_) (fun a12 h12 => ?_)
  · exact absurd h12 (by simp)
  · refine G_iload_n 15 hC rfl dX11_line_15 ?_
    refine G_bipush 16 hC (nI 13) (by decide) dX11_line_16 ?_
    refine G_icmp_le 18 23 hC dX11_line_18 (by decide) (fun h18 => ?_) (fun h18 => ?_)
    · refine G_aload_n 23 hC rfl dX11_line_23 ?_
      refine G_getR 24 hC fl_X11_39_10 (hX.sh) (hX.course) rfl dX11_line_24 ?_
      refine G_getI 27 hC fl_X11_57_0 (hB 0 _ rfl (by decide)) rfl dX11_line_27 ?_
      refine G_iconst 30 hC (nI 1) (by decide) dX11_line_30 ?_
      refine G_icmp_ne 31 37 hC dX11_line_31 (by decide) (fun h31 => ?_) (fun h31 => ?_)
      · refine G_iload_n 37 hC rfl dX11_line_37 ?_
        refine G_if_ge 38 46 hC dX11_line_38 (by decide) (fun h38 => ?_) (fun h38 => ?_)
        · refine G_aload 46 hC rfl dX11_line_46 ?_
          refine G_iload_n 48 hC rfl dX11_line_48 ?_
          refine G_callV1 49 hC (c_Grid_has hG.2.1 hG.2.2.1 hG.2.2.2.1 hG.2.2.2.2) okX1_has lk_X11_88 (hG.2.1) rfl rfl rfl rfl (Nat.le_of_ble_eq_true rfl) (by decide) (by decide) dX11_line_49 ?_
          first | refine G_if_ne_b 52 60 hC dX11_line_52 (by decide) (fun h52 => ?_) (fun h52 => ?_) | refine G_if_ne 52 60 hC dX11_line_52 (by decide) (fun h52 => ?_) (fun h52 => ?_)
          · refine G_aload 60 hC rfl dX11_line_60 ?_
            refine G_getR 62 hC fl_X11_72_1 (hG.2.1) (hG.2.2.1) rfl dX11_line_62 ?_
            refine G_iload_n 65 hC rfl dX11_line_65 ?_
            refine G_aload 66 hC rfl dX11_line_66 ?_
            refine G_getI 68 hC fl_X11_91_1 (hG.2.1) rfl dX11_line_68 ?_
            refine G_iload_n 71 hC rfl dX11_line_71 ?_
            refine G_callS1 72 hC (g_newLine13) okX11_newLine lk_X11_76 rfl rfl rfl (Nat.le_of_ble_eq_true rfl) (by decide) (by decide) dX11_line_72 ?_
            refine G_aastN 75 hC (hG.2.2.2.1) (by decide) (by decide) (rfl) (by omega) (by omega) dX11_line_75 ?_
            refine G_iload_n 76 hC rfl dX11_line_76 ?_
            refine R_i 77 hR (by first | rfl | exact narrow_bI _) dX11_line_77 (Nat.le_refl _) (Nat.le_refl _) ?_
            exact ⟨rfl, rfl, rfl, rfl⟩
          · exact absurd (inR_nI hi1 (by omega)) h52
        · exact absurd (show (0 : Int32) ≤ nI 13 by decide) h38
      · exact absurd h31 hst
    · exact absurd (show nI 13 ≤ nI 13 by decide) h18
theorem g_put_bad (hX : FixX X P c d e N) (hP : FixP c P N) {ng : Nat} (hng : I P 4 = nI ng) (hng2 : ng ≤ 6) {x y k : Int32} {v : Int64} (hx : ¬ inR x ng) : Cq l D B mX11_put [vr (some X), vi x, vi y, vi k, vl v] I L N (some (vi (-1))) I L := by
  refine Ct.of (M := mX11_put) (by decide) (Nat.le_of_ble_eq_true rfl) (fun g (hR : Cr l D B RX11 cX11_put 9 "put" { frames := 2, cells := 0, slots := 0, locals := 42 } (some .int) 0 0 _ g) => ?_)
  have hC := hR.cx
  show g 0 [some (vr (some X)), some (vi x), some (vi y), some (vi k), some (vl v), none, none, none, none] [] _ _ N 0 0
  refine G_aload_n 0 hC rfl dX11_put_0 ?_
  refine G_getR 1 hC fl_X11_30_10 (hX.sh) (hX.plan) rfl dX11_put_1 ?_
  refine G_iload_n 4 hC rfl dX11_put_4 ?_
  refine G_callV1 5 hC (c_gridAt_no hP.sh hP.rgr hP.gr hng hng2 hx) okX4_gridAt lk_X11_84 (hP.sh) rfl rfl rfl rfl (Nat.le_of_ble_eq_true rfl) (by decide) (by decide) dX11_put_5 ?_
  refine G_astore 8 hC (by decide) (ls' := [_, _, _, _, _, _, _, _, _]) rfl dX11_put_8 ?_
  refine G_aload 10 hC rfl dX11_put_10 ?_
  refine G_ifnonnull 12 17 hC dX11_put_12 (by decide) (fun h12 => ?_) (fun a12 h12 => ?_)
  · refine G_iconst 15 hC (-1) (by decide) dX11_put_15 ?_
    refine R_i 16 hR (by first | rfl | exact narrow_bI _) dX11_put_16 (Nat.le_refl _) (Nat.le_refl _) ?_
    exact ⟨rfl, rfl, rfl, rfl⟩
  · cases h12
theorem g_put_state (hX : FixX X P c d e N) (hK : FixC c P N) (hP : FixP c P N) {ng : Nat} (hng : I P 4 = nI ng) (hng2 : ng ≤ 6) {g0 ga la z : Nat} (hg : g0 < ng) (hG : GrA N P g0 ga la z) {y k : Int32} {v : Int64} (hst : I (c + 0) 16 = nI 1) : Cq l D B mX11_put [vr (some X), vi (nI g0), vi y, vi k, vl v] I L N (some (vi (-2))) I L := by
  have hB := hK.b
  refine Ct.of (M := mX11_put) (by decide) (Nat.le_of_ble_eq_true rfl) (fun g (hR : Cr l D B RX11 cX11_put 9 "put" { frames := 2, cells := 0, slots := 0, locals := 42 } (some .int) 0 0 _ g) => ?_)
  have hC := hR.cx
  show g 0 [some (vr (some X)), some (vi (nI g0)), some (vi y), some (vi k), some (vl v), none, none, none, none] [] _ _ N 0 0
  refine G_aload_n 0 hC rfl dX11_put_0 ?_
  refine G_getR 1 hC fl_X11_30_10 (hX.sh) (hX.plan) rfl dX11_put_1 ?_
  refine G_iload_n 4 hC rfl dX11_put_4 ?_
  refine G_callV1 5 hC (c_gridAt hP.sh hP.rgr hP.gr hng hng2 hg) okX4_gridAt lk_X11_84 (hP.sh) rfl rfl rfl rfl (Nat.le_of_ble_eq_true rfl) (by decide) (by decide) dX11_put_5 ?_
  rw [hG.1]
  refine G_astore 8 hC (by decide) (ls' := [_, _, _, _, _, _, _, _, _]) rfl dX11_put_8 ?_
  refine G_aload 10 hC rfl dX11_put_10 ?_
  refine G_ifnonnull 12 17 hC dX11_put_12 (by decide) (fun h12 => ?_) (fun a12 h12 => ?_)
  · exact absurd h12 (by simp)
  · refine G_aload_n 17 hC rfl dX11_put_17 ?_
    refine G_getR 18 hC fl_X11_39_10 (hX.sh) (hX.course) rfl dX11_put_18 ?_
    refine G_getI 21 hC fl_X11_57_0 (hB 0 _ rfl (by decide)) rfl dX11_put_21 ?_
    refine G_iconst 24 hC (nI 1) (by decide) dX11_put_24 ?_
    refine G_icmp_ne 25 31 hC dX11_put_25 (by decide) (fun h25 => ?_) (fun h25 => ?_)
    · exact absurd hst h25
    · refine G_bipush 28 hC (-2) (by decide) dX11_put_28 ?_
      refine R_i 30 hR (by first | rfl | exact narrow_bI _) dX11_put_30 (Nat.le_refl _) (Nat.le_refl _) ?_
      exact ⟨rfl, rfl, rfl, rfl⟩
theorem g_put_fault (hX : FixX X P c d e N) (hK : FixC c P N) (hP : FixP c P N) {ng : Nat} (hng : I P 4 = nI ng) (hng2 : ng ≤ 6) {g0 ga la z : Nat} (hg : g0 < ng) (hG : GrA N P g0 ga la z) {y k : Int32} {v : Int64} (hst : ¬ I (c + 0) 16 = nI 1) (hf : ¬ F_fo N la z y = 0) : Cq l D B mX11_put [vr (some X), vi (nI g0), vi y, vi k, vl v] I L N (some (vi (-10 - F_fo N la z y))) I L := by
  have hB := hK.b
  refine Ct.of (M := mX11_put) (by decide) (Nat.le_of_ble_eq_true rfl) (fun g (hR : Cr l D B RX11 cX11_put 9 "put" { frames := 2, cells := 0, slots := 0, locals := 42 } (some .int) 0 0 _ g) => ?_)
  have hC := hR.cx
  show g 0 [some (vr (some X)), some (vi (nI g0)), some (vi y), some (vi k), some (vl v), none, none, none, none] [] _ _ N 0 0
  refine G_aload_n 0 hC rfl dX11_put_0 ?_
  refine G_getR 1 hC fl_X11_30_10 (hX.sh) (hX.plan) rfl dX11_put_1 ?_
  refine G_iload_n 4 hC rfl dX11_put_4 ?_
  refine G_callV1 5 hC (c_gridAt hP.sh hP.rgr hP.gr hng hng2 hg) okX4_gridAt lk_X11_84 (hP.sh) rfl rfl rfl rfl (Nat.le_of_ble_eq_true rfl) (by decide) (by decide) dX11_put_5 ?_
  rw [hG.1]
  refine G_astore 8 hC (by decide) (ls' := [_, _, _, _, _, _, _, _, _]) rfl dX11_put_8 ?_
  refine G_aload 10 hC rfl dX11_put_10 ?_
  refine G_ifnonnull 12 17 hC dX11_put_12 (by decide) (fun h12 => ?_) (fun a12 h12 => ?_)
  · exact absurd h12 (by simp)
  · refine G_aload_n 17 hC rfl dX11_put_17 ?_
    refine G_getR 18 hC fl_X11_39_10 (hX.sh) (hX.course) rfl dX11_put_18 ?_
    refine G_getI 21 hC fl_X11_57_0 (hB 0 _ rfl (by decide)) rfl dX11_put_21 ?_
    refine G_iconst 24 hC (nI 1) (by decide) dX11_put_24 ?_
    refine G_icmp_ne 25 31 hC dX11_put_25 (by decide) (fun h25 => ?_) (fun h25 => ?_)
    · refine G_aload 31 hC rfl dX11_put_31 ?_
      refine G_iload_n 33 hC rfl dX11_put_33 ?_
      refine G_callV1 34 hC (c_faultOf hG.2.1 hG.2.2.1 hG.2.2.2.1 hG.2.2.2.2) okX1_faultOf lk_X11_94 (hG.2.1) rfl rfl rfl rfl (Nat.le_of_ble_eq_true rfl) (by decide) (by decide) dX11_put_34 ?_
      refine G_istore 37 hC (by decide) (ls' := [_, _, _, _, _, _, _, _, _]) rfl dX11_put_37 ?_
      refine G_iload 39 hC rfl dX11_put_39 ?_
      first | refine G_if_eq_b 41 50 hC dX11_put_41 (by decide) (fun h41 => ?_) (fun h41 => ?_) | refine G_if_eq 41 50 hC dX11_put_41 (by decide) (fun h41 => ?_) (fun h41 => ?_)
      · exact absurd h41 hf
      · refine G_iload 44 hC rfl dX11_put_44 ?_
        refine G_callS1 46 hC (g_refusal) okX11_refusal lk_X11_63 rfl rfl rfl (Nat.le_of_ble_eq_true rfl) (by decide) (by decide) dX11_put_46 ?_
        refine R_i 49 hR (by first | rfl | exact narrow_bI _) dX11_put_49 (Nat.le_refl _) (Nat.le_refl _) ?_
        exact ⟨rfl, rfl, rfl, rfl⟩
    · exact absurd h25 hst
theorem g_put_index (hX : FixX X P c d e N) (hK : FixC c P N) (hP : FixP c P N) {ng : Nat} (hng : I P 4 = nI ng) (hng2 : ng ≤ 6) {g0 ga la z i1 p np m : Nat} (hg : g0 < ng) (hG : GrA N P g0 ga la z) {k : Int32} {v : Int64} (hst : ¬ I (c + 0) 16 = nI 1) (hi1 : i1 < z) (hL : LnA N la i1 p np m) (hk : ¬ inR k m) : Cq l D B mX11_put [vr (some X), vi (nI g0), vi (nI i1), vi k, vl v] I L N (some (vi (-12))) I L := by
  have hB := hK.b
  have hz12 := hG.2.2.2.2
  refine Ct.of (M := mX11_put) (by decide) (Nat.le_of_ble_eq_true rfl) (fun g (hR : Cr l D B RX11 cX11_put 9 "put" { frames := 2, cells := 0, slots := 0, locals := 42 } (some .int) 0 0 _ g) => ?_)
  have hC := hR.cx
  show g 0 [some (vr (some X)), some (vi (nI g0)), some (vi (nI i1)), some (vi k), some (vl v), none, none, none, none] [] _ _ N 0 0
  refine G_aload_n 0 hC rfl dX11_put_0 ?_
  refine G_getR 1 hC fl_X11_30_10 (hX.sh) (hX.plan) rfl dX11_put_1 ?_
  refine G_iload_n 4 hC rfl dX11_put_4 ?_
  refine G_callV1 5 hC (c_gridAt hP.sh hP.rgr hP.gr hng hng2 hg) okX4_gridAt lk_X11_84 (hP.sh) rfl rfl rfl rfl (Nat.le_of_ble_eq_true rfl) (by decide) (by decide) dX11_put_5 ?_
  rw [hG.1]
  refine G_astore 8 hC (by decide) (ls' := [_, _, _, _, _, _, _, _, _]) rfl dX11_put_8 ?_
  refine G_aload 10 hC rfl dX11_put_10 ?_
  refine G_ifnonnull 12 17 hC dX11_put_12 (by decide) (fun h12 => ?_) (fun a12 h12 => ?_)
  · exact absurd h12 (by simp)
  · refine G_aload_n 17 hC rfl dX11_put_17 ?_
    refine G_getR 18 hC fl_X11_39_10 (hX.sh) (hX.course) rfl dX11_put_18 ?_
    refine G_getI 21 hC fl_X11_57_0 (hB 0 _ rfl (by decide)) rfl dX11_put_21 ?_
    refine G_iconst 24 hC (nI 1) (by decide) dX11_put_24 ?_
    refine G_icmp_ne 25 31 hC dX11_put_25 (by decide) (fun h25 => ?_) (fun h25 => ?_)
    · refine G_aload 31 hC rfl dX11_put_31 ?_
      refine G_iload_n 33 hC rfl dX11_put_33 ?_
      refine G_callV1 34 hC (c_faultOf hG.2.1 hG.2.2.1 hG.2.2.2.1 hG.2.2.2.2) okX1_faultOf lk_X11_94 (hG.2.1) rfl rfl rfl rfl (Nat.le_of_ble_eq_true rfl) (by decide) (by decide) dX11_put_34 ?_
      rw [F_fo_ok hi1 hG.2.2.2.2 hL.1]
      refine G_istore 37 hC (by decide) (ls' := [_, _, _, _, _, _, _, _, _]) rfl dX11_put_37 ?_
      refine G_iload 39 hC rfl dX11_put_39 ?_
      first | refine G_if_eq_b 41 50 hC dX11_put_41 (by decide) (fun h41 => ?_) (fun h41 => ?_) | refine G_if_eq 41 50 hC dX11_put_41 (by decide) (fun h41 => ?_) (fun h41 => ?_)
      · refine G_aload 50 hC rfl dX11_put_50 ?_
        refine G_getR 52 hC fl_X11_72_1 (hG.2.1) (hG.2.2.1) rfl dX11_put_52 ?_
        refine G_iload_n 55 hC rfl dX11_put_55 ?_
        refine G_aald 56 hC (hG.2.2.2.1) (by decide) (by decide) (rfl) (by omega) (by omega) (hL.1) dX11_put_56 ?_
        refine G_astore 57 hC (by decide) (ls' := [_, _, _, _, _, _, _, _, _]) rfl dX11_put_57 ?_
        refine G_aload 59 hC rfl dX11_put_59 ?_
        refine G_iload_n 61 hC rfl dX11_put_61 ?_
        refine G_callV1 62 hC (c_Line_has hL.2.1 hL.2.2.1 hL.2.2.2.1 hL.2.2.2.2) okX3_has lk_X11_97 (hL.2.1) rfl rfl rfl rfl (Nat.le_of_ble_eq_true rfl) (by decide) (by decide) dX11_put_62 ?_
        first | refine G_if_ne_b 65 73 hC dX11_put_65 (by decide) (fun h65 => ?_) (fun h65 => ?_) | refine G_if_ne 65 73 hC dX11_put_65 (by decide) (fun h65 => ?_) (fun h65 => ?_)
        · exact absurd h65 hk
        · refine G_iconst 68 hC (nI 2) (by decide) dX11_put_68 ?_
          refine G_callS1 69 hC (g_refusal) okX11_refusal lk_X11_63 rfl rfl rfl (Nat.le_of_ble_eq_true rfl) (by decide) (by decide) dX11_put_69 ?_
          refine R_i 72 hR (by first | rfl | exact narrow_bI _) dX11_put_72 (Nat.le_refl _) (Nat.le_refl _) ?_
          exact ⟨congrArg (fun z => some (vi z)) (by decide), rfl, rfl, rfl⟩
      · exact absurd rfl h41
    · exact absurd h25 hst
theorem g_put_ok (hX : FixX X P c d e N) (hK : FixC c P N) (hP : FixP c P N) {ng : Nat} (hng : I P 4 = nI ng) (hng2 : ng ≤ 6) {g0 ga la z i1 p np m k1 gk : Nat} (hg : g0 < ng) (hG : GrA N P g0 ga la z) {v : Int64} (hst : ¬ I (c + 0) 16 = nI 1) (hi1 : i1 < z) (hL : LnA N la i1 p np m) (hk : k1 < m) (hkd : I p 0 = nI gk) (hgk : gk ≤ 5) : Cq l D B mX11_put [vr (some X), vi (nI g0), vi (nI i1), vi (nI k1), vl v] I L N (some (vi (nI 1))) I (upd2 L np k1 (F_ak gk v)) := by
  have hB := hK.b
  have hz12 := hG.2.2.2.2
  have hm12 := hL.2.2.2.2
  refine Ct.of (M := mX11_put) (by decide) (Nat.le_of_ble_eq_true rfl) (fun g (hR : Cr l D B RX11 cX11_put 9 "put" { frames := 2, cells := 0, slots := 0, locals := 42 } (some .int) 0 0 _ g) => ?_)
  have hC := hR.cx
  show g 0 [some (vr (some X)), some (vi (nI g0)), some (vi (nI i1)), some (vi (nI k1)), some (vl v), none, none, none, none] [] _ _ N 0 0
  refine G_aload_n 0 hC rfl dX11_put_0 ?_
  refine G_getR 1 hC fl_X11_30_10 (hX.sh) (hX.plan) rfl dX11_put_1 ?_
  refine G_iload_n 4 hC rfl dX11_put_4 ?_
  refine G_callV1 5 hC (c_gridAt hP.sh hP.rgr hP.gr hng hng2 hg) okX4_gridAt lk_X11_84 (hP.sh) rfl rfl rfl rfl (Nat.le_of_ble_eq_true rfl) (by decide) (by decide) dX11_put_5 ?_
  rw [hG.1]
  refine G_astore 8 hC (by decide) (ls' := [_, _, _, _, _, _, _, _, _]) rfl dX11_put_8 ?_
  refine G_aload 10 hC rfl dX11_put_10 ?_
  refine G_ifnonnull 12 17 hC dX11_put_12 (by decide) (fun h12 => ?_) (fun a12 h12 => ?_)
  · exact absurd h12 (by simp)
  · refine G_aload_n 17 hC rfl dX11_put_17 ?_
    refine G_getR 18 hC fl_X11_39_10 (hX.sh) (hX.course) rfl dX11_put_18 ?_
    refine G_getI 21 hC fl_X11_57_0 (hB 0 _ rfl (by decide)) rfl dX11_put_21 ?_
    refine G_iconst 24 hC (nI 1) (by decide) dX11_put_24 ?_
    refine G_icmp_ne 25 31 hC dX11_put_25 (by decide) (fun h25 => ?_) (fun h25 => ?_)
    · refine G_aload 31 hC rfl dX11_put_31 ?_
      refine G_iload_n 33 hC rfl dX11_put_33 ?_
      refine G_callV1 34 hC (c_faultOf hG.2.1 hG.2.2.1 hG.2.2.2.1 hG.2.2.2.2) okX1_faultOf lk_X11_94 (hG.2.1) rfl rfl rfl rfl (Nat.le_of_ble_eq_true rfl) (by decide) (by decide) dX11_put_34 ?_
      rw [F_fo_ok hi1 hG.2.2.2.2 hL.1]
      refine G_istore 37 hC (by decide) (ls' := [_, _, _, _, _, _, _, _, _]) rfl dX11_put_37 ?_
      refine G_iload 39 hC rfl dX11_put_39 ?_
      first | refine G_if_eq_b 41 50 hC dX11_put_41 (by decide) (fun h41 => ?_) (fun h41 => ?_) | refine G_if_eq 41 50 hC dX11_put_41 (by decide) (fun h41 => ?_) (fun h41 => ?_)
      · refine G_aload 50 hC rfl dX11_put_50 ?_
        refine G_getR 52 hC fl_X11_72_1 (hG.2.1) (hG.2.2.1) rfl dX11_put_52 ?_
        refine G_iload_n 55 hC rfl dX11_put_55 ?_
        refine G_aald 56 hC (hG.2.2.2.1) (by decide) (by decide) (rfl) (by omega) (by omega) (hL.1) dX11_put_56 ?_
        refine G_astore 57 hC (by decide) (ls' := [_, _, _, _, _, _, _, _, _]) rfl dX11_put_57 ?_
        refine G_aload 59 hC rfl dX11_put_59 ?_
        refine G_iload_n 61 hC rfl dX11_put_61 ?_
        refine G_callV1 62 hC (c_Line_has hL.2.1 hL.2.2.1 hL.2.2.2.1 hL.2.2.2.2) okX3_has lk_X11_97 (hL.2.1) rfl rfl rfl rfl (Nat.le_of_ble_eq_true rfl) (by decide) (by decide) dX11_put_62 ?_
        first | refine G_if_ne_b 65 73 hC dX11_put_65 (by decide) (fun h65 => ?_) (fun h65 => ?_) | refine G_if_ne 65 73 hC dX11_put_65 (by decide) (fun h65 => ?_) (fun h65 => ?_)
        · refine G_aload 73 hC rfl dX11_put_73 ?_
          refine G_getR 75 hC fl_X11_100_3 (hL.2.1) (hL.2.2.1) rfl dX11_put_75 ?_
          refine G_iload_n 78 hC rfl dX11_put_78 ?_
          refine G_aload 79 hC rfl dX11_put_79 ?_
          refine G_getI 81 hC fl_X11_104_3 (hL.2.1) rfl dX11_put_81 ?_
          rw [hkd]
          refine G_lload 84 hC rfl dX11_put_84 ?_
          refine G_callS1 86 hC (g_numberOf hgk) okX11_numberOf lk_X11_105 rfl rfl rfl (Nat.le_of_ble_eq_true rfl) (by decide) (by decide) dX11_put_86 ?_
          refine G_last 89 hC (hL.2.2.2.1) (rfl) (by omega) (by omega) dX11_put_89 ?_
          refine G_iconst 90 hC (nI 1) (by decide) dX11_put_90 ?_
          refine R_i 91 hR (by first | rfl | exact narrow_bI _) dX11_put_91 (Nat.le_refl _) (Nat.le_refl _) ?_
          exact ⟨rfl, rfl, rfl, rfl⟩
        · exact absurd (inR_nI hk (by omega)) h65
      · exact absurd rfl h41
    · exact absurd h25 hst
theorem g_item_bad (hX : FixX X P c d e N) (hP : FixP c P N) {ng : Nat} (hng : I P 4 = nI ng) (hng2 : ng ≤ 6) {x kd y k : Int32} (hx : ¬ inR x ng) : Cq l D B mX11_item [vr (some X), vi x, vi kd, vi y, vi k] I L N (some (vl (-9223372036854775808))) I L := by
  refine Ct.of (M := mX11_item) (by decide) (Nat.le_of_ble_eq_true rfl) (fun g (hR : Cr l D B RX11 cX11_item 7 "item" { frames := 2, cells := 0, slots := 0, locals := 42 } (some .long) 0 0 _ g) => ?_)
  have hC := hR.cx
  show g 0 [some (vr (some X)), some (vi x), some (vi kd), some (vi y), some (vi k), none, none] [] _ _ N 0 0
  refine G_aload_n 0 hC rfl dX11_item_0 ?_
  refine G_getR 1 hC fl_X11_30_10 (hX.sh) (hX.plan) rfl dX11_item_1 ?_
  refine G_iload_n 4 hC rfl dX11_item_4 ?_
  refine G_callV1 5 hC (c_gridAt_no hP.sh hP.rgr hP.gr hng hng2 hx) okX4_gridAt lk_X11_84 (hP.sh) rfl rfl rfl rfl (Nat.le_of_ble_eq_true rfl) (by decide) (by decide) dX11_item_5 ?_
  refine G_astore 8 hC (by decide) (ls' := [_, _, _, _, _, _, _]) rfl dX11_item_8 ?_
  refine G_aload 10 hC rfl dX11_item_10 ?_
  refine G_ifnull 12 33 hC dX11_item_12 (by decide) (fun h12 => ?_) (fun a12 h12 => ?_)
  · refine G_ldc2 33 hC kc_X11_109 dX11_item_33 ?_
    refine R_l 36 hR dX11_item_36 (Nat.le_refl _) (Nat.le_refl _) ?_
    exact ⟨rfl, rfl, rfl, rfl⟩
  · cases h12
theorem g_item_cast (hX : FixX X P c d e N) (hP : FixP c P N) {ng : Nat} (hng : I P 4 = nI ng) (hng2 : ng ≤ 6) {g0 ga la z : Nat} (hg : g0 < ng) (hG : GrA N P g0 ga la z) {kd y k : Int32} (hkd : ¬ I ga 0 = kd) : Cq l D B mX11_item [vr (some X), vi (nI g0), vi kd, vi y, vi k] I L N (some (vl (-9223372036854775808))) I L := by
  refine Ct.of (M := mX11_item) (by decide) (Nat.le_of_ble_eq_true rfl) (fun g (hR : Cr l D B RX11 cX11_item 7 "item" { frames := 2, cells := 0, slots := 0, locals := 42 } (some .long) 0 0 _ g) => ?_)
  have hC := hR.cx
  show g 0 [some (vr (some X)), some (vi (nI g0)), some (vi kd), some (vi y), some (vi k), none, none] [] _ _ N 0 0
  refine G_aload_n 0 hC rfl dX11_item_0 ?_
  refine G_getR 1 hC fl_X11_30_10 (hX.sh) (hX.plan) rfl dX11_item_1 ?_
  refine G_iload_n 4 hC rfl dX11_item_4 ?_
  refine G_callV1 5 hC (c_gridAt hP.sh hP.rgr hP.gr hng hng2 hg) okX4_gridAt lk_X11_84 (hP.sh) rfl rfl rfl rfl (Nat.le_of_ble_eq_true rfl) (by decide) (by decide) dX11_item_5 ?_
  rw [hG.1]
  refine G_astore 8 hC (by decide) (ls' := [_, _, _, _, _, _, _]) rfl dX11_item_8 ?_
  refine G_aload 10 hC rfl dX11_item_10 ?_
  refine G_ifnull 12 33 hC dX11_item_12 (by decide) (fun h12 => ?_) (fun a12 h12 => ?_)
  · exact absurd h12 (by simp)
  · refine G_aload 15 hC rfl dX11_item_15 ?_
    refine G_getI 17 hC fl_X11_91_1 (hG.2.1) rfl dX11_item_17 ?_
    refine G_iload_n 20 hC rfl dX11_item_20 ?_
    refine G_icmp_ne 21 33 hC dX11_item_21 (by decide) (fun h21 => ?_) (fun h21 => ?_)
    · refine G_ldc2 33 hC kc_X11_109 dX11_item_33 ?_
      refine R_l 36 hR dX11_item_36 (Nat.le_refl _) (Nat.le_refl _) ?_
      exact ⟨rfl, rfl, rfl, rfl⟩
    · exact absurd h21 hkd
theorem g_item_fault (hX : FixX X P c d e N) (hP : FixP c P N) {ng : Nat} (hng : I P 4 = nI ng) (hng2 : ng ≤ 6) {g0 ga la z : Nat} (hg : g0 < ng) (hG : GrA N P g0 ga la z) {kd y k : Int32} (hf : ¬ F_fo N la z y = 0) : Cq l D B mX11_item [vr (some X), vi (nI g0), vi kd, vi y, vi k] I L N (some (vl (-9223372036854775808))) I L := by
  refine Ct.of (M := mX11_item) (by decide) (Nat.le_of_ble_eq_true rfl) (fun g (hR : Cr l D B RX11 cX11_item 7 "item" { frames := 2, cells := 0, slots := 0, locals := 42 } (some .long) 0 0 _ g) => ?_)
  have hC := hR.cx
  show g 0 [some (vr (some X)), some (vi (nI g0)), some (vi kd), some (vi y), some (vi k), none, none] [] _ _ N 0 0
  refine G_aload_n 0 hC rfl dX11_item_0 ?_
  refine G_getR 1 hC fl_X11_30_10 (hX.sh) (hX.plan) rfl dX11_item_1 ?_
  refine G_iload_n 4 hC rfl dX11_item_4 ?_
  refine G_callV1 5 hC (c_gridAt hP.sh hP.rgr hP.gr hng hng2 hg) okX4_gridAt lk_X11_84 (hP.sh) rfl rfl rfl rfl (Nat.le_of_ble_eq_true rfl) (by decide) (by decide) dX11_item_5 ?_
  rw [hG.1]
  refine G_astore 8 hC (by decide) (ls' := [_, _, _, _, _, _, _]) rfl dX11_item_8 ?_
  refine G_aload 10 hC rfl dX11_item_10 ?_
  refine G_ifnull 12 33 hC dX11_item_12 (by decide) (fun h12 => ?_) (fun a12 h12 => ?_)
  · exact absurd h12 (by simp)
  · refine G_aload 15 hC rfl dX11_item_15 ?_
    refine G_getI 17 hC fl_X11_91_1 (hG.2.1) rfl dX11_item_17 ?_
    refine G_iload_n 20 hC rfl dX11_item_20 ?_
    refine G_icmp_ne 21 33 hC dX11_item_21 (by decide) (fun h21 => ?_) (fun h21 => ?_)
    · refine G_ldc2 33 hC kc_X11_109 dX11_item_33 ?_
      refine R_l 36 hR dX11_item_36 (Nat.le_refl _) (Nat.le_refl _) ?_
      exact ⟨rfl, rfl, rfl, rfl⟩
    · refine G_aload 24 hC rfl dX11_item_24 ?_
      refine G_iload_n 26 hC rfl dX11_item_26 ?_
      refine G_callV1 27 hC (c_faultOf hG.2.1 hG.2.2.1 hG.2.2.2.1 hG.2.2.2.2) okX1_faultOf lk_X11_94 (hG.2.1) rfl rfl rfl rfl (Nat.le_of_ble_eq_true rfl) (by decide) (by decide) dX11_item_27 ?_
      first | refine G_if_eq_b 30 37 hC dX11_item_30 (by decide) (fun h30 => ?_) (fun h30 => ?_) | refine G_if_eq 30 37 hC dX11_item_30 (by decide) (fun h30 => ?_) (fun h30 => ?_)
      · exact absurd h30 hf
      · refine G_ldc2 33 hC kc_X11_109 dX11_item_33 ?_
        refine R_l 36 hR dX11_item_36 (Nat.le_refl _) (Nat.le_refl _) ?_
        exact ⟨rfl, rfl, rfl, rfl⟩
theorem g_item_index (hX : FixX X P c d e N) (hP : FixP c P N) {ng : Nat} (hng : I P 4 = nI ng) (hng2 : ng ≤ 6) {g0 ga la z i1 p np m : Nat} (hg : g0 < ng) (hG : GrA N P g0 ga la z) {kd k : Int32} (hi1 : i1 < z) (hL : LnA N la i1 p np m) (hk : ¬ inR k m) : Cq l D B mX11_item [vr (some X), vi (nI g0), vi kd, vi (nI i1), vi k] I L N (some (vl (-9223372036854775808))) I L := by
  have hz12 := hG.2.2.2.2
  refine Ct.of (M := mX11_item) (by decide) (Nat.le_of_ble_eq_true rfl) (fun g (hR : Cr l D B RX11 cX11_item 7 "item" { frames := 2, cells := 0, slots := 0, locals := 42 } (some .long) 0 0 _ g) => ?_)
  have hC := hR.cx
  show g 0 [some (vr (some X)), some (vi (nI g0)), some (vi kd), some (vi (nI i1)), some (vi k), none, none] [] _ _ N 0 0
  refine G_aload_n 0 hC rfl dX11_item_0 ?_
  refine G_getR 1 hC fl_X11_30_10 (hX.sh) (hX.plan) rfl dX11_item_1 ?_
  refine G_iload_n 4 hC rfl dX11_item_4 ?_
  refine G_callV1 5 hC (c_gridAt hP.sh hP.rgr hP.gr hng hng2 hg) okX4_gridAt lk_X11_84 (hP.sh) rfl rfl rfl rfl (Nat.le_of_ble_eq_true rfl) (by decide) (by decide) dX11_item_5 ?_
  rw [hG.1]
  refine G_astore 8 hC (by decide) (ls' := [_, _, _, _, _, _, _]) rfl dX11_item_8 ?_
  refine G_aload 10 hC rfl dX11_item_10 ?_
  refine G_ifnull 12 33 hC dX11_item_12 (by decide) (fun h12 => ?_) (fun a12 h12 => ?_)
  · exact absurd h12 (by simp)
  · refine G_aload 15 hC rfl dX11_item_15 ?_
    refine G_getI 17 hC fl_X11_91_1 (hG.2.1) rfl dX11_item_17 ?_
    refine G_iload_n 20 hC rfl dX11_item_20 ?_
    refine G_icmp_ne 21 33 hC dX11_item_21 (by decide) (fun h21 => ?_) (fun h21 => ?_)
    · refine G_ldc2 33 hC kc_X11_109 dX11_item_33 ?_
      refine R_l 36 hR dX11_item_36 (Nat.le_refl _) (Nat.le_refl _) ?_
      exact ⟨rfl, rfl, rfl, rfl⟩
    · refine G_aload 24 hC rfl dX11_item_24 ?_
      refine G_iload_n 26 hC rfl dX11_item_26 ?_
      refine G_callV1 27 hC (c_faultOf hG.2.1 hG.2.2.1 hG.2.2.2.1 hG.2.2.2.2) okX1_faultOf lk_X11_94 (hG.2.1) rfl rfl rfl rfl (Nat.le_of_ble_eq_true rfl) (by decide) (by decide) dX11_item_27 ?_
      rw [F_fo_ok hi1 hG.2.2.2.2 hL.1]
      first | refine G_if_eq_b 30 37 hC dX11_item_30 (by decide) (fun h30 => ?_) (fun h30 => ?_) | refine G_if_eq 30 37 hC dX11_item_30 (by decide) (fun h30 => ?_) (fun h30 => ?_)
      · refine G_aload 37 hC rfl dX11_item_37 ?_
        refine G_getR 39 hC fl_X11_72_1 (hG.2.1) (hG.2.2.1) rfl dX11_item_39 ?_
        refine G_iload_n 42 hC rfl dX11_item_42 ?_
        refine G_aald 43 hC (hG.2.2.2.1) (by decide) (by decide) (rfl) (by omega) (by omega) (hL.1) dX11_item_43 ?_
        refine G_astore 44 hC (by decide) (ls' := [_, _, _, _, _, _, _]) rfl dX11_item_44 ?_
        refine G_aload 46 hC rfl dX11_item_46 ?_
        refine G_iload 48 hC rfl dX11_item_48 ?_
        refine G_callV1 50 hC (c_Line_has hL.2.1 hL.2.2.1 hL.2.2.2.1 hL.2.2.2.2) okX3_has lk_X11_97 (hL.2.1) rfl rfl rfl rfl (Nat.le_of_ble_eq_true rfl) (by decide) (by decide) dX11_item_50 ?_
        first | refine G_if_eq_b 53 67 hC dX11_item_53 (by decide) (fun h53 => ?_) (fun h53 => ?_) | refine G_if_eq 53 67 hC dX11_item_53 (by decide) (fun h53 => ?_) (fun h53 => ?_)
        · refine G_ldc2 67 hC kc_X11_109 dX11_item_67 ?_
          refine R_l 70 hR dX11_item_70 (Nat.le_refl _) (Nat.le_refl _) ?_
          exact ⟨rfl, rfl, rfl, rfl⟩
        · exact absurd h53 hk
      · exact absurd rfl h30
theorem g_item_ok (hX : FixX X P c d e N) (hP : FixP c P N) {ng : Nat} (hng : I P 4 = nI ng) (hng2 : ng ≤ 6) {g0 ga la z i1 p np m k1 : Nat} (hg : g0 < ng) (hG : GrA N P g0 ga la z) {kd : Int32} (hkd : I ga 0 = kd) (hi1 : i1 < z) (hL : LnA N la i1 p np m) (hk : k1 < m) : Cq l D B mX11_item [vr (some X), vi (nI g0), vi kd, vi (nI i1), vi (nI k1)] I L N (some (vl (L np k1))) I L := by
  have hz12 := hG.2.2.2.2
  have hm12 := hL.2.2.2.2
  refine Ct.of (M := mX11_item) (by decide) (Nat.le_of_ble_eq_true rfl) (fun g (hR : Cr l D B RX11 cX11_item 7 "item" { frames := 2, cells := 0, slots := 0, locals := 42 } (some .long) 0 0 _ g) => ?_)
  have hC := hR.cx
  show g 0 [some (vr (some X)), some (vi (nI g0)), some (vi kd), some (vi (nI i1)), some (vi (nI k1)), none, none] [] _ _ N 0 0
  refine G_aload_n 0 hC rfl dX11_item_0 ?_
  refine G_getR 1 hC fl_X11_30_10 (hX.sh) (hX.plan) rfl dX11_item_1 ?_
  refine G_iload_n 4 hC rfl dX11_item_4 ?_
  refine G_callV1 5 hC (c_gridAt hP.sh hP.rgr hP.gr hng hng2 hg) okX4_gridAt lk_X11_84 (hP.sh) rfl rfl rfl rfl (Nat.le_of_ble_eq_true rfl) (by decide) (by decide) dX11_item_5 ?_
  rw [hG.1]
  refine G_astore 8 hC (by decide) (ls' := [_, _, _, _, _, _, _]) rfl dX11_item_8 ?_
  refine G_aload 10 hC rfl dX11_item_10 ?_
  refine G_ifnull 12 33 hC dX11_item_12 (by decide) (fun h12 => ?_) (fun a12 h12 => ?_)
  · exact absurd h12 (by simp)
  · refine G_aload 15 hC rfl dX11_item_15 ?_
    refine G_getI 17 hC fl_X11_91_1 (hG.2.1) rfl dX11_item_17 ?_
    refine G_iload_n 20 hC rfl dX11_item_20 ?_
    refine G_icmp_ne 21 33 hC dX11_item_21 (by decide) (fun h21 => ?_) (fun h21 => ?_)
    · exact absurd hkd h21
    · refine G_aload 24 hC rfl dX11_item_24 ?_
      refine G_iload_n 26 hC rfl dX11_item_26 ?_
      refine G_callV1 27 hC (c_faultOf hG.2.1 hG.2.2.1 hG.2.2.2.1 hG.2.2.2.2) okX1_faultOf lk_X11_94 (hG.2.1) rfl rfl rfl rfl (Nat.le_of_ble_eq_true rfl) (by decide) (by decide) dX11_item_27 ?_
      rw [F_fo_ok hi1 hG.2.2.2.2 hL.1]
      first | refine G_if_eq_b 30 37 hC dX11_item_30 (by decide) (fun h30 => ?_) (fun h30 => ?_) | refine G_if_eq 30 37 hC dX11_item_30 (by decide) (fun h30 => ?_) (fun h30 => ?_)
      · refine G_aload 37 hC rfl dX11_item_37 ?_
        refine G_getR 39 hC fl_X11_72_1 (hG.2.1) (hG.2.2.1) rfl dX11_item_39 ?_
        refine G_iload_n 42 hC rfl dX11_item_42 ?_
        refine G_aald 43 hC (hG.2.2.2.1) (by decide) (by decide) (rfl) (by omega) (by omega) (hL.1) dX11_item_43 ?_
        refine G_astore 44 hC (by decide) (ls' := [_, _, _, _, _, _, _]) rfl dX11_item_44 ?_
        refine G_aload 46 hC rfl dX11_item_46 ?_
        refine G_iload 48 hC rfl dX11_item_48 ?_
        refine G_callV1 50 hC (c_Line_has hL.2.1 hL.2.2.1 hL.2.2.2.1 hL.2.2.2.2) okX3_has lk_X11_97 (hL.2.1) rfl rfl rfl rfl (Nat.le_of_ble_eq_true rfl) (by decide) (by decide) dX11_item_50 ?_
        first | refine G_if_eq_b 53 67 hC dX11_item_53 (by decide) (fun h53 => ?_) (fun h53 => ?_) | refine G_if_eq 53 67 hC dX11_item_53 (by decide) (fun h53 => ?_) (fun h53 => ?_)
        · exact absurd (inR_nI hk (by omega)) h53
        · refine G_aload 56 hC rfl dX11_item_56 ?_
          refine G_getR 58 hC fl_X11_100_3 (hL.2.1) (hL.2.2.1) rfl dX11_item_58 ?_
          refine G_iload 61 hC rfl dX11_item_61 ?_
          refine G_lald 63 hC (hL.2.2.2.1) (rfl) (by omega) (by omega) dX11_item_63 ?_
          refine G_goto 64 70 hC dX11_item_64 (by decide) ?_
          refine R_l 70 hR dX11_item_70 (Nat.le_refl _) (Nat.le_refl _) ?_
          exact ⟨rfl, rfl, rfl, rfl⟩
      · exact absurd rfl h30
theorem g_size_bad (hX : FixX X P c d e N) (hP : FixP c P N) {ng : Nat} (hng : I P 4 = nI ng) (hng2 : ng ≤ 6) {x y : Int32} (hx : ¬ inR x ng) : Cq l D B mX11_size [vr (some X), vi x, vi y] I L N (some (vi (-1))) I L := by
  refine Ct.of (M := mX11_size) (by decide) (Nat.le_of_ble_eq_true rfl) (fun g (hR : Cr l D B RX11 cX11_size 5 "size" { frames := 2, cells := 0, slots := 0, locals := 42 } (some .int) 0 0 _ g) => ?_)
  have hC := hR.cx
  show g 0 [some (vr (some X)), some (vi x), some (vi y), none, none] [] _ _ N 0 0
  refine G_aload_n 0 hC rfl dX11_size_0 ?_
  refine G_getR 1 hC fl_X11_30_10 (hX.sh) (hX.plan) rfl dX11_size_1 ?_
  refine G_iload_n 4 hC rfl dX11_size_4 ?_
  refine G_callV1 5 hC (c_gridAt_no hP.sh hP.rgr hP.gr hng hng2 hx) okX4_gridAt lk_X11_84 (hP.sh) rfl rfl rfl rfl (Nat.le_of_ble_eq_true rfl) (by decide) (by decide) dX11_size_5 ?_
  refine G_astore_n 8 hC 3 rfl (by decide) (ls' := [_, _, _, _, _]) rfl dX11_size_8 ?_
  refine G_aload_n 9 hC rfl dX11_size_9 ?_
  refine G_ifnonnull 10 15 hC dX11_size_10 (by decide) (fun h10 => ?_) (fun a10 h10 => ?_)
  · refine G_iconst 13 hC (-1) (by decide) dX11_size_13 ?_
    refine R_i 14 hR (by first | rfl | exact narrow_bI _) dX11_size_14 (Nat.le_refl _) (Nat.le_refl _) ?_
    exact ⟨rfl, rfl, rfl, rfl⟩
  · cases h10
theorem g_size_all (hX : FixX X P c d e N) (hP : FixP c P N) {ng : Nat} (hng : I P 4 = nI ng) (hng2 : ng ≤ 6) {g0 ga la z : Nat} (hg : g0 < ng) (hG : GrA N P g0 ga la z) : Cq l D B mX11_size [vr (some X), vi (nI g0), vi (-1)] I L N (some (vi (nI z))) I L := by
  refine Ct.of (M := mX11_size) (by decide) (Nat.le_of_ble_eq_true rfl) (fun g (hR : Cr l D B RX11 cX11_size 5 "size" { frames := 2, cells := 0, slots := 0, locals := 42 } (some .int) 0 0 _ g) => ?_)
  have hC := hR.cx
  show g 0 [some (vr (some X)), some (vi (nI g0)), some (vi (-1)), none, none] [] _ _ N 0 0
  refine G_aload_n 0 hC rfl dX11_size_0 ?_
  refine G_getR 1 hC fl_X11_30_10 (hX.sh) (hX.plan) rfl dX11_size_1 ?_
  refine G_iload_n 4 hC rfl dX11_size_4 ?_
  refine G_callV1 5 hC (c_gridAt hP.sh hP.rgr hP.gr hng hng2 hg) okX4_gridAt lk_X11_84 (hP.sh) rfl rfl rfl rfl (Nat.le_of_ble_eq_true rfl) (by decide) (by decide) dX11_size_5 ?_
  rw [hG.1]
  refine G_astore_n 8 hC 3 rfl (by decide) (ls' := [_, _, _, _, _]) rfl dX11_size_8 ?_
  refine G_aload_n 9 hC rfl dX11_size_9 ?_
  refine G_ifnonnull 10 15 hC dX11_size_10 (by decide) (fun h10 => ?_) (fun a10 h10 => ?_)
  · exact absurd h10 (by simp)
  · refine G_iload_n 15 hC rfl dX11_size_15 ?_
    refine G_iconst 16 hC (-1) (by decide) dX11_size_16 ?_
    refine G_icmp_ne 17 26 hC dX11_size_17 (by decide) (fun h17 => ?_) (fun h17 => ?_)
    · exact absurd rfl h17
    · refine G_aload_n 20 hC rfl dX11_size_20 ?_
      refine G_getR 21 hC fl_X11_72_1 (hG.2.1) (hG.2.2.1) rfl dX11_size_21 ?_
      refine G_alen 24 hC (hG.2.2.2.1) (by decide) (by decide) dX11_size_24 ?_
      refine R_i 25 hR (by first | rfl | exact narrow_bI _) dX11_size_25 (Nat.le_refl _) (Nat.le_refl _) ?_
      exact ⟨rfl, rfl, rfl, rfl⟩
theorem g_size_fault (hX : FixX X P c d e N) (hP : FixP c P N) {ng : Nat} (hng : I P 4 = nI ng) (hng2 : ng ≤ 6) {g0 ga la z : Nat} (hg : g0 < ng) (hG : GrA N P g0 ga la z) {y : Int32} (hy : ¬ y = -1) (hf : ¬ F_fo N la z y = 0) : Cq l D B mX11_size [vr (some X), vi (nI g0), vi y] I L N (some (vi (-10 - F_fo N la z y))) I L := by
  refine Ct.of (M := mX11_size) (by decide) (Nat.le_of_ble_eq_true rfl) (fun g (hR : Cr l D B RX11 cX11_size 5 "size" { frames := 2, cells := 0, slots := 0, locals := 42 } (some .int) 0 0 _ g) => ?_)
  have hC := hR.cx
  show g 0 [some (vr (some X)), some (vi (nI g0)), some (vi y), none, none] [] _ _ N 0 0
  refine G_aload_n 0 hC rfl dX11_size_0 ?_
  refine G_getR 1 hC fl_X11_30_10 (hX.sh) (hX.plan) rfl dX11_size_1 ?_
  refine G_iload_n 4 hC rfl dX11_size_4 ?_
  refine G_callV1 5 hC (c_gridAt hP.sh hP.rgr hP.gr hng hng2 hg) okX4_gridAt lk_X11_84 (hP.sh) rfl rfl rfl rfl (Nat.le_of_ble_eq_true rfl) (by decide) (by decide) dX11_size_5 ?_
  rw [hG.1]
  refine G_astore_n 8 hC 3 rfl (by decide) (ls' := [_, _, _, _, _]) rfl dX11_size_8 ?_
  refine G_aload_n 9 hC rfl dX11_size_9 ?_
  refine G_ifnonnull 10 15 hC dX11_size_10 (by decide) (fun h10 => ?_) (fun a10 h10 => ?_)
  · exact absurd h10 (by simp)
  · refine G_iload_n 15 hC rfl dX11_size_15 ?_
    refine G_iconst 16 hC (-1) (by decide) dX11_size_16 ?_
    refine G_icmp_ne 17 26 hC dX11_size_17 (by decide) (fun h17 => ?_) (fun h17 => ?_)
    · refine G_aload_n 26 hC rfl dX11_size_26 ?_
      refine G_iload_n 27 hC rfl dX11_size_27 ?_
      refine G_callV1 28 hC (c_faultOf hG.2.1 hG.2.2.1 hG.2.2.2.1 hG.2.2.2.2) okX1_faultOf lk_X11_94 (hG.2.1) rfl rfl rfl rfl (Nat.le_of_ble_eq_true rfl) (by decide) (by decide) dX11_size_28 ?_
      refine G_istore 31 hC (by decide) (ls' := [_, _, _, _, _]) rfl dX11_size_31 ?_
      refine G_iload 33 hC rfl dX11_size_33 ?_
      first | refine G_if_eq_b 35 46 hC dX11_size_35 (by decide) (fun h35 => ?_) (fun h35 => ?_) | refine G_if_eq 35 46 hC dX11_size_35 (by decide) (fun h35 => ?_) (fun h35 => ?_)
      · exact absurd h35 hf
      · refine G_iload 38 hC rfl dX11_size_38 ?_
        refine G_callS1 40 hC (g_refusal) okX11_refusal lk_X11_63 rfl rfl rfl (Nat.le_of_ble_eq_true rfl) (by decide) (by decide) dX11_size_40 ?_
        refine G_goto 43 56 hC dX11_size_43 (by decide) ?_
        refine R_i 56 hR (by first | rfl | exact narrow_bI _) dX11_size_56 (Nat.le_refl _) (Nat.le_refl _) ?_
        exact ⟨rfl, rfl, rfl, rfl⟩
    · exact absurd h17 hy
theorem g_size_ok (hX : FixX X P c d e N) (hP : FixP c P N) {ng : Nat} (hng : I P 4 = nI ng) (hng2 : ng ≤ 6) {g0 ga la z i1 p np m : Nat} (hg : g0 < ng) (hG : GrA N P g0 ga la z) (hi1 : i1 < z) (hL : LnA N la i1 p np m) : Cq l D B mX11_size [vr (some X), vi (nI g0), vi (nI i1)] I L N (some (vi (nI m))) I L := by
  have hz12 := hG.2.2.2.2
  refine Ct.of (M := mX11_size) (by decide) (Nat.le_of_ble_eq_true rfl) (fun g (hR : Cr l D B RX11 cX11_size 5 "size" { frames := 2, cells := 0, slots := 0, locals := 42 } (some .int) 0 0 _ g) => ?_)
  have hC := hR.cx
  show g 0 [some (vr (some X)), some (vi (nI g0)), some (vi (nI i1)), none, none] [] _ _ N 0 0
  refine G_aload_n 0 hC rfl dX11_size_0 ?_
  refine G_getR 1 hC fl_X11_30_10 (hX.sh) (hX.plan) rfl dX11_size_1 ?_
  refine G_iload_n 4 hC rfl dX11_size_4 ?_
  refine G_callV1 5 hC (c_gridAt hP.sh hP.rgr hP.gr hng hng2 hg) okX4_gridAt lk_X11_84 (hP.sh) rfl rfl rfl rfl (Nat.le_of_ble_eq_true rfl) (by decide) (by decide) dX11_size_5 ?_
  rw [hG.1]
  refine G_astore_n 8 hC 3 rfl (by decide) (ls' := [_, _, _, _, _]) rfl dX11_size_8 ?_
  refine G_aload_n 9 hC rfl dX11_size_9 ?_
  refine G_ifnonnull 10 15 hC dX11_size_10 (by decide) (fun h10 => ?_) (fun a10 h10 => ?_)
  · exact absurd h10 (by simp)
  · refine G_iload_n 15 hC rfl dX11_size_15 ?_
    refine G_iconst 16 hC (-1) (by decide) dX11_size_16 ?_
    refine G_icmp_ne 17 26 hC dX11_size_17 (by decide) (fun h17 => ?_) (fun h17 => ?_)
    · refine G_aload_n 26 hC rfl dX11_size_26 ?_
      refine G_iload_n 27 hC rfl dX11_size_27 ?_
      refine G_callV1 28 hC (c_faultOf hG.2.1 hG.2.2.1 hG.2.2.2.1 hG.2.2.2.2) okX1_faultOf lk_X11_94 (hG.2.1) rfl rfl rfl rfl (Nat.le_of_ble_eq_true rfl) (by decide) (by decide) dX11_size_28 ?_
      rw [F_fo_ok hi1 hG.2.2.2.2 hL.1]
      refine G_istore 31 hC (by decide) (ls' := [_, _, _, _, _]) rfl dX11_size_31 ?_
      refine G_iload 33 hC rfl dX11_size_33 ?_
      first | refine G_if_eq_b 35 46 hC dX11_size_35 (by decide) (fun h35 => ?_) (fun h35 => ?_) | refine G_if_eq 35 46 hC dX11_size_35 (by decide) (fun h35 => ?_) (fun h35 => ?_)
      · refine G_aload_n 46 hC rfl dX11_size_46 ?_
        refine G_getR 47 hC fl_X11_72_1 (hG.2.1) (hG.2.2.1) rfl dX11_size_47 ?_
        refine G_iload_n 50 hC rfl dX11_size_50 ?_
        refine G_aald 51 hC (hG.2.2.2.1) (by decide) (by decide) (rfl) (by omega) (by omega) (hL.1) dX11_size_51 ?_
        refine G_getR 52 hC fl_X11_100_3 (hL.2.1) (hL.2.2.1) rfl dX11_size_52 ?_
        refine G_alen 55 hC (hL.2.2.2.1) (by decide) (by decide) dX11_size_55 ?_
        refine R_i 56 hR (by first | rfl | exact narrow_bI _) dX11_size_56 (Nat.le_refl _) (Nat.le_refl _) ?_
        exact ⟨rfl, rfl, rfl, rfl⟩
      · exact absurd rfl h35
    · exact absurd h17 (nI_nm1 (by omega))
end G3

/-! ===== the class: steps of ways and readers ===== -/
theorem st_min : Cond.static Lib.Math.min.name ∈ lw_gd := (gd_mem (List.mem_of_getElem? (i := 75) (by decide +kernel)) rfl)
theorem cd_min : Cond.code Lib.Math.min.name Lib.Math.min.code 2 (some .int) ∈ lw_gd := (gd_mem (List.mem_of_getElem? (i := 76) (by decide +kernel)) rfl)
theorem st_max : Cond.static Lib.Math.max.name ∈ lw_gd := (gd_mem (List.mem_of_getElem? (i := 78) (by decide +kernel)) rfl)
theorem cd_max : Cond.code Lib.Math.max.name Lib.Math.max.code 2 (some .int) ∈ lw_gd := (gd_mem (List.mem_of_getElem? (i := 79) (by decide +kernel)) rfl)
theorem mmR {p Q m : Nat} (h : p ≤ Q) (hQ : Q ≤ 100000) (hm : m ≤ 100001) : (if nI (p + m) < nI Q then nI (p + m) else nI Q) = nI (plR p Q m) := by
  unfold plR
  rcases Nat.lt_or_ge (p + m) Q with z | z
  · rw [if_pos ((nI_ltI (by omega) (by omega)).mpr z), show p + min m (Q - p) = p + m by omega]
  · rw [if_neg (fun y => absurd ((nI_ltI (by omega) (by omega)).mp y) (by omega)), show p + min m (Q - p) = Q by omega]
theorem nI_nle2 {a b : Nat} (ha : a < 2 ^ 31) (hb : b < 2 ^ 31) : ¬ nI a ≤ nI b ↔ b < a := by rw [nI_leI ha hb]; omega
theorem nI_nlt2 {a b : Nat} (ha : a < 2 ^ 31) (hb : b < 2 ^ 31) : ¬ nI a < nI b ↔ b ≤ a := by rw [nI_ltI ha hb]; omega
theorem inR_lt {n j : Nat} (h : inR (nI j) n) (hj : j < 2 ^ 31) : j < n := by
  have := h.2
  rw [nI_toInt hj] at this
  omega
def F_ws (k : MI) (o p Q m f : Nat) : MI := if p < f ∧ f ≤ plR p Q m then upd2 (upd2 (upd2 k o 4 (nI f)) o 0 (nI 3)) o 1 (nI 7) else if plR p Q m = Q then upd2 (upd2 k o 4 (nI (plR p Q m))) o 0 (nI 2) else upd2 k o 4 (nI (plR p Q m))
/-- a grid's lines as the class keeps them -/
def GrOk (c : Nat) (N : NT) (la z : Nat) : Prop := ∀ i, i < z → N.1 la i = none ∨ ∃ p np y, N.1 la i = some p ∧ N.2.1 p = (3, 2) ∧ N.1 p 1 = some np ∧ N.2.1 np = (13, y) ∧ y ≤ 12 ∧ OutC c np
def W_rdK (k : MI) (o : Nat) : MI := upd2 (upd2 k o 8 (k o 8 + nI 1)) o 4 (upd2 k o 8 (k o 8 + nI 1) o 4 + nI 1)
def W_rdL (kl : ML) (o : Nat) (v : Int64) : ML := upd2 (upd2 kl o 9 (kl o 9 + v)) o 10 (upd2 kl o 9 (kl o 9 + v) o 10 + v)
def W_nlK (k : MI) (o : Nat) : MI := upd2 (upd2 k o 7 (k o 7 + nI 1)) o 8 (nI 0)
def F_rd (N : NT) (GL : ML) (s : Int32) (o la : Nat) : Nat → Nat → Nat → MI → ML → MI × ML
  | 0, _, _, k, kl => (upd2 k o 0 (nI 2), kl)
  | f + 1, ln, it, k, kl =>
    match N.1 la ln with
    | none => F_mm s k kl o
    | some p => if it < (N.2.1 ((N.1 p 1).getD 0)).2 then (W_rdK k o, W_rdL kl o (F_worth (GL ((N.1 p 1).getD 0) it))) else F_rd N GL s o la f (ln + 1) 0 (W_nlK k o) (upd2 kl o 9 0)
section FRD
variable {N : NT} {GL : ML} {s : Int32} {o la f ln it p np y : Nat} {k : MI} {kl : ML}
theorem F_rd_m (hp : N.1 la ln = none) : F_rd N GL s o la (f + 1) ln it k kl = F_mm s k kl o := by
  unfold F_rd; rw [hp]
theorem F_rd_i (hp : N.1 la ln = some p) (hr : N.1 p 1 = some np) (hn : N.2.1 np = (13, y)) (hi : it < y) : F_rd N GL s o la (f + 1) ln it k kl = (W_rdK k o, W_rdL kl o (F_worth (GL np it))) := by
  unfold F_rd; rw [hp]; dsimp only; rw [hr, Option.getD_some, hn, if_pos hi]
theorem F_rd_n (hp : N.1 la ln = some p) (hr : N.1 p 1 = some np) (hn : N.2.1 np = (13, y)) (hi : ¬ it < y) : F_rd N GL s o la (f + 1) ln it k kl = F_rd N GL s o la f (ln + 1) 0 (W_nlK k o) (upd2 kl o 9 0) := by
  conv => lhs; unfold F_rd
  rw [hp]; dsimp only; rw [hr, Option.getD_some, hn, if_neg hi]
end FRD
section C3
variable {l : Launch} {D : va_G} {B c : Nat} {N : NT} {k G : MI} {kl GL : ML} {I : MI} {L : ML}
theorem c_gridAt_no {P P1 ng : Nat} {x : Int32} (hP : N.2.1 P = (4, 8)) (hr : N.1 P 0 = some P1) (hP1 : N.2.1 P1 = (14, 6)) (hng : I P 4 = nI ng) (hng2 : ng ≤ 6) (hx : ¬ inR x ng) : Cq l D B mX4_gridAt [vr (some P), vi x] I L N (some (vr none)) I L := by
  refine Ct.of (M := mX4_gridAt) (by decide) (Nat.le_of_ble_eq_true rfl) (fun g (hR : Cr l D B RX4 cX4_gridAt 2 "gridAt" { frames := 0, cells := 0, slots := 0, locals := 0 } (some (.object "GeoThreads$Grid")) 0 0 _ g) => ?_)
  have hC := hR.cx
  show g 0 [some (vr (some P)), some (vi x)] [] _ _ N 0 0
  refine G_iload_n 0 hC rfl dX4_gridAt_0 ?_
  refine G_if_lt 1 21 hC dX4_gridAt_1 (by decide) (fun h1 => ?_) (fun h1 => ?_)
  · refine G_null 21 hC dX4_gridAt_21 ?_
    refine R_a 22 hR dX4_gridAt_22 (Nat.le_refl _) (Nat.le_refl _) ?_
    exact ⟨rfl, rfl, rfl, rfl⟩
  · refine G_iload_n 4 hC rfl dX4_gridAt_4 ?_
    refine G_aload_n 5 hC rfl dX4_gridAt_5 ?_
    refine G_getI 6 hC fl_X4_33_4 (hP) rfl dX4_gridAt_6 ?_
    rw [hng]
    refine G_icmp_ge 9 21 hC dX4_gridAt_9 (by decide) (fun h9 => ?_) (fun h9 => ?_)
    · refine G_null 21 hC dX4_gridAt_21 ?_
      refine R_a 22 hR dX4_gridAt_22 (Nat.le_refl _) (Nat.le_refl _) ?_
      exact ⟨rfl, rfl, rfl, rfl⟩
    · exact absurd (hasy (by omega) h1 h9) hx
theorem c_gridAt {P P1 ng j : Nat} (hP : N.2.1 P = (4, 8)) (hr : N.1 P 0 = some P1) (hP1 : N.2.1 P1 = (14, 6)) (hng : I P 4 = nI ng) (hng2 : ng ≤ 6) (hj : j < ng) : Cq l D B mX4_gridAt [vr (some P), vi (nI j)] I L N (some (vr (N.1 P1 j))) I L := by
  refine Ct.of (M := mX4_gridAt) (by decide) (Nat.le_of_ble_eq_true rfl) (fun g (hR : Cr l D B RX4 cX4_gridAt 2 "gridAt" { frames := 0, cells := 0, slots := 0, locals := 0 } (some (.object "GeoThreads$Grid")) 0 0 _ g) => ?_)
  have hC := hR.cx
  show g 0 [some (vr (some P)), some (vi (nI j))] [] _ _ N 0 0
  refine G_iload_n 0 hC rfl dX4_gridAt_0 ?_
  refine G_if_lt 1 21 hC dX4_gridAt_1 (by decide) (fun h1 => ?_) (fun h1 => ?_)
  · exact absurd h1 (nI_pos (by omega))
  · refine G_iload_n 4 hC rfl dX4_gridAt_4 ?_
    refine G_aload_n 5 hC rfl dX4_gridAt_5 ?_
    refine G_getI 6 hC fl_X4_33_4 (hP) rfl dX4_gridAt_6 ?_
    rw [hng]
    refine G_icmp_ge 9 21 hC dX4_gridAt_9 (by decide) (fun h9 => ?_) (fun h9 => ?_)
    · exact absurd ((nI_leI (by omega) (by omega)).mp h9) (by omega)
    · refine G_aload_n 12 hC rfl dX4_gridAt_12 ?_
      refine G_getR 13 hC fl_X4_11_4 (hP) (hr) rfl dX4_gridAt_13 ?_
      refine G_iload_n 16 hC rfl dX4_gridAt_16 ?_
      refine G_aald 17 hC (hP1) (by decide) (by decide) (rfl) (by omega) (by omega) (rfl) dX4_gridAt_17 ?_
      refine G_goto 18 22 hC dX4_gridAt_18 (by decide) ?_
      refine R_a 22 hR dX4_gridAt_22 (Nat.le_refl _) (Nat.le_refl _) ?_
      exact ⟨rfl, rfl, rfl, rfl⟩
theorem c_Way_step (hB : BlkC c N) {a o p Q m f : Nat} {w : Option Nat} (hs : N.2.1 a = (8, 6)) (ho : OutC c a) (hw : shC o = (9, 13)) (hQ : G a 3 = nI Q) (hQ2 : Q ≤ 100000) (hf : G a 5 = nI f) (hf2 : f < 2 ^ 31) (hp : k o 4 = nI p) (hpQ : p ≤ Q) (hm1 : G a 0 = nI 1 → m = p + 1) (hm2 : ¬ G a 0 = nI 1 → m = 1) (hm3 : m ≤ 100001) : Cq l D B mX9_step [vr (some a), vr (some (c + o)), vr w] (pt c 35 k G) L N none (pt c 35 (F_ws k o p Q m f) G) L := by
  refine Ct.of (M := mX9_step) (by decide) (Nat.le_of_ble_eq_true rfl) (fun g (hR : Cr l D B RX9 cX9_step 5 "step" { frames := 1, cells := 0, slots := 0, locals := 21 } none 0 0 _ g) => ?_)
  have hC := hR.cx
  show g 0 [some (vr (some a)), some (vr (some (c + o))), some (vr w), none, none] [] _ _ N 0 0
  refine G_aload_n 0 hC rfl dX9_step_0 ?_
  refine O_getI 1 hC (hs) (ho) fl_X9_22_8 rfl dX9_step_1 ?_
  refine G_iconst 4 hC (nI 1) (by decide) dX9_step_4 ?_
  refine G_icmp_ne 5 17 hC dX9_step_5 (by decide) (fun h5 => ?_) (fun h5 => ?_)
  · refine G_iconst 17 hC (nI 1) (by decide) dX9_step_17 ?_
    first | rw [← hm1 h5] | rw [show nI 1 = nI m by rw [hm2 h5]]
    refine G_istore_n 18 hC 3 rfl (by decide) (ls' := [_, _, _, _, _]) rfl dX9_step_18 ?_
    refine G_aload_n 19 hC rfl dX9_step_19 ?_
    refine O_getI 20 hC (hs) (ho) fl_X9_9_8 rfl dX9_step_20 ?_
    rw [hQ]
    refine G_aload_n 23 hC rfl dX9_step_23 ?_
    refine B_getI 24 hC hB (hw) fl_X9_25_9 rfl dX9_step_24 ?_
    rw [hp]
    refine G_iload_n 27 hC rfl dX9_step_27 ?_
    refine G_iaddN 28 hC dX9_step_28 ?_
    refine G_mmin 29 hC lk_X9_28 st_min in_Math cd_min (by decide) (by decide) (by decide) (by decide) dX9_step_29 ?_
    rw [mmR hpQ hQ2 hm3]
    refine G_istore 32 hC (by decide) (ls' := [_, _, _, _, _]) rfl dX9_step_32 ?_
    refine G_aload_n 34 hC rfl dX9_step_34 ?_
    refine O_getI 35 hC (hs) (ho) fl_X9_19_8 rfl dX9_step_35 ?_
    rw [hf]
    refine G_aload_n 38 hC rfl dX9_step_38 ?_
    refine B_getI 39 hC hB (hw) fl_X9_25_9 rfl dX9_step_39 ?_
    rw [hp]
    refine G_icmp_le 42 69 hC dX9_step_42 (by decide) (fun h42 => ?_) (fun h42 => ?_)
    · refine G_aload_n 69 hC rfl dX9_step_69 ?_
      refine G_iload 70 hC rfl dX9_step_70 ?_
      refine B_putI 72 hC hB (hw) (fp_X9_25_9 _) rfl rfl rfl dX9_step_72 ?_
      refine G_iload 75 hC rfl dX9_step_75 ?_
      refine G_aload_n 77 hC rfl dX9_step_77 ?_
      refine O_getI 78 hC (hs) (ho) fl_X9_9_8 rfl dX9_step_78 ?_
      rw [hQ]
      refine G_icmp_ne 81 89 hC dX9_step_81 (by decide) (fun h81 => ?_) (fun h81 => ?_)
      · refine R_v 89 hR dX9_step_89 (Nat.le_refl _) (Nat.le_refl _) ?_
        have y1 : ¬ (p < f ∧ f ≤ plR p Q m) := by
          intro y
          first | exact absurd ((nI_leI hf2 (by omega)).mp h42) (by omega) | exact absurd ((nI_ltI (by unfold plR; omega) hf2).mp h51) (by omega)
        unfold F_ws
        rw [if_neg y1]
        first | (rw [if_pos (nI_eq_of h81 (by unfold plR; omega) (by omega))]; exact ⟨rfl, rfl, rfl, rfl⟩) | (rw [if_neg (fun y => h81 (by rw [y]))]; exact ⟨rfl, rfl, rfl, rfl⟩)
      · refine G_aload_n 84 hC rfl dX9_step_84 ?_
        refine G_iconst 85 hC (nI 2) (by decide) dX9_step_85 ?_
        refine B_putI 86 hC hB (hw) (fp_X9_38_9 _) rfl rfl rfl dX9_step_86 ?_
        refine R_v 89 hR dX9_step_89 (Nat.le_refl _) (Nat.le_refl _) ?_
        have y1 : ¬ (p < f ∧ f ≤ plR p Q m) := by
          intro y
          first | exact absurd ((nI_leI hf2 (by omega)).mp h42) (by omega) | exact absurd ((nI_ltI (by unfold plR; omega) hf2).mp h51) (by omega)
        unfold F_ws
        rw [if_neg y1]
        first | (rw [if_pos (nI_eq_of h81 (by unfold plR; omega) (by omega))]; exact ⟨rfl, rfl, rfl, rfl⟩) | (rw [if_neg (fun y => h81 (by rw [y]))]; exact ⟨rfl, rfl, rfl, rfl⟩)
    · refine G_aload_n 45 hC rfl dX9_step_45 ?_
      refine O_getI 46 hC (hs) (ho) fl_X9_19_8 rfl dX9_step_46 ?_
      rw [hf]
      refine G_iload 49 hC rfl dX9_step_49 ?_
      refine G_icmp_gt 51 69 hC dX9_step_51 (by decide) (fun h51 => ?_) (fun h51 => ?_)
      · refine G_aload_n 69 hC rfl dX9_step_69 ?_
        refine G_iload 70 hC rfl dX9_step_70 ?_
        refine B_putI 72 hC hB (hw) (fp_X9_25_9 _) rfl rfl rfl dX9_step_72 ?_
        refine G_iload 75 hC rfl dX9_step_75 ?_
        refine G_aload_n 77 hC rfl dX9_step_77 ?_
        refine O_getI 78 hC (hs) (ho) fl_X9_9_8 rfl dX9_step_78 ?_
        rw [hQ]
        refine G_icmp_ne 81 89 hC dX9_step_81 (by decide) (fun h81 => ?_) (fun h81 => ?_)
        · refine R_v 89 hR dX9_step_89 (Nat.le_refl _) (Nat.le_refl _) ?_
          have y1 : ¬ (p < f ∧ f ≤ plR p Q m) := by
            intro y
            first | exact absurd ((nI_leI hf2 (by omega)).mp h42) (by omega) | exact absurd ((nI_ltI (by unfold plR; omega) hf2).mp h51) (by omega)
          unfold F_ws
          rw [if_neg y1]
          first | (rw [if_pos (nI_eq_of h81 (by unfold plR; omega) (by omega))]; exact ⟨rfl, rfl, rfl, rfl⟩) | (rw [if_neg (fun y => h81 (by rw [y]))]; exact ⟨rfl, rfl, rfl, rfl⟩)
        · refine G_aload_n 84 hC rfl dX9_step_84 ?_
          refine G_iconst 85 hC (nI 2) (by decide) dX9_step_85 ?_
          refine B_putI 86 hC hB (hw) (fp_X9_38_9 _) rfl rfl rfl dX9_step_86 ?_
          refine R_v 89 hR dX9_step_89 (Nat.le_refl _) (Nat.le_refl _) ?_
          have y1 : ¬ (p < f ∧ f ≤ plR p Q m) := by
            intro y
            first | exact absurd ((nI_leI hf2 (by omega)).mp h42) (by omega) | exact absurd ((nI_ltI (by unfold plR; omega) hf2).mp h51) (by omega)
          unfold F_ws
          rw [if_neg y1]
          first | (rw [if_pos (nI_eq_of h81 (by unfold plR; omega) (by omega))]; exact ⟨rfl, rfl, rfl, rfl⟩) | (rw [if_neg (fun y => h81 (by rw [y]))]; exact ⟨rfl, rfl, rfl, rfl⟩)
      · refine G_aload_n 54 hC rfl dX9_step_54 ?_
        refine G_aload_n 55 hC rfl dX9_step_55 ?_
        refine O_getI 56 hC (hs) (ho) fl_X9_19_8 rfl dX9_step_56 ?_
        rw [hf]
        refine B_putI 59 hC hB (hw) (fp_X9_25_9 _) rfl rfl rfl dX9_step_59 ?_
        refine G_aload_n 62 hC rfl dX9_step_62 ?_
        refine G_bipush 63 hC (nI 7) (by decide) dX9_step_63 ?_
        refine G_callV0 65 hC (c_fail hB hw) okX10_fail lk_X9_34 (hB _ _ hw (by decide)) rfl rfl rfl rfl (Nat.le_of_ble_eq_true rfl) (by decide) (by decide) dX9_step_65 ?_
        refine R_v 68 hR dX9_step_68 (Nat.le_refl _) (Nat.le_refl _) ?_
        have y1 := (nI_nle2 hf2 (by omega)).mp h42
        have y2 := (nI_nlt2 (by unfold plR; omega) hf2).mp h51
        unfold F_ws
        rw [if_pos (And.intro y1 y2)]
        exact ⟨rfl, rfl, rfl, rfl⟩
  · refine G_aload_n 8 hC rfl dX9_step_8 ?_
    refine B_getI 9 hC hB (hw) fl_X9_25_9 rfl dX9_step_9 ?_
    rw [hp]
    refine G_iconst 12 hC (nI 1) (by decide) dX9_step_12 ?_
    refine G_iaddN 13 hC dX9_step_13 ?_
    refine G_goto 14 18 hC dX9_step_14 (by decide) ?_
    first | rw [← hm1 h5] | rw [show nI 1 = nI m by rw [hm2 h5]]
    refine G_istore_n 18 hC 3 rfl (by decide) (ls' := [_, _, _, _, _]) rfl dX9_step_18 ?_
    refine G_aload_n 19 hC rfl dX9_step_19 ?_
    refine O_getI 20 hC (hs) (ho) fl_X9_9_8 rfl dX9_step_20 ?_
    rw [hQ]
    refine G_aload_n 23 hC rfl dX9_step_23 ?_
    refine B_getI 24 hC hB (hw) fl_X9_25_9 rfl dX9_step_24 ?_
    rw [hp]
    refine G_iload_n 27 hC rfl dX9_step_27 ?_
    refine G_iaddN 28 hC dX9_step_28 ?_
    refine G_mmin 29 hC lk_X9_28 st_min in_Math cd_min (by decide) (by decide) (by decide) (by decide) dX9_step_29 ?_
    rw [mmR hpQ hQ2 hm3]
    refine G_istore 32 hC (by decide) (ls' := [_, _, _, _, _]) rfl dX9_step_32 ?_
    refine G_aload_n 34 hC rfl dX9_step_34 ?_
    refine O_getI 35 hC (hs) (ho) fl_X9_19_8 rfl dX9_step_35 ?_
    rw [hf]
    refine G_aload_n 38 hC rfl dX9_step_38 ?_
    refine B_getI 39 hC hB (hw) fl_X9_25_9 rfl dX9_step_39 ?_
    rw [hp]
    refine G_icmp_le 42 69 hC dX9_step_42 (by decide) (fun h42 => ?_) (fun h42 => ?_)
    · refine G_aload_n 69 hC rfl dX9_step_69 ?_
      refine G_iload 70 hC rfl dX9_step_70 ?_
      refine B_putI 72 hC hB (hw) (fp_X9_25_9 _) rfl rfl rfl dX9_step_72 ?_
      refine G_iload 75 hC rfl dX9_step_75 ?_
      refine G_aload_n 77 hC rfl dX9_step_77 ?_
      refine O_getI 78 hC (hs) (ho) fl_X9_9_8 rfl dX9_step_78 ?_
      rw [hQ]
      refine G_icmp_ne 81 89 hC dX9_step_81 (by decide) (fun h81 => ?_) (fun h81 => ?_)
      · refine R_v 89 hR dX9_step_89 (Nat.le_refl _) (Nat.le_refl _) ?_
        have y1 : ¬ (p < f ∧ f ≤ plR p Q m) := by
          intro y
          first | exact absurd ((nI_leI hf2 (by omega)).mp h42) (by omega) | exact absurd ((nI_ltI (by unfold plR; omega) hf2).mp h51) (by omega)
        unfold F_ws
        rw [if_neg y1]
        first | (rw [if_pos (nI_eq_of h81 (by unfold plR; omega) (by omega))]; exact ⟨rfl, rfl, rfl, rfl⟩) | (rw [if_neg (fun y => h81 (by rw [y]))]; exact ⟨rfl, rfl, rfl, rfl⟩)
      · refine G_aload_n 84 hC rfl dX9_step_84 ?_
        refine G_iconst 85 hC (nI 2) (by decide) dX9_step_85 ?_
        refine B_putI 86 hC hB (hw) (fp_X9_38_9 _) rfl rfl rfl dX9_step_86 ?_
        refine R_v 89 hR dX9_step_89 (Nat.le_refl _) (Nat.le_refl _) ?_
        have y1 : ¬ (p < f ∧ f ≤ plR p Q m) := by
          intro y
          first | exact absurd ((nI_leI hf2 (by omega)).mp h42) (by omega) | exact absurd ((nI_ltI (by unfold plR; omega) hf2).mp h51) (by omega)
        unfold F_ws
        rw [if_neg y1]
        first | (rw [if_pos (nI_eq_of h81 (by unfold plR; omega) (by omega))]; exact ⟨rfl, rfl, rfl, rfl⟩) | (rw [if_neg (fun y => h81 (by rw [y]))]; exact ⟨rfl, rfl, rfl, rfl⟩)
    · refine G_aload_n 45 hC rfl dX9_step_45 ?_
      refine O_getI 46 hC (hs) (ho) fl_X9_19_8 rfl dX9_step_46 ?_
      rw [hf]
      refine G_iload 49 hC rfl dX9_step_49 ?_
      refine G_icmp_gt 51 69 hC dX9_step_51 (by decide) (fun h51 => ?_) (fun h51 => ?_)
      · refine G_aload_n 69 hC rfl dX9_step_69 ?_
        refine G_iload 70 hC rfl dX9_step_70 ?_
        refine B_putI 72 hC hB (hw) (fp_X9_25_9 _) rfl rfl rfl dX9_step_72 ?_
        refine G_iload 75 hC rfl dX9_step_75 ?_
        refine G_aload_n 77 hC rfl dX9_step_77 ?_
        refine O_getI 78 hC (hs) (ho) fl_X9_9_8 rfl dX9_step_78 ?_
        rw [hQ]
        refine G_icmp_ne 81 89 hC dX9_step_81 (by decide) (fun h81 => ?_) (fun h81 => ?_)
        · refine R_v 89 hR dX9_step_89 (Nat.le_refl _) (Nat.le_refl _) ?_
          have y1 : ¬ (p < f ∧ f ≤ plR p Q m) := by
            intro y
            first | exact absurd ((nI_leI hf2 (by omega)).mp h42) (by omega) | exact absurd ((nI_ltI (by unfold plR; omega) hf2).mp h51) (by omega)
          unfold F_ws
          rw [if_neg y1]
          first | (rw [if_pos (nI_eq_of h81 (by unfold plR; omega) (by omega))]; exact ⟨rfl, rfl, rfl, rfl⟩) | (rw [if_neg (fun y => h81 (by rw [y]))]; exact ⟨rfl, rfl, rfl, rfl⟩)
        · refine G_aload_n 84 hC rfl dX9_step_84 ?_
          refine G_iconst 85 hC (nI 2) (by decide) dX9_step_85 ?_
          refine B_putI 86 hC hB (hw) (fp_X9_38_9 _) rfl rfl rfl dX9_step_86 ?_
          refine R_v 89 hR dX9_step_89 (Nat.le_refl _) (Nat.le_refl _) ?_
          have y1 : ¬ (p < f ∧ f ≤ plR p Q m) := by
            intro y
            first | exact absurd ((nI_leI hf2 (by omega)).mp h42) (by omega) | exact absurd ((nI_ltI (by unfold plR; omega) hf2).mp h51) (by omega)
          unfold F_ws
          rw [if_neg y1]
          first | (rw [if_pos (nI_eq_of h81 (by unfold plR; omega) (by omega))]; exact ⟨rfl, rfl, rfl, rfl⟩) | (rw [if_neg (fun y => h81 (by rw [y]))]; exact ⟨rfl, rfl, rfl, rfl⟩)
      · refine G_aload_n 54 hC rfl dX9_step_54 ?_
        refine G_aload_n 55 hC rfl dX9_step_55 ?_
        refine O_getI 56 hC (hs) (ho) fl_X9_19_8 rfl dX9_step_56 ?_
        rw [hf]
        refine B_putI 59 hC hB (hw) (fp_X9_25_9 _) rfl rfl rfl dX9_step_59 ?_
        refine G_aload_n 62 hC rfl dX9_step_62 ?_
        refine G_bipush 63 hC (nI 7) (by decide) dX9_step_63 ?_
        refine G_callV0 65 hC (c_fail hB hw) okX10_fail lk_X9_34 (hB _ _ hw (by decide)) rfl rfl rfl rfl (Nat.le_of_ble_eq_true rfl) (by decide) (by decide) dX9_step_65 ?_
        refine R_v 68 hR dX9_step_68 (Nat.le_refl _) (Nat.le_refl _) ?_
        have y1 := (nI_nle2 hf2 (by omega)).mp h42
        have y2 := (nI_nlt2 (by unfold plR; omega) hf2).mp h51
        unfold F_ws
        rw [if_pos (And.intro y1 y2)]
        exact ⟨rfl, rfl, rfl, rfl⟩
theorem c_Reader_cast (hB : BlkC c N) {a o ga : Nat} {w : Option Nat} (hs : N.2.1 a = (5, 5)) (ho : OutC c a) (hw : shC o = (9, 13)) (hr : N.1 a 3 = some ga) (hg : N.2.1 ga = (1, 2)) (hgo : OutC c ga) (hk : ¬ G ga 0 = G a 4) : Cq l D B mX5_step [vr (some a), vr (some (c + o)), vr w] (pt c 35 k G) L N none (pt c 35 (upd2 (upd2 k o 0 (nI 3)) o 1 (nI 3)) G) L := by
  refine Ct.of (M := mX5_step) (by decide) (Nat.le_of_ble_eq_true rfl) (fun g (hR : Cr l D B RX5 cX5_step 5 "step" { frames := 2, cells := 0, slots := 0, locals := 42 } none 0 0 _ g) => ?_)
  have hC := hR.cx
  show g 0 [some (vr (some a)), some (vr (some (c + o))), some (vr w), none, none] [] _ _ N 0 0
  refine G_aload_n 0 hC rfl dX5_step_0 ?_
  refine G_getR 1 hC fl_X5_9_5 (hs) (hr) rfl dX5_step_1 ?_
  refine O_getI 4 hC (hg) (hgo) fl_X5_22_1 rfl dX5_step_4 ?_
  refine G_aload_n 7 hC rfl dX5_step_7 ?_
  refine O_getI 8 hC (hs) (ho) fl_X5_15_5 rfl dX5_step_8 ?_
  refine G_icmp_eq 11 20 hC dX5_step_11 (by decide) (fun h11 => ?_) (fun h11 => ?_)
  · exact absurd h11 hk
  · refine G_aload_n 14 hC rfl dX5_step_14 ?_
    refine G_iconst 15 hC (nI 3) (by decide) dX5_step_15 ?_
    refine G_callV0 16 hC (c_fail hB hw) okX10_fail lk_X5_25 (hB _ _ hw (by decide)) rfl rfl rfl rfl (Nat.le_of_ble_eq_true rfl) (by decide) (by decide) dX5_step_16 ?_
    refine R_v 19 hR dX5_step_19 (Nat.le_refl _) (Nat.le_refl _) ?_
    exact ⟨rfl, rfl, rfl, rfl⟩
theorem c_Reader_step (hB : BlkC c N) {a o ga la z ln it : Nat} {w : Option Nat} (hs : N.2.1 a = (5, 5)) (ho : OutC c a) (hw : shC o = (9, 13)) (hr : N.1 a 3 = some ga) (hg : N.2.1 ga = (1, 2)) (hgo : OutC c ga) (hk : G ga 0 = G a 4) (hgr : N.1 ga 1 = some la) (hn : N.2.1 la = (16, z)) (hz : z ≤ 12) (hpl : GrOk c N la z) (hl : k o 7 = nI ln) (hi : k o 8 = nI it) (hln : ln ≤ z) (hit : it ≤ 12) : Cq l D B mX5_step [vr (some a), vr (some (c + o)), vr w] (pt c 35 k G) (pt c 35 kl GL) N none (pt c 35 (F_rd N GL (G a 0) o la (z - ln) ln it k kl).1 G) (pt c 35 (F_rd N GL (G a 0) o la (z - ln) ln it k kl).2 GL) := by
  obtain ⟨W, hW⟩ : ∃ W, F_rd N GL (G a 0) o la (z - ln) ln it k kl = W := ⟨_, rfl⟩
  rw [hW]
  refine Ct.of (M := mX5_step) (by decide) (Nat.le_of_ble_eq_true rfl) (fun g (hR : Cr l D B RX5 cX5_step 5 "step" { frames := 2, cells := 0, slots := 0, locals := 42 } none 0 0 _ g) => ?_)
  have hC := hR.cx
  have loop : ∀ (f ln it : Nat) (k : MI) (kl : ML) (x4 : Option MV), z - ln = f → ln ≤ z → it ≤ 12 → k o 8 = nI it → F_rd N GL (G a 0) o la f ln it k kl = W → g 25 [some (vr (some a)), some (vr (some (c + o))), some (vr w), some (vi (nI ln)), x4] [] (pt c 35 k G) (pt c 35 kl GL) N 0 0 := by
    intro f
    induction f using Nat.strongRecOn with
    | _ f ih =>
      intro ln it k kl x4 hk1 hln hit hi hE
      refine G_iload_n 25 hC rfl dX5_step_25 ?_
      refine G_aload_n 26 hC rfl dX5_step_26 ?_
      refine G_getR 27 hC fl_X5_9_5 (hs) (hr) rfl dX5_step_27 ?_
      refine G_getR 30 hC fl_X5_34_1 (hg) (hgr) rfl dX5_step_30 ?_
      refine G_alen 33 hC (hn) (by decide) (by decide) dX5_step_33 ?_
      refine G_icmp_ge 34 95 hC dX5_step_34 (by decide) (fun h34 => ?_) (fun h34 => ?_)
      · refine G_aload_n 95 hC rfl dX5_step_95 ?_
        refine G_iconst 96 hC (nI 2) (by decide) dX5_step_96 ?_
        refine B_putI 97 hC hB (hw) (fp_X5_63_9 _) rfl rfl rfl dX5_step_97 ?_
        refine R_v 100 hR dX5_step_100 (Nat.le_refl _) (Nat.le_refl _) ?_
        have y := (nI_leI (by omega) (by omega)).mp h34
        have hk0 : f = 0 := by omega
        subst hk0
        rw [← hE]
        exact ⟨rfl, rfl, rfl, rfl⟩
      · have a34 : ln < z := by
          rcases Nat.lt_or_ge ln z with y | y
          · exact y
          · exact absurd ((nI_leI (by omega) (by omega)).mpr y) h34
        obtain ⟨f, rfl⟩ : ∃ f1, f = f1 + 1 := ⟨f - 1, by omega⟩
        rcases hpl ln a34 with hp | ⟨p, np, y, hp, hps, hpr, hpn, hy, hpo⟩
        · refine G_aload_n 37 hC rfl dX5_step_37 ?_
          refine G_getR 38 hC fl_X5_9_5 (hs) (hr) rfl dX5_step_38 ?_
          refine G_getR 41 hC fl_X5_34_1 (hg) (hgr) rfl dX5_step_41 ?_
          refine G_iload_n 44 hC rfl dX5_step_44 ?_
          refine G_aald 45 hC (hn) (by decide) (by decide) (rfl) (by omega) (by omega) (hp) dX5_step_45 ?_
          refine G_astore 46 hC (by decide) (ls' := [_, _, _, _, _]) rfl dX5_step_46 ?_
          refine G_aload 48 hC rfl dX5_step_48 ?_
          refine G_ifnonnull 50 59 hC dX5_step_50 (by decide) (fun h50 => ?_) (fun a50 h50 => ?_)
          · refine G_aload_n 53 hC rfl dX5_step_53 ?_
            refine G_aload_n 54 hC rfl dX5_step_54 ?_
            refine G_callV0 55 hC (c_meetMissing hB hs ho hw) okX5_meetMissing lk_X5_38 (hs) rfl rfl rfl rfl (Nat.le_of_ble_eq_true rfl) (by decide) (by decide) dX5_step_55 ?_
            refine R_v 58 hR dX5_step_58 (Nat.le_refl _) (Nat.le_refl _) ?_
            rw [← hE, F_rd_m hp]
            exact ⟨rfl, rfl, rfl, rfl⟩
          · cases h50
        · refine G_aload_n 37 hC rfl dX5_step_37 ?_
          refine G_getR 38 hC fl_X5_9_5 (hs) (hr) rfl dX5_step_38 ?_
          refine G_getR 41 hC fl_X5_34_1 (hg) (hgr) rfl dX5_step_41 ?_
          refine G_iload_n 44 hC rfl dX5_step_44 ?_
          refine G_aald 45 hC (hn) (by decide) (by decide) (rfl) (by omega) (by omega) (hp) dX5_step_45 ?_
          refine G_astore 46 hC (by decide) (ls' := [_, _, _, _, _]) rfl dX5_step_46 ?_
          refine G_aload 48 hC rfl dX5_step_48 ?_
          refine G_ifnonnull 50 59 hC dX5_step_50 (by decide) (fun h50 => ?_) (fun a50 h50 => ?_)
          · cases h50
          · refine G_aload 59 hC rfl dX5_step_59 ?_
            refine G_aload_n 61 hC rfl dX5_step_61 ?_
            refine B_getI 62 hC hB (hw) fl_X5_42_9 rfl dX5_step_62 ?_
            rw [hi]
            refine G_callV1 65 hC (c_Line_has hps hpr hpn hy) okX3_has lk_X5_45 (hps) rfl rfl rfl rfl (Nat.le_of_ble_eq_true rfl) (by decide) (by decide) dX5_step_65 ?_
            first | refine G_if_eq_b 68 85 hC dX5_step_68 (by decide) (fun h68 => ?_) (fun h68 => ?_) | refine G_if_eq 68 85 hC dX5_step_68 (by decide) (fun h68 => ?_) (fun h68 => ?_)
            · refine G_aload_n 85 hC rfl dX5_step_85 ?_
              refine G_callV0 86 hC (c_nextLine hB hw) okX10_nextLine lk_X5_59 (hB _ _ hw (by decide)) rfl rfl rfl rfl (Nat.le_of_ble_eq_true rfl) (by decide) (by decide) dX5_step_86 ?_
              first | refine G_iincN 89 hC (by decide) rfl (ls' := [_, _, _, _, _]) rfl dX5_step_89 ?_ | refine G_iinc 89 hC _ rfl (by decide) rfl (ls' := [_, _, _, _, _]) rfl dX5_step_89 ?_
              refine G_goto 92 25 hC dX5_step_92 (by decide) ?_
              refine ih f (Nat.lt_succ_self f) (ln + 1) 0 _ _ _ (by omega) (by omega) (by omega) (by simp only [upd2_row, up_s]) ?_
              rw [← hE, F_rd_n hp hpr hpn (fun y => h68 (inR_nI y (by omega)))]
              rfl
            · have a68 : it < y := inR_lt h68 (by omega)
              refine G_aload_n 71 hC rfl dX5_step_71 ?_
              refine G_aload 72 hC rfl dX5_step_72 ?_
              refine G_aload_n 74 hC rfl dX5_step_74 ?_
              refine B_getI 75 hC hB (hw) fl_X5_42_9 rfl dX5_step_75 ?_
              rw [hi]
              refine G_callV1 78 hC (c_worth hps hpr hpn hpo hy a68) okX3_worth lk_X5_51 (hps) rfl rfl rfl rfl (Nat.le_of_ble_eq_true rfl) (by decide) (by decide) dX5_step_78 ?_
              refine G_callV0 81 hC (c_read hB hw) okX10_read lk_X5_55 (hB _ _ hw (by decide)) rfl rfl rfl rfl (Nat.le_of_ble_eq_true rfl) (by decide) (by decide) dX5_step_81 ?_
              refine R_v 84 hR dX5_step_84 (Nat.le_refl _) (Nat.le_refl _) ?_
              rw [← hE, F_rd_i hp hpr hpn a68]
              exact ⟨rfl, rfl, rfl, rfl⟩
  show g 0 [some (vr (some a)), some (vr (some (c + o))), some (vr w), none, none] [] _ _ N 0 0
  refine G_aload_n 0 hC rfl dX5_step_0 ?_
  refine G_getR 1 hC fl_X5_9_5 (hs) (hr) rfl dX5_step_1 ?_
  refine O_getI 4 hC (hg) (hgo) fl_X5_22_1 rfl dX5_step_4 ?_
  refine G_aload_n 7 hC rfl dX5_step_7 ?_
  refine O_getI 8 hC (hs) (ho) fl_X5_15_5 rfl dX5_step_8 ?_
  refine G_icmp_eq 11 20 hC dX5_step_11 (by decide) (fun h11 => ?_) (fun h11 => ?_)
  · refine G_aload_n 20 hC rfl dX5_step_20 ?_
    refine B_getI 21 hC hB (hw) fl_X5_31_9 rfl dX5_step_21 ?_
    rw [hl]
    refine G_istore_n 24 hC 3 rfl (by decide) (ls' := [_, _, _, _, _]) rfl dX5_step_24 ?_
    exact loop _ ln it k kl none rfl hln hit hi hW
  · exact absurd hk h11
end C3

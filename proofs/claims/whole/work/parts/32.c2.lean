/-! ===== the class: lines, grids, hunts, the tasks' small methods ===== -/
def F_fo (N : NT) (la z : Nat) (x : Int32) : Int32 := if inR x z then (if N.1 la x.toNatClampNeg = none then nI 1 else nI 0) else nI 2
theorem F_fo_out {N : NT} {la z : Nat} {x : Int32} (h : ¬ inR x z) : F_fo N la z x = nI 2 := by unfold F_fo; rw [if_neg h]
theorem F_fo_no {N : NT} {la z i : Nat} (hi : i < z) (hz : z ≤ 12) (h : N.1 la i = none) : F_fo N la z (nI i) = nI 1 := by
  unfold F_fo; rw [if_pos (inR_nI hi (by omega)), nI_clamp (by omega), if_pos h]
theorem F_fo_ok {N : NT} {la z i p : Nat} (hi : i < z) (hz : z ≤ 12) (h : N.1 la i = some p) : F_fo N la z (nI i) = nI 0 := by
  unfold F_fo; rw [if_pos (inR_nI hi (by omega)), nI_clamp (by omega), if_neg (by rw [h]; exact fun y => by cases y)]
def F_ofB (k : MI) (kl : ML) (o : Nat) (v : Int64) (i : Int32) : Prop := k o 1 = -9 ∨ v < kl o 0 ∨ (kl o 0 = v ∧ i < k o 1)
noncomputable def F_of (k : MI) (kl : ML) (o : Nat) (v : Int64) (i : Int32) : MI × ML := @ite _ (F_ofB k kl o v i) (Classical.propDecidable _) (upd2 k o 1 i, upd2 (upd2 kl o 0 v) o 2 v) (k, kl)
theorem F_of_t {k : MI} {kl : ML} {o : Nat} {v : Int64} {i : Int32} (h : F_ofB k kl o v i) : F_of k kl o v i = (upd2 k o 1 i, upd2 (upd2 kl o 0 v) o 2 v) := by unfold F_of; rw [if_pos h]
theorem F_of_f {k : MI} {kl : ML} {o : Nat} {v : Int64} {i : Int32} (h : ¬ F_ofB k kl o v i) : F_of k kl o v i = (k, kl) := by unfold F_of; rw [if_neg h]
theorem F_ofn {k : MI} {kl : ML} {o : Nat} {v : Int64} {i : Int32} (h1 : ¬ k o 1 = -9) (h2 : ¬ v < kl o 0) (h3 : kl o 0 = v → i < k o 1 → False) : ¬ F_ofB k kl o v i := fun z => z.elim h1 (fun z => z.elim h2 (fun z => h3 z.1 z.2))
def F_mm (s : Int32) (k : MI) (kl : ML) (o : Nat) : MI × ML := if s = nI 3 then (upd2 (upd2 (upd2 k o 6 (k o 6 + nI 1)) o 7 (upd2 k o 6 (k o 6 + nI 1) o 7 + nI 1)) o 8 (nI 0), upd2 kl o 9 0) else (upd2 (upd2 k o 0 (nI 3)) o 1 (nI 1), kl)
section C2
variable {l : Launch} {D : va_G} {B c : Nat} {N : NT} {k G : MI} {kl GL : ML} {I : MI} {L : ML}
theorem c_worth {a na z j : Nat} (hs : N.2.1 a = (3, 2)) (hr : N.1 a 1 = some na) (hn : N.2.1 na = (13, z)) (ho2 : OutC c na) (hz : z ≤ 12) (hj : j < z) : Cq l D B mX3_worth [vr (some a), vi (nI j)] I (pt c 35 kl GL) N (some (vl (F_worth (GL na j)))) I (pt c 35 kl GL) := by
  refine Ct.of (M := mX3_worth) (by decide) (Nat.le_of_ble_eq_true rfl) (fun g (hR : Cr l D B RX3 cX3_worth 2 "worth" { frames := 1, cells := 0, slots := 0, locals := 21 } (some .long) 0 0 _ g) => ?_)
  have hC := hR.cx
  show g 0 [some (vr (some a)), some (vi (nI j))] [] _ _ N 0 0
  refine G_aload_n 0 hC rfl dX3_worth_0 ?_
  refine G_iload_n 1 hC rfl dX3_worth_1 ?_
  refine G_callV1 2 hC (c_Line_has hs hr hn hz) okX3_has lk_X3_19 (hs) rfl rfl rfl rfl (Nat.le_of_ble_eq_true rfl) (by decide) (by decide) dX3_worth_2 ?_
  first | refine G_if_eq_b 5 19 hC dX3_worth_5 (by decide) (fun h5 => ?_) (fun h5 => ?_) | refine G_if_eq 5 19 hC dX3_worth_5 (by decide) (fun h5 => ?_) (fun h5 => ?_)
  · exact absurd (inR_nI hj (by omega)) h5
  · refine G_aload_n 8 hC rfl dX3_worth_8 ?_
    refine G_getR 9 hC fl_X3_15_3 (hs) (hr) rfl dX3_worth_9 ?_
    refine G_iload_n 12 hC rfl dX3_worth_12 ?_
    refine O_lald 13 hC (hn) (ho2) (rfl) (by omega) (by omega) dX3_worth_13 ?_
    refine G_lconst 14 hC 0 (by decide) dX3_worth_14 ?_
    refine G_lcmp 15 hC dX3_worth_15 ?_
    refine G_if_gt 16 21 hC dX3_worth_16 (by decide) (fun h16 => ?_) (fun h16 => ?_)
    · refine G_aload_n 21 hC rfl dX3_worth_21 ?_
      refine G_getR 22 hC fl_X3_15_3 (hs) (hr) rfl dX3_worth_22 ?_
      refine G_iload_n 25 hC rfl dX3_worth_25 ?_
      refine O_lald 26 hC (hn) (ho2) (rfl) (by omega) (by omega) dX3_worth_26 ?_
      refine G_ldc2 27 hC kc_X3_23 dX3_worth_27 ?_
      refine G_lcmp 30 hC dX3_worth_30 ?_
      refine G_if_ge 31 43 hC dX3_worth_31 (by decide) (fun h31 => ?_) (fun h31 => ?_)
      · refine G_ldc2 43 hC kc_X3_23 dX3_worth_43 ?_
        refine R_l 46 hR dX3_worth_46 (Nat.le_refl _) (Nat.le_refl _) ?_
        refine ⟨?_, rfl, rfl, rfl⟩
        clear hR hC
        unfold F_worth
        simp only [lg_cmp_gt, lg_cmp_ge] at *
        grind
      · refine G_aload_n 34 hC rfl dX3_worth_34 ?_
        refine G_getR 35 hC fl_X3_15_3 (hs) (hr) rfl dX3_worth_35 ?_
        refine G_iload_n 38 hC rfl dX3_worth_38 ?_
        refine O_lald 39 hC (hn) (ho2) (rfl) (by omega) (by omega) dX3_worth_39 ?_
        refine G_goto 40 46 hC dX3_worth_40 (by decide) ?_
        refine R_l 46 hR dX3_worth_46 (Nat.le_refl _) (Nat.le_refl _) ?_
        refine ⟨?_, rfl, rfl, rfl⟩
        clear hR hC
        unfold F_worth
        simp only [lg_cmp_gt, lg_cmp_ge] at *
        grind
    · refine G_lconst 19 hC 0 (by decide) dX3_worth_19 ?_
      refine R_l 20 hR dX3_worth_20 (Nat.le_refl _) (Nat.le_refl _) ?_
      refine ⟨?_, rfl, rfl, rfl⟩
      clear hR hC
      unfold F_worth
      simp only [lg_cmp_gt, lg_cmp_ge] at *
      grind
theorem c_faultOf {a la z : Nat} {x : Int32} (hs : N.2.1 a = (1, 2)) (hr : N.1 a 1 = some la) (hn : N.2.1 la = (16, z)) (hz : z ≤ 12) : Cq l D B mX1_faultOf [vr (some a), vi x] I L N (some (vi (F_fo N la z x))) I L := by
  refine Ct.of (M := mX1_faultOf) (by decide) (Nat.le_of_ble_eq_true rfl) (fun g (hR : Cr l D B RX1 cX1_faultOf 2 "faultOf" { frames := 1, cells := 0, slots := 0, locals := 21 } (some .int) 0 0 _ g) => ?_)
  have hC := hR.cx
  show g 0 [some (vr (some a)), some (vi x)] [] _ _ N 0 0
  refine G_aload_n 0 hC rfl dX1_faultOf_0 ?_
  refine G_iload_n 1 hC rfl dX1_faultOf_1 ?_
  refine G_callV1 2 hC (c_Grid_has hs hr hn hz) okX1_has lk_X1_21 (hs) rfl rfl rfl rfl (Nat.le_of_ble_eq_true rfl) (by decide) (by decide) dX1_faultOf_2 ?_
  first | refine G_if_ne_b 5 10 hC dX1_faultOf_5 (by decide) (fun h5 => ?_) (fun h5 => ?_) | refine G_if_ne 5 10 hC dX1_faultOf_5 (by decide) (fun h5 => ?_) (fun h5 => ?_)
  · obtain ⟨i1, hi1, rfl⟩ := inR_of h5 (by omega)
    refine G_aload_n 10 hC rfl dX1_faultOf_10 ?_
    refine G_getR 11 hC fl_X1_17_1 (hs) (hr) rfl dX1_faultOf_11 ?_
    refine G_iload_n 14 hC rfl dX1_faultOf_14 ?_
    refine G_aald 15 hC (hn) (by decide) (by decide) (rfl) (by omega) (by omega) (rfl) dX1_faultOf_15 ?_
    refine G_ifnonnull 16 23 hC dX1_faultOf_16 (by decide) (fun h16 => ?_) (fun a16 h16 => ?_)
    · refine G_iconst 19 hC (nI 1) (by decide) dX1_faultOf_19 ?_
      refine G_goto 20 24 hC dX1_faultOf_20 (by decide) ?_
      refine R_i 24 hR (by first | rfl | exact narrow_bI _) dX1_faultOf_24 (Nat.le_refl _) (Nat.le_refl _) ?_
      refine ⟨?_, rfl, rfl, rfl⟩
      first | (rw [F_fo_out h5]; done) | (rw [F_fo_no hi1 hz h16]; done) | (rw [F_fo_ok hi1 hz h16]; done)
    · refine G_iconst 23 hC (nI 0) (by decide) dX1_faultOf_23 ?_
      refine R_i 24 hR (by first | rfl | exact narrow_bI _) dX1_faultOf_24 (Nat.le_refl _) (Nat.le_refl _) ?_
      refine ⟨?_, rfl, rfl, rfl⟩
      first | (rw [F_fo_out h5]; done) | (rw [F_fo_no hi1 hz h16]; done) | (rw [F_fo_ok hi1 hz h16]; done)
  · refine G_iconst 8 hC (nI 2) (by decide) dX1_faultOf_8 ?_
    refine R_i 9 hR (by first | rfl | exact narrow_bI _) dX1_faultOf_9 (Nat.le_refl _) (Nat.le_refl _) ?_
    refine ⟨?_, rfl, rfl, rfl⟩
    first | (rw [F_fo_out h5]; done) | (rw [F_fo_no hi1 hz h16]; done) | (rw [F_fo_ok hi1 hz h16]; done)
theorem c_offer (hB : BlkC c N) {o : Nat} {v : Int64} {i : Int32} (hw : shC o = (2, 3)) : Cq l D B mX2_offer [vr (some (c + o)), vl v, vi i] (pt c 35 k G) (pt c 35 kl GL) N none (pt c 35 (F_of k kl o v i).1 G) (pt c 35 (F_of k kl o v i).2 GL) := by
  refine Ct.of (M := mX2_offer) (by decide) (Nat.le_of_ble_eq_true rfl) (fun g (hR : Cr l D B RX2 cX2_offer 5 "offer" { frames := 0, cells := 0, slots := 0, locals := 0 } none 0 0 _ g) => ?_)
  have hC := hR.cx
  show g 0 [some (vr (some (c + o))), some (vl v), none, some (vi i), none] [] _ _ N 0 0
  refine G_aload_n 0 hC rfl dX2_offer_0 ?_
  refine B_getI 1 hC hB (hw) fl_X2_15_2 rfl dX2_offer_1 ?_
  refine G_bipush 4 hC (-9) (by decide) dX2_offer_4 ?_
  refine G_icmp_eq 6 35 hC dX2_offer_6 (by decide) (fun h6 => ?_) (fun h6 => ?_)
  · refine G_iconst 35 hC (nI 1) (by decide) dX2_offer_35 ?_
    refine G_goto 36 40 hC dX2_offer_36 (by decide) ?_
    refine G_istore 40 hC (by decide) (ls' := [_, _, _, _, _]) rfl dX2_offer_40 ?_
    refine G_iload 42 hC rfl dX2_offer_42 ?_
    first | refine G_if_ne_b 44 48 hC dX2_offer_44 (by decide) (fun h44 => ?_) (fun h44 => ?_) | refine G_if_ne 44 48 hC dX2_offer_44 (by decide) (fun h44 => ?_) (fun h44 => ?_)
    · refine G_aload_n 48 hC rfl dX2_offer_48 ?_
      refine G_lload_n 49 hC rfl dX2_offer_49 ?_
      refine B_putL 50 hC hB (hw) (fp_X2_9_2 _) rfl dX2_offer_50 ?_
      refine G_aload_n 53 hC rfl dX2_offer_53 ?_
      refine G_iload_n 54 hC rfl dX2_offer_54 ?_
      refine B_putI 55 hC hB (hw) (fp_X2_15_2 _) rfl rfl rfl dX2_offer_55 ?_
      refine G_aload_n 58 hC rfl dX2_offer_58 ?_
      refine G_lload_n 59 hC rfl dX2_offer_59 ?_
      refine B_putL 60 hC hB (hw) (fp_X2_19_2 _) rfl dX2_offer_60 ?_
      refine R_v 63 hR dX2_offer_63 (Nat.le_refl _) (Nat.le_refl _) ?_
      first | (exfalso; revert h44; decide; done) | (have hb : F_ofB k kl o v i := Or.inl h6; rw [F_of_t hb]; exact ⟨rfl, rfl, rfl, rfl⟩) | (have hb : F_ofB k kl o v i := Or.inr (Or.inl ((lg_cmp_gt _ _).mp h15)); rw [F_of_t hb]; exact ⟨rfl, rfl, rfl, rfl⟩) | (have hb : F_ofB k kl o v i := Or.inr (Or.inr ⟨(lg_cmp_eq _ _).mp h24, Int32.not_le.mp h32⟩); rw [F_of_t hb]; exact ⟨rfl, rfl, rfl, rfl⟩)
    · refine R_v 47 hR dX2_offer_47 (Nat.le_refl _) (Nat.le_refl _) ?_
      first | (exfalso; revert h44; decide; done) | (have hb : ¬ F_ofB k kl o v i := F_ofn h6 (fun z => h15 ((lg_cmp_gt _ _).mpr z)) (fun z _ => h24 ((lg_cmp_eq _ _).mpr z)); rw [F_of_f hb]; exact ⟨rfl, rfl, rfl, rfl⟩) | (have hb : ¬ F_ofB k kl o v i := F_ofn h6 (fun z => h15 ((lg_cmp_gt _ _).mpr z)) (fun _ z => Int32.not_lt.mpr h32 z); rw [F_of_f hb]; exact ⟨rfl, rfl, rfl, rfl⟩)
  · refine G_aload_n 9 hC rfl dX2_offer_9 ?_
    refine B_getL 10 hC hB (hw) fl_X2_9_2 rfl dX2_offer_10 ?_
    refine G_lload_n 13 hC rfl dX2_offer_13 ?_
    refine G_lcmp 14 hC dX2_offer_14 ?_
    refine G_if_gt 15 35 hC dX2_offer_15 (by decide) (fun h15 => ?_) (fun h15 => ?_)
    · refine G_iconst 35 hC (nI 1) (by decide) dX2_offer_35 ?_
      refine G_goto 36 40 hC dX2_offer_36 (by decide) ?_
      refine G_istore 40 hC (by decide) (ls' := [_, _, _, _, _]) rfl dX2_offer_40 ?_
      refine G_iload 42 hC rfl dX2_offer_42 ?_
      first | refine G_if_ne_b 44 48 hC dX2_offer_44 (by decide) (fun h44 => ?_) (fun h44 => ?_) | refine G_if_ne 44 48 hC dX2_offer_44 (by decide) (fun h44 => ?_) (fun h44 => ?_)
      · refine G_aload_n 48 hC rfl dX2_offer_48 ?_
        refine G_lload_n 49 hC rfl dX2_offer_49 ?_
        refine B_putL 50 hC hB (hw) (fp_X2_9_2 _) rfl dX2_offer_50 ?_
        refine G_aload_n 53 hC rfl dX2_offer_53 ?_
        refine G_iload_n 54 hC rfl dX2_offer_54 ?_
        refine B_putI 55 hC hB (hw) (fp_X2_15_2 _) rfl rfl rfl dX2_offer_55 ?_
        refine G_aload_n 58 hC rfl dX2_offer_58 ?_
        refine G_lload_n 59 hC rfl dX2_offer_59 ?_
        refine B_putL 60 hC hB (hw) (fp_X2_19_2 _) rfl dX2_offer_60 ?_
        refine R_v 63 hR dX2_offer_63 (Nat.le_refl _) (Nat.le_refl _) ?_
        first | (exfalso; revert h44; decide; done) | (have hb : F_ofB k kl o v i := Or.inl h6; rw [F_of_t hb]; exact ⟨rfl, rfl, rfl, rfl⟩) | (have hb : F_ofB k kl o v i := Or.inr (Or.inl ((lg_cmp_gt _ _).mp h15)); rw [F_of_t hb]; exact ⟨rfl, rfl, rfl, rfl⟩) | (have hb : F_ofB k kl o v i := Or.inr (Or.inr ⟨(lg_cmp_eq _ _).mp h24, Int32.not_le.mp h32⟩); rw [F_of_t hb]; exact ⟨rfl, rfl, rfl, rfl⟩)
      · refine R_v 47 hR dX2_offer_47 (Nat.le_refl _) (Nat.le_refl _) ?_
        first | (exfalso; revert h44; decide; done) | (have hb : ¬ F_ofB k kl o v i := F_ofn h6 (fun z => h15 ((lg_cmp_gt _ _).mpr z)) (fun z _ => h24 ((lg_cmp_eq _ _).mpr z)); rw [F_of_f hb]; exact ⟨rfl, rfl, rfl, rfl⟩) | (have hb : ¬ F_ofB k kl o v i := F_ofn h6 (fun z => h15 ((lg_cmp_gt _ _).mpr z)) (fun _ z => Int32.not_lt.mpr h32 z); rw [F_of_f hb]; exact ⟨rfl, rfl, rfl, rfl⟩)
    · refine G_aload_n 18 hC rfl dX2_offer_18 ?_
      refine B_getL 19 hC hB (hw) fl_X2_9_2 rfl dX2_offer_19 ?_
      refine G_lload_n 22 hC rfl dX2_offer_22 ?_
      refine G_lcmp 23 hC dX2_offer_23 ?_
      first | refine G_if_ne_b 24 39 hC dX2_offer_24 (by decide) (fun h24 => ?_) (fun h24 => ?_) | refine G_if_ne 24 39 hC dX2_offer_24 (by decide) (fun h24 => ?_) (fun h24 => ?_)
      · refine G_iconst 39 hC (nI 0) (by decide) dX2_offer_39 ?_
        refine G_istore 40 hC (by decide) (ls' := [_, _, _, _, _]) rfl dX2_offer_40 ?_
        refine G_iload 42 hC rfl dX2_offer_42 ?_
        first | refine G_if_ne_b 44 48 hC dX2_offer_44 (by decide) (fun h44 => ?_) (fun h44 => ?_) | refine G_if_ne 44 48 hC dX2_offer_44 (by decide) (fun h44 => ?_) (fun h44 => ?_)
        · refine G_aload_n 48 hC rfl dX2_offer_48 ?_
          refine G_lload_n 49 hC rfl dX2_offer_49 ?_
          refine B_putL 50 hC hB (hw) (fp_X2_9_2 _) rfl dX2_offer_50 ?_
          refine G_aload_n 53 hC rfl dX2_offer_53 ?_
          refine G_iload_n 54 hC rfl dX2_offer_54 ?_
          refine B_putI 55 hC hB (hw) (fp_X2_15_2 _) rfl rfl rfl dX2_offer_55 ?_
          refine G_aload_n 58 hC rfl dX2_offer_58 ?_
          refine G_lload_n 59 hC rfl dX2_offer_59 ?_
          refine B_putL 60 hC hB (hw) (fp_X2_19_2 _) rfl dX2_offer_60 ?_
          refine R_v 63 hR dX2_offer_63 (Nat.le_refl _) (Nat.le_refl _) ?_
          first | (exfalso; revert h44; decide; done) | (have hb : F_ofB k kl o v i := Or.inl h6; rw [F_of_t hb]; exact ⟨rfl, rfl, rfl, rfl⟩) | (have hb : F_ofB k kl o v i := Or.inr (Or.inl ((lg_cmp_gt _ _).mp h15)); rw [F_of_t hb]; exact ⟨rfl, rfl, rfl, rfl⟩) | (have hb : F_ofB k kl o v i := Or.inr (Or.inr ⟨(lg_cmp_eq _ _).mp h24, Int32.not_le.mp h32⟩); rw [F_of_t hb]; exact ⟨rfl, rfl, rfl, rfl⟩)
        · refine R_v 47 hR dX2_offer_47 (Nat.le_refl _) (Nat.le_refl _) ?_
          first | (exfalso; revert h44; decide; done) | (have hb : ¬ F_ofB k kl o v i := F_ofn h6 (fun z => h15 ((lg_cmp_gt _ _).mpr z)) (fun z _ => h24 ((lg_cmp_eq _ _).mpr z)); rw [F_of_f hb]; exact ⟨rfl, rfl, rfl, rfl⟩) | (have hb : ¬ F_ofB k kl o v i := F_ofn h6 (fun z => h15 ((lg_cmp_gt _ _).mpr z)) (fun _ z => Int32.not_lt.mpr h32 z); rw [F_of_f hb]; exact ⟨rfl, rfl, rfl, rfl⟩)
      · refine G_aload_n 27 hC rfl dX2_offer_27 ?_
        refine B_getI 28 hC hB (hw) fl_X2_15_2 rfl dX2_offer_28 ?_
        refine G_iload_n 31 hC rfl dX2_offer_31 ?_
        refine G_icmp_le 32 39 hC dX2_offer_32 (by decide) (fun h32 => ?_) (fun h32 => ?_)
        · refine G_iconst 39 hC (nI 0) (by decide) dX2_offer_39 ?_
          refine G_istore 40 hC (by decide) (ls' := [_, _, _, _, _]) rfl dX2_offer_40 ?_
          refine G_iload 42 hC rfl dX2_offer_42 ?_
          first | refine G_if_ne_b 44 48 hC dX2_offer_44 (by decide) (fun h44 => ?_) (fun h44 => ?_) | refine G_if_ne 44 48 hC dX2_offer_44 (by decide) (fun h44 => ?_) (fun h44 => ?_)
          · refine G_aload_n 48 hC rfl dX2_offer_48 ?_
            refine G_lload_n 49 hC rfl dX2_offer_49 ?_
            refine B_putL 50 hC hB (hw) (fp_X2_9_2 _) rfl dX2_offer_50 ?_
            refine G_aload_n 53 hC rfl dX2_offer_53 ?_
            refine G_iload_n 54 hC rfl dX2_offer_54 ?_
            refine B_putI 55 hC hB (hw) (fp_X2_15_2 _) rfl rfl rfl dX2_offer_55 ?_
            refine G_aload_n 58 hC rfl dX2_offer_58 ?_
            refine G_lload_n 59 hC rfl dX2_offer_59 ?_
            refine B_putL 60 hC hB (hw) (fp_X2_19_2 _) rfl dX2_offer_60 ?_
            refine R_v 63 hR dX2_offer_63 (Nat.le_refl _) (Nat.le_refl _) ?_
            first | (exfalso; revert h44; decide; done) | (have hb : F_ofB k kl o v i := Or.inl h6; rw [F_of_t hb]; exact ⟨rfl, rfl, rfl, rfl⟩) | (have hb : F_ofB k kl o v i := Or.inr (Or.inl ((lg_cmp_gt _ _).mp h15)); rw [F_of_t hb]; exact ⟨rfl, rfl, rfl, rfl⟩) | (have hb : F_ofB k kl o v i := Or.inr (Or.inr ⟨(lg_cmp_eq _ _).mp h24, Int32.not_le.mp h32⟩); rw [F_of_t hb]; exact ⟨rfl, rfl, rfl, rfl⟩)
          · refine R_v 47 hR dX2_offer_47 (Nat.le_refl _) (Nat.le_refl _) ?_
            first | (exfalso; revert h44; decide; done) | (have hb : ¬ F_ofB k kl o v i := F_ofn h6 (fun z => h15 ((lg_cmp_gt _ _).mpr z)) (fun z _ => h24 ((lg_cmp_eq _ _).mpr z)); rw [F_of_f hb]; exact ⟨rfl, rfl, rfl, rfl⟩) | (have hb : ¬ F_ofB k kl o v i := F_ofn h6 (fun z => h15 ((lg_cmp_gt _ _).mpr z)) (fun _ z => Int32.not_lt.mpr h32 z); rw [F_of_f hb]; exact ⟨rfl, rfl, rfl, rfl⟩)
        · refine G_iconst 35 hC (nI 1) (by decide) dX2_offer_35 ?_
          refine G_goto 36 40 hC dX2_offer_36 (by decide) ?_
          refine G_istore 40 hC (by decide) (ls' := [_, _, _, _, _]) rfl dX2_offer_40 ?_
          refine G_iload 42 hC rfl dX2_offer_42 ?_
          first | refine G_if_ne_b 44 48 hC dX2_offer_44 (by decide) (fun h44 => ?_) (fun h44 => ?_) | refine G_if_ne 44 48 hC dX2_offer_44 (by decide) (fun h44 => ?_) (fun h44 => ?_)
          · refine G_aload_n 48 hC rfl dX2_offer_48 ?_
            refine G_lload_n 49 hC rfl dX2_offer_49 ?_
            refine B_putL 50 hC hB (hw) (fp_X2_9_2 _) rfl dX2_offer_50 ?_
            refine G_aload_n 53 hC rfl dX2_offer_53 ?_
            refine G_iload_n 54 hC rfl dX2_offer_54 ?_
            refine B_putI 55 hC hB (hw) (fp_X2_15_2 _) rfl rfl rfl dX2_offer_55 ?_
            refine G_aload_n 58 hC rfl dX2_offer_58 ?_
            refine G_lload_n 59 hC rfl dX2_offer_59 ?_
            refine B_putL 60 hC hB (hw) (fp_X2_19_2 _) rfl dX2_offer_60 ?_
            refine R_v 63 hR dX2_offer_63 (Nat.le_refl _) (Nat.le_refl _) ?_
            first | (exfalso; revert h44; decide; done) | (have hb : F_ofB k kl o v i := Or.inl h6; rw [F_of_t hb]; exact ⟨rfl, rfl, rfl, rfl⟩) | (have hb : F_ofB k kl o v i := Or.inr (Or.inl ((lg_cmp_gt _ _).mp h15)); rw [F_of_t hb]; exact ⟨rfl, rfl, rfl, rfl⟩) | (have hb : F_ofB k kl o v i := Or.inr (Or.inr ⟨(lg_cmp_eq _ _).mp h24, Int32.not_le.mp h32⟩); rw [F_of_t hb]; exact ⟨rfl, rfl, rfl, rfl⟩)
          · refine R_v 47 hR dX2_offer_47 (Nat.le_refl _) (Nat.le_refl _) ?_
            first | (exfalso; revert h44; decide; done) | (have hb : ¬ F_ofB k kl o v i := F_ofn h6 (fun z => h15 ((lg_cmp_gt _ _).mpr z)) (fun z _ => h24 ((lg_cmp_eq _ _).mpr z)); rw [F_of_f hb]; exact ⟨rfl, rfl, rfl, rfl⟩) | (have hb : ¬ F_ofB k kl o v i := F_ofn h6 (fun z => h15 ((lg_cmp_gt _ _).mpr z)) (fun _ z => Int32.not_lt.mpr h32 z); rw [F_of_f hb]; exact ⟨rfl, rfl, rfl, rfl⟩)
theorem c_Way_foundBy {a : Nat} {w : Option Nat} (hs : N.2.1 a = (8, 6)) (ho : OutC c a) : Cq l D B mX9_foundBy [vr (some a), vr w] I (pt c 35 kl GL) N (some (vl (GL a 4))) I (pt c 35 kl GL) := by
  refine Ct.of (M := mX9_foundBy) (by decide) (Nat.le_of_ble_eq_true rfl) (fun g (hR : Cr l D B RX9 cX9_foundBy 2 "foundBy" { frames := 0, cells := 0, slots := 0, locals := 0 } (some .long) 0 0 _ g) => ?_)
  have hC := hR.cx
  show g 0 [some (vr (some a)), some (vr w)] [] _ _ N 0 0
  refine G_aload_n 0 hC rfl dX9_foundBy_0 ?_
  refine O_getL 1 hC (hs) (ho) fl_X9_15_8 rfl dX9_foundBy_1 ?_
  refine R_l 4 hR dX9_foundBy_4 (Nat.le_refl _) (Nat.le_refl _) ?_
  exact ⟨rfl, rfl, rfl, rfl⟩
theorem c_Way_rank {a : Nat} (hs : N.2.1 a = (8, 6)) (ho : OutC c a) : Cq l D B mX9_rank [vr (some a)] (pt c 35 k G) L N (some (vi (if G a 0 = nI 1 then nI 11 else nI 10))) (pt c 35 k G) L := by
  refine Ct.of (M := mX9_rank) (by decide) (Nat.le_of_ble_eq_true rfl) (fun g (hR : Cr l D B RX9 cX9_rank 1 "rank" { frames := 0, cells := 0, slots := 0, locals := 0 } (some .int) 0 0 _ g) => ?_)
  have hC := hR.cx
  show g 0 [some (vr (some a))] [] _ _ N 0 0
  refine G_aload_n 0 hC rfl dX9_rank_0 ?_
  refine O_getI 1 hC (hs) (ho) fl_X9_22_8 rfl dX9_rank_1 ?_
  refine G_iconst 4 hC (nI 1) (by decide) dX9_rank_4 ?_
  refine G_icmp_ne 5 13 hC dX9_rank_5 (by decide) (fun h5 => ?_) (fun h5 => ?_)
  · refine G_bipush 13 hC (nI 10) (by decide) dX9_rank_13 ?_
    refine R_i 15 hR (by first | rfl | exact narrow_bI _) dX9_rank_15 (Nat.le_refl _) (Nat.le_refl _) ?_
    refine ⟨?_, rfl, rfl, rfl⟩
    first | (rw [if_pos h5]; done) | (rw [if_neg h5]; done)
  · refine G_bipush 8 hC (nI 11) (by decide) dX9_rank_8 ?_
    refine G_goto 10 15 hC dX9_rank_10 (by decide) ?_
    refine R_i 15 hR (by first | rfl | exact narrow_bI _) dX9_rank_15 (Nat.le_refl _) (Nat.le_refl _) ?_
    refine ⟨?_, rfl, rfl, rfl⟩
    first | (rw [if_pos h5]; done) | (rw [if_neg h5]; done)
theorem c_Reader_rank {a : Nat} (hs : N.2.1 a = (5, 5)) (ho : OutC c a) : Cq l D B mX5_rank [vr (some a)] (pt c 35 k G) L N (some (vi (if G a 0 = nI 3 then nI 12 else nI 10))) (pt c 35 k G) L := by
  refine Ct.of (M := mX5_rank) (by decide) (Nat.le_of_ble_eq_true rfl) (fun g (hR : Cr l D B RX5 cX5_rank 1 "rank" { frames := 0, cells := 0, slots := 0, locals := 0 } (some .int) 0 0 _ g) => ?_)
  have hC := hR.cx
  show g 0 [some (vr (some a))] [] _ _ N 0 0
  refine G_aload_n 0 hC rfl dX5_rank_0 ?_
  refine O_getI 1 hC (hs) (ho) fl_X5_19_5 rfl dX5_rank_1 ?_
  refine G_iconst 4 hC (nI 3) (by decide) dX5_rank_4 ?_
  refine G_icmp_ne 5 13 hC dX5_rank_5 (by decide) (fun h5 => ?_) (fun h5 => ?_)
  · refine G_bipush 13 hC (nI 10) (by decide) dX5_rank_13 ?_
    refine R_i 15 hR (by first | rfl | exact narrow_bI _) dX5_rank_15 (Nat.le_refl _) (Nat.le_refl _) ?_
    refine ⟨?_, rfl, rfl, rfl⟩
    first | (rw [if_pos h5]; done) | (rw [if_neg h5]; done)
  · refine G_bipush 8 hC (nI 12) (by decide) dX5_rank_8 ?_
    refine G_goto 10 15 hC dX5_rank_10 (by decide) ?_
    refine R_i 15 hR (by first | rfl | exact narrow_bI _) dX5_rank_15 (Nat.le_refl _) (Nat.le_refl _) ?_
    refine ⟨?_, rfl, rfl, rfl⟩
    first | (rw [if_pos h5]; done) | (rw [if_neg h5]; done)
theorem c_Share_rank {a : Nat} : Cq l D B mX7_rank [vr (some a)] I L N (some (vi (nI 30))) I L := by
  refine Ct.of (M := mX7_rank) (by decide) (Nat.le_of_ble_eq_true rfl) (fun g (hR : Cr l D B RX7 cX7_rank 1 "rank" { frames := 0, cells := 0, slots := 0, locals := 0 } (some .int) 0 0 _ g) => ?_)
  have hC := hR.cx
  show g 0 [some (vr (some a))] [] _ _ N 0 0
  refine G_bipush 0 hC (nI 30) (by decide) dX7_rank_0 ?_
  refine R_i 2 hR (by first | rfl | exact narrow_bI _) dX7_rank_2 (Nat.le_refl _) (Nat.le_refl _) ?_
  exact ⟨rfl, rfl, rfl, rfl⟩
theorem c_Reader_foundBy (hB : BlkC c N) {a o : Nat} (hw : shC o = (9, 13)) : Cq l D B mX5_foundBy [vr (some a), vr (some (c + o))] I (pt c 35 kl GL) N (some (vl (kl o 10))) I (pt c 35 kl GL) := by
  refine Ct.of (M := mX5_foundBy) (by decide) (Nat.le_of_ble_eq_true rfl) (fun g (hR : Cr l D B RX5 cX5_foundBy 2 "foundBy" { frames := 0, cells := 0, slots := 0, locals := 0 } (some .long) 0 0 _ g) => ?_)
  have hC := hR.cx
  show g 0 [some (vr (some a)), some (vr (some (c + o)))] [] _ _ N 0 0
  refine G_aload_n 0 hC rfl dX5_foundBy_0 ?_
  refine B_getL 1 hC hB (hw) fl_X5_69_9 rfl dX5_foundBy_1 ?_
  refine R_l 4 hR dX5_foundBy_4 (Nat.le_refl _) (Nat.le_refl _) ?_
  exact ⟨rfl, rfl, rfl, rfl⟩
theorem c_Share_foundBy {a : Nat} {w : Option Nat} : Cq l D B mX7_foundBy [vr (some a), vr w] I L N (some (vl (-9223372036854775808))) I L := by
  refine Ct.of (M := mX7_foundBy) (by decide) (Nat.le_of_ble_eq_true rfl) (fun g (hR : Cr l D B RX7 cX7_foundBy 2 "foundBy" { frames := 0, cells := 0, slots := 0, locals := 0 } (some .long) 0 0 _ g) => ?_)
  have hC := hR.cx
  show g 0 [some (vr (some a)), some (vr w)] [] _ _ N 0 0
  refine G_ldc2 0 hC kc_X7_101 dX7_foundBy_0 ?_
  refine R_l 3 hR dX7_foundBy_3 (Nat.le_refl _) (Nat.le_refl _) ?_
  exact ⟨rfl, rfl, rfl, rfl⟩
theorem c_Share_usedBy (hB : BlkC c N) {a o : Nat} (hw : shC o = (9, 13)) : Cq l D B mX7_usedBy [vr (some a), vr (some (c + o))] (pt c 35 k G) L N (some (vi (k o 7))) (pt c 35 k G) L := by
  refine Ct.of (M := mX7_usedBy) (by decide) (Nat.le_of_ble_eq_true rfl) (fun g (hR : Cr l D B RX7 cX7_usedBy 2 "usedBy" { frames := 0, cells := 0, slots := 0, locals := 0 } (some .int) 0 0 _ g) => ?_)
  have hC := hR.cx
  show g 0 [some (vr (some a)), some (vr (some (c + o)))] [] _ _ N 0 0
  refine G_aload_n 0 hC rfl dX7_usedBy_0 ?_
  refine B_getI 1 hC hB (hw) fl_X7_42_9 rfl dX7_usedBy_1 ?_
  refine R_i 4 hR (by first | rfl | exact narrow_bI _) dX7_usedBy_4 (Nat.le_refl _) (Nat.le_refl _) ?_
  exact ⟨rfl, rfl, rfl, rfl⟩
theorem c_Task_usedBy (hB : BlkC c N) {a o : Nat} (hw : shC o = (9, 13)) : Cq l D B mX8_usedBy [vr (some a), vr (some (c + o))] (pt c 35 k G) L N (some (vi (k o 2))) (pt c 35 k G) L := by
  refine Ct.of (M := mX8_usedBy) (by decide) (Nat.le_of_ble_eq_true rfl) (fun g (hR : Cr l D B RX8 cX8_usedBy 2 "usedBy" { frames := 0, cells := 0, slots := 0, locals := 0 } (some .int) 0 0 _ g) => ?_)
  have hC := hR.cx
  show g 0 [some (vr (some a)), some (vr (some (c + o)))] [] _ _ N 0 0
  refine G_aload_n 0 hC rfl dX8_usedBy_0 ?_
  refine B_getI 1 hC hB (hw) fl_X8_21_9 rfl dX8_usedBy_1 ?_
  refine R_i 4 hR (by first | rfl | exact narrow_bI _) dX8_usedBy_4 (Nat.le_refl _) (Nat.le_refl _) ?_
  exact ⟨rfl, rfl, rfl, rfl⟩
theorem c_isWay8 {a : Nat} (hs : N.2.1 a = (8, 6)) (ho : OutC c a) : Cq l D B mX8_isWay [vr (some a)] (pt c 35 k G) L N (some (vi (bI (¬ G a 0 = nI 4)))) (pt c 35 k G) L := by
  refine Ct.of (M := mX8_isWay) (by decide) (Nat.le_of_ble_eq_true rfl) (fun g (hR : Cr l D B RX8 cX8_isWay 1 "isWay" { frames := 0, cells := 0, slots := 0, locals := 0 } (some .boolean) 0 0 _ g) => ?_)
  have hC := hR.cx
  show g 0 [some (vr (some a))] [] _ _ N 0 0
  refine G_aload_n 0 hC rfl dX8_isWay_0 ?_
  refine O_getI 1 hC (hs) (ho) fl_X8_9_8 rfl dX8_isWay_1 ?_
  refine G_iconst 4 hC (nI 4) (by decide) dX8_isWay_4 ?_
  refine G_icmp_eq 5 12 hC dX8_isWay_5 (by decide) (fun h5 => ?_) (fun h5 => ?_)
  · refine G_iconst 12 hC (nI 0) (by decide) dX8_isWay_12 ?_
    refine R_i 13 hR (by first | rfl | exact narrow_bI _) dX8_isWay_13 (Nat.le_refl _) (Nat.le_refl _) ?_
    refine ⟨?_, rfl, rfl, rfl⟩
    first | exact congrArg (fun z => some (vi z)) (bI_f (fun z => z h5)) | exact congrArg (fun z => some (vi z)) (bI_t h5)
  · refine G_iconst 8 hC (nI 1) (by decide) dX8_isWay_8 ?_
    refine G_goto 9 13 hC dX8_isWay_9 (by decide) ?_
    refine R_i 13 hR (by first | rfl | exact narrow_bI _) dX8_isWay_13 (Nat.le_refl _) (Nat.le_refl _) ?_
    refine ⟨?_, rfl, rfl, rfl⟩
    first | exact congrArg (fun z => some (vi z)) (bI_f (fun z => z h5)) | exact congrArg (fun z => some (vi z)) (bI_t h5)
theorem c_isWay5 {a : Nat} (hs : N.2.1 a = (5, 5)) (ho : OutC c a) : Cq l D B mX8_isWay [vr (some a)] (pt c 35 k G) L N (some (vi (bI (¬ G a 0 = nI 4)))) (pt c 35 k G) L := by
  refine Ct.of (M := mX8_isWay) (by decide) (Nat.le_of_ble_eq_true rfl) (fun g (hR : Cr l D B RX8 cX8_isWay 1 "isWay" { frames := 0, cells := 0, slots := 0, locals := 0 } (some .boolean) 0 0 _ g) => ?_)
  have hC := hR.cx
  show g 0 [some (vr (some a))] [] _ _ N 0 0
  refine G_aload_n 0 hC rfl dX8_isWay_0 ?_
  refine O_getI 1 hC (hs) (ho) fl_X8_9_5 rfl dX8_isWay_1 ?_
  refine G_iconst 4 hC (nI 4) (by decide) dX8_isWay_4 ?_
  refine G_icmp_eq 5 12 hC dX8_isWay_5 (by decide) (fun h5 => ?_) (fun h5 => ?_)
  · refine G_iconst 12 hC (nI 0) (by decide) dX8_isWay_12 ?_
    refine R_i 13 hR (by first | rfl | exact narrow_bI _) dX8_isWay_13 (Nat.le_refl _) (Nat.le_refl _) ?_
    refine ⟨?_, rfl, rfl, rfl⟩
    first | exact congrArg (fun z => some (vi z)) (bI_f (fun z => z h5)) | exact congrArg (fun z => some (vi z)) (bI_t h5)
  · refine G_iconst 8 hC (nI 1) (by decide) dX8_isWay_8 ?_
    refine G_goto 9 13 hC dX8_isWay_9 (by decide) ?_
    refine R_i 13 hR (by first | rfl | exact narrow_bI _) dX8_isWay_13 (Nat.le_refl _) (Nat.le_refl _) ?_
    refine ⟨?_, rfl, rfl, rfl⟩
    first | exact congrArg (fun z => some (vi z)) (bI_f (fun z => z h5)) | exact congrArg (fun z => some (vi z)) (bI_t h5)
theorem c_isWay7 {a : Nat} (hs : N.2.1 a = (7, 7)) (ho : OutC c a) : Cq l D B mX8_isWay [vr (some a)] (pt c 35 k G) L N (some (vi (bI (¬ G a 0 = nI 4)))) (pt c 35 k G) L := by
  refine Ct.of (M := mX8_isWay) (by decide) (Nat.le_of_ble_eq_true rfl) (fun g (hR : Cr l D B RX8 cX8_isWay 1 "isWay" { frames := 0, cells := 0, slots := 0, locals := 0 } (some .boolean) 0 0 _ g) => ?_)
  have hC := hR.cx
  show g 0 [some (vr (some a))] [] _ _ N 0 0
  refine G_aload_n 0 hC rfl dX8_isWay_0 ?_
  refine O_getI 1 hC (hs) (ho) fl_X8_9_7 rfl dX8_isWay_1 ?_
  refine G_iconst 4 hC (nI 4) (by decide) dX8_isWay_4 ?_
  refine G_icmp_eq 5 12 hC dX8_isWay_5 (by decide) (fun h5 => ?_) (fun h5 => ?_)
  · refine G_iconst 12 hC (nI 0) (by decide) dX8_isWay_12 ?_
    refine R_i 13 hR (by first | rfl | exact narrow_bI _) dX8_isWay_13 (Nat.le_refl _) (Nat.le_refl _) ?_
    refine ⟨?_, rfl, rfl, rfl⟩
    first | exact congrArg (fun z => some (vi z)) (bI_f (fun z => z h5)) | exact congrArg (fun z => some (vi z)) (bI_t h5)
  · refine G_iconst 8 hC (nI 1) (by decide) dX8_isWay_8 ?_
    refine G_goto 9 13 hC dX8_isWay_9 (by decide) ?_
    refine R_i 13 hR (by first | rfl | exact narrow_bI _) dX8_isWay_13 (Nat.le_refl _) (Nat.le_refl _) ?_
    refine ⟨?_, rfl, rfl, rfl⟩
    first | exact congrArg (fun z => some (vi z)) (bI_f (fun z => z h5)) | exact congrArg (fun z => some (vi z)) (bI_t h5)
theorem c_meetMissing (hB : BlkC c N) {a o : Nat} (hs : N.2.1 a = (5, 5)) (ho : OutC c a) (hw : shC o = (9, 13)) : Cq l D B mX5_meetMissing [vr (some a), vr (some (c + o))] (pt c 35 k G) (pt c 35 kl GL) N none (pt c 35 (F_mm (G a 0) k kl o).1 G) (pt c 35 (F_mm (G a 0) k kl o).2 GL) := by
  refine Ct.of (M := mX5_meetMissing) (by decide) (Nat.le_of_ble_eq_true rfl) (fun g (hR : Cr l D B RX5 cX5_meetMissing 2 "meetMissing" { frames := 1, cells := 0, slots := 0, locals := 21 } none 0 0 _ g) => ?_)
  have hC := hR.cx
  show g 0 [some (vr (some a)), some (vr (some (c + o)))] [] _ _ N 0 0
  refine G_aload_n 0 hC rfl dX5_meetMissing_0 ?_
  refine O_getI 1 hC (hs) (ho) fl_X5_19_5 rfl dX5_meetMissing_1 ?_
  refine G_iconst 4 hC (nI 3) (by decide) dX5_meetMissing_4 ?_
  refine G_icmp_ne 5 25 hC dX5_meetMissing_5 (by decide) (fun h5 => ?_) (fun h5 => ?_)
  · refine G_aload_n 25 hC rfl dX5_meetMissing_25 ?_
    refine G_iconst 26 hC (nI 1) (by decide) dX5_meetMissing_26 ?_
    refine G_callV0 27 hC (c_fail hB hw) okX10_fail lk_X5_25 (hB _ _ hw (by decide)) rfl rfl rfl rfl (Nat.le_of_ble_eq_true rfl) (by decide) (by decide) dX5_meetMissing_27 ?_
    refine R_v 30 hR dX5_meetMissing_30 (Nat.le_refl _) (Nat.le_refl _) ?_
    unfold F_mm
    first | (rw [if_pos h5]; exact ⟨rfl, rfl, rfl, rfl⟩) | (rw [if_neg h5]; exact ⟨rfl, rfl, rfl, rfl⟩)
  · refine G_aload_n 8 hC rfl dX5_meetMissing_8 ?_
    refine G_dup 9 hC rfl dX5_meetMissing_9 ?_
    refine B_getI 10 hC hB (hw) fl_X5_66_9 rfl dX5_meetMissing_10 ?_
    refine G_iconst 13 hC (nI 1) (by decide) dX5_meetMissing_13 ?_
    refine G_iadd 14 hC dX5_meetMissing_14 ?_
    refine B_putI 15 hC hB (hw) (fp_X5_66_9 _) rfl rfl rfl dX5_meetMissing_15 ?_
    refine G_aload_n 18 hC rfl dX5_meetMissing_18 ?_
    refine G_callV0 19 hC (c_nextLine hB hw) okX10_nextLine lk_X5_59 (hB _ _ hw (by decide)) rfl rfl rfl rfl (Nat.le_of_ble_eq_true rfl) (by decide) (by decide) dX5_meetMissing_19 ?_
    refine G_goto 22 30 hC dX5_meetMissing_22 (by decide) ?_
    refine R_v 30 hR dX5_meetMissing_30 (Nat.le_refl _) (Nat.le_refl _) ?_
    unfold F_mm
    first | (rw [if_pos h5]; exact ⟨rfl, rfl, rfl, rfl⟩) | (rw [if_neg h5]; exact ⟨rfl, rfl, rfl, rfl⟩)
end C2

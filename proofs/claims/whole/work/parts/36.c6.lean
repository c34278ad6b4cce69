/-! ===== the class: a course, its references, its plan ===== -/
def FixC (c P : Nat) (N : NT) : Prop := BlkC c N ∧ N.1 (c + 0) 0 = some P ∧ N.1 (c + 0) 3 = some (c + 1) ∧ N.1 (c + 0) 4 = some (c + 2) ∧ N.1 (c + 0) 5 = some (c + 3) ∧ N.1 (c + 0) 6 = some (c + 4) ∧ N.1 (c + 0) 7 = some (c + 5) ∧ N.1 (c + 0) 8 = some (c + 6) ∧ (∀ t, t < 20 → N.1 (c + 1) t = some (c + (7 + t))) ∧ ∀ s, s < 8 → N.1 (c + 2) s = some (c + (27 + s))
def FixP (c P : Nat) (N : NT) : Prop := N.2.1 P = (4, 8) ∧ N.1 P 0 = some (P + 1) ∧ N.1 P 1 = some (P + 2) ∧ N.1 P 2 = some (P + 3) ∧ N.1 P 3 = some (P + 4) ∧ N.2.1 (P + 1) = (14, 6) ∧ N.2.1 (P + 2) = (18, 20) ∧ N.2.1 (P + 3) = (17, 8) ∧ N.2.1 (P + 4) = (12, 400) ∧ (P + 5 ≤ c ∨ c + 35 ≤ P)
section FXC
variable {c P : Nat} {N : NT}
theorem FixC.b (h : FixC c P N) : BlkC c N := h.1
theorem FixC.plan (h : FixC c P N) : N.1 (c + 0) 0 = some P := h.2.1
theorem FixC.works (h : FixC c P N) : N.1 (c + 0) 3 = some (c + 1) := h.2.2.1
theorem FixC.hunts (h : FixC c P N) : N.1 (c + 0) 4 = some (c + 2) := h.2.2.2.1
theorem FixC.spare (h : FixC c P N) : N.1 (c + 0) 5 = some (c + 3) := h.2.2.2.2.1
theorem FixC.held (h : FixC c P N) : N.1 (c + 0) 6 = some (c + 4) := h.2.2.2.2.2.1
theorem FixC.ended (h : FixC c P N) : N.1 (c + 0) 7 = some (c + 5) := h.2.2.2.2.2.2.1
theorem FixC.notes (h : FixC c P N) : N.1 (c + 0) 8 = some (c + 6) := h.2.2.2.2.2.2.2.1
theorem FixC.wk (h : FixC c P N) {t : Nat} (ht : t < 20) : N.1 (c + 1) t = some (c + (7 + t)) := h.2.2.2.2.2.2.2.2.1 t ht
theorem FixC.hu (h : FixC c P N) {s : Nat} (hs : s < 8) : N.1 (c + 2) s = some (c + (27 + s)) := h.2.2.2.2.2.2.2.2.2 s hs
theorem FixP.sh (h : FixP c P N) : N.2.1 P = (4, 8) := h.1
theorem FixP.rgr (h : FixP c P N) : N.1 P 0 = some (P + 1) := h.2.1
theorem FixP.rtk (h : FixP c P N) : N.1 P 1 = some (P + 2) := h.2.2.1
theorem FixP.rse (h : FixP c P N) : N.1 P 2 = some (P + 3) := h.2.2.2.1
theorem FixP.rsc (h : FixP c P N) : N.1 P 3 = some (P + 4) := h.2.2.2.2.1
theorem FixP.gr (h : FixP c P N) : N.2.1 (P + 1) = (14, 6) := h.2.2.2.2.2.1
theorem FixP.tk (h : FixP c P N) : N.2.1 (P + 2) = (18, 20) := h.2.2.2.2.2.2.1
theorem FixP.se (h : FixP c P N) : N.2.1 (P + 3) = (17, 8) := h.2.2.2.2.2.2.2.1
theorem FixP.sc (h : FixP c P N) : N.2.1 (P + 4) = (12, 400) := h.2.2.2.2.2.2.2.2.1
theorem FixP.out (h : FixP c P N) : OutC c P := h.2.2.2.2.2.2.2.2.2.elim (fun q => Or.inl (by omega)) Or.inr
theorem FixP.sco (h : FixP c P N) : OutC c (P + 4) := h.2.2.2.2.2.2.2.2.2.elim (fun q => Or.inl (by omega)) (fun q => Or.inr (by omega))
end FXC
/-- a task's kind -/
def TkS (N : NT) (a : Nat) : Prop := N.2.1 a = (8, 6) ∨ N.2.1 a = (5, 5) ∨ N.2.1 a = (7, 7)
/-- the plan's tasks -/
def TkOk (c P : Nat) (N : NT) (nt : Nat) : Prop := ∀ t, t < nt → ∃ a, N.1 (P + 2) t = some a ∧ TkS N a ∧ OutC c a
section TK
variable {l : Launch} {D : va_G} {B : Nat} {cc : ByteArray} {nL : Nat} {mn : String} {R : Room} {g : GT} {ls : List (Option MV)} {st : List MV} {k G : MI} {N : NT} {kc ks c : Nat} {L : ML}
theorem T_need (pc : Nat) (hC : Cx l D B RX0 cc nL mn R g) {a : Nat} (hT : TkS N a) (ho : OutC c a) (hd : decode cc pc = .ok (.getfield 146, 3)) (kk : g (pc + 3) ls (vi (G a 1) :: st) (pt c 35 k G) L N kc ks) : g pc ls (vr (some a) :: st) (pt c 35 k G) L N kc ks := by
  rcases hT with h | h | h
  · exact O_getI pc hC h ho fl_X0_146_8 rfl hd kk
  · exact O_getI pc hC h ho fl_X0_146_5 rfl hd kk
  · exact O_getI pc hC h ho fl_X0_146_7 rfl hd kk
theorem T_budget (pc : Nat) (hC : Cx l D B RX0 cc nL mn R g) {a : Nat} (hT : TkS N a) (ho : OutC c a) (hd : decode cc pc = .ok (.getfield 178, 3)) (kk : g (pc + 3) ls (vi (G a 2) :: st) (pt c 35 k G) L N kc ks) : g pc ls (vr (some a) :: st) (pt c 35 k G) L N kc ks := by
  rcases hT with h | h | h
  · exact O_getI pc hC h ho fl_X0_178_8 rfl hd kk
  · exact O_getI pc hC h ho fl_X0_178_5 rfl hd kk
  · exact O_getI pc hC h ho fl_X0_178_7 rfl hd kk
end TK
def W_write (k : MI) (nc : Nat) (v : Int32) : MI := upd2 (upd2 k 6 nc v) 0 9 (nI (nc + 1))
def W_ew (k : MI) (t : Nat) (x : Int32) : MI := upd2 (upd2 k (7 + t) 0 x) 0 17 (k 0 17 - nI 1)
def W_leave (k : MI) (need : Int32) (t th nc : Nat) : MI := W_write (upd2 (upd2 (upd2 (upd2 (upd2 k 4 th (-9)) 5 th (k 5 th + nI 1)) 0 17 (k 0 17 - nI 1)) 0 11 (k 0 11 + need)) 0 18 (nI 0)) nc (nI 100 * nI t + nI 10 * nI th + k (7 + t) 0)
section C6
variable {l : Launch} {D : va_G} {B c P : Nat} {N : NT} {k G : MI} {kl GL : ML} {I : MI} {L : ML}
theorem c_write (hX : FixC c P N) {nc : Nat} {x y z : Int32} (hnc : k 0 9 = nI nc) (hnc2 : nc < 40) : Cq l D B mX0_write [vr (some (c + 0)), vi x, vi y, vi z] (pt c 35 k G) L N none (pt c 35 (W_write k nc (nI 100 * x + nI 10 * y + z)) G) L := by
  have hB := hX.b
  refine Ct.of (M := mX0_write) (by decide) (Nat.le_of_ble_eq_true rfl) (fun g (hR : Cr l D B RX0 cX0_write 4 "write" { frames := 0, cells := 0, slots := 0, locals := 0 } none 0 0 _ g) => ?_)
  have hC := hR.cx
  show g 0 [some (vr (some (c + 0))), some (vi x), some (vi y), some (vi z)] [] _ _ N 0 0
  refine G_aload_n 0 hC rfl dX0_write_0 ?_
  refine B_getI 1 hC hB (rfl) fl_X0_75_0 rfl dX0_write_1 ?_
  rw [hnc]
  refine G_aload_n 4 hC rfl dX0_write_4 ?_
  refine G_getR 5 hC fl_X0_35_0 (hB _ _ (rfl) (by decide)) (hX.notes) rfl dX0_write_5 ?_
  refine G_alen 8 hC (hB _ _ (rfl) (by decide)) (by decide) (by decide) dX0_write_8 ?_
  refine G_icmp_lt 9 13 hC dX0_write_9 (by decide) (fun h9 => ?_) (fun h9 => ?_)
  · refine G_aload_n 13 hC rfl dX0_write_13 ?_
    refine G_getR 14 hC fl_X0_35_0 (hB _ _ (rfl) (by decide)) (hX.notes) rfl dX0_write_14 ?_
    refine G_aload_n 17 hC rfl dX0_write_17 ?_
    refine B_getI 18 hC hB (rfl) fl_X0_75_0 rfl dX0_write_18 ?_
    rw [hnc]
    refine G_bipush 21 hC (nI 100) (by decide) dX0_write_21 ?_
    refine G_iload_n 23 hC rfl dX0_write_23 ?_
    refine G_imul 24 hC dX0_write_24 ?_
    refine G_bipush 25 hC (nI 10) (by decide) dX0_write_25 ?_
    refine G_iload_n 27 hC rfl dX0_write_27 ?_
    refine G_imul 28 hC dX0_write_28 ?_
    refine G_iadd 29 hC dX0_write_29 ?_
    refine G_iload_n 30 hC rfl dX0_write_30 ?_
    refine G_iadd 31 hC dX0_write_31 ?_
    refine B_iast 32 hC hB (rfl) (by decide) (rfl) (by omega) dX0_write_32 ?_
    refine G_aload_n 33 hC rfl dX0_write_33 ?_
    refine G_dup 34 hC rfl dX0_write_34 ?_
    refine B_getI 35 hC hB (rfl) fl_X0_75_0 rfl dX0_write_35 ?_
    refine G_iconst 38 hC (nI 1) (by decide) dX0_write_38 ?_
    refine G_iadd 39 hC dX0_write_39 ?_
    refine B_putI 40 hC hB (rfl) (fp_X0_75_0 _) rfl rfl rfl dX0_write_40 ?_
    try rw [show upd2 k 6 nc (nI 100 * x + nI 10 * y + z) 0 9 = nI nc from hnc]
    refine R_v 43 hR dX0_write_43 (Nat.le_refl _) (Nat.le_refl _) ?_
    refine ⟨rfl, ?_, rfl, rfl⟩
    unfold W_write
    rw [nI_add]
  · exact absurd ((nI_ltI (by omega) (by omega)).mpr hnc2) h9
theorem c_endWaiting (hX : FixC c P N) {t : Nat} {x : Int32} (ht : t < 20) : Cq l D B mX0_endWaiting [vr (some (c + 0)), vi (nI t), vi x] (pt c 35 k G) L N none (pt c 35 (W_ew k t x) G) L := by
  have hB := hX.b
  refine Ct.of (M := mX0_endWaiting) (by decide) (Nat.le_of_ble_eq_true rfl) (fun g (hR : Cr l D B RX0 cX0_endWaiting 3 "endWaiting" { frames := 0, cells := 0, slots := 0, locals := 0 } none 0 0 _ g) => ?_)
  have hC := hR.cx
  show g 0 [some (vr (some (c + 0))), some (vi (nI t)), some (vi x)] [] _ _ N 0 0
  refine G_aload_n 0 hC rfl dX0_endWaiting_0 ?_
  refine G_getR 1 hC fl_X0_11_0 (hB _ _ (rfl) (by decide)) (hX.works) rfl dX0_endWaiting_1 ?_
  refine G_iload_n 4 hC rfl dX0_endWaiting_4 ?_
  refine G_aald 5 hC (hB _ _ (rfl) (by decide)) (by decide) (by decide) (rfl) (by omega) (by omega) (hX.wk (by omega)) dX0_endWaiting_5 ?_
  refine G_iload_n 6 hC rfl dX0_endWaiting_6 ?_
  refine B_putI 7 hC hB (shC_w (by omega)) (fp_X0_135_9 _) rfl rfl rfl dX0_endWaiting_7 ?_
  refine G_aload_n 10 hC rfl dX0_endWaiting_10 ?_
  refine G_dup 11 hC rfl dX0_endWaiting_11 ?_
  refine B_getI 12 hC hB (rfl) fl_X0_96_0 rfl dX0_endWaiting_12 ?_
  refine G_iconst 15 hC (nI 1) (by decide) dX0_endWaiting_15 ?_
  refine G_isub 16 hC dX0_endWaiting_16 ?_
  refine B_putI 17 hC hB (rfl) (fp_X0_96_0 _) rfl rfl rfl dX0_endWaiting_17 ?_
  refine R_v 20 hR dX0_endWaiting_20 (Nat.le_refl _) (Nat.le_refl _) ?_
  refine ⟨rfl, ?_, rfl, rfl⟩
  unfold W_ew
  rw [upd2_ne (show 0 ≠ 7 + t by omega)]
theorem c_leave (hX : FixC c P N) (hP : FixP c P N) {t th nc a : Nat} (ht : t < 20) (hth : th < 6) (hTr : N.1 (P + 2) t = some a) (hTs : TkS N a) (hTo : OutC c a) (hnc : k 0 9 = nI nc) (hnc2 : nc < 40) : Cq l D B mX0_leave [vr (some (c + 0)), vi (nI t), vi (nI th)] (pt c 35 k G) L N none (pt c 35 (W_leave k (G a 1) t th nc) G) L := by
  have hB := hX.b
  refine Ct.of (M := mX0_leave) (by decide) (Nat.le_of_ble_eq_true rfl) (fun g (hR : Cr l D B RX0 cX0_leave 3 "leave" { frames := 1, cells := 0, slots := 0, locals := 23 } none 0 0 _ g) => ?_)
  have hC := hR.cx
  show g 0 [some (vr (some (c + 0))), some (vi (nI t)), some (vi (nI th))] [] _ _ N 0 0
  refine G_aload_n 0 hC rfl dX0_leave_0 ?_
  refine G_getR 1 hC fl_X0_28_0 (hB _ _ (rfl) (by decide)) (hX.held) rfl dX0_leave_1 ?_
  refine G_iload_n 4 hC rfl dX0_leave_4 ?_
  refine G_bipush 5 hC (-9) (by decide) dX0_leave_5 ?_
  refine B_iast 7 hC hB (rfl) (by decide) (rfl) (by omega) dX0_leave_7 ?_
  refine G_aload_n 8 hC rfl dX0_leave_8 ?_
  refine G_getR 9 hC fl_X0_32_0 (hB _ _ (rfl) (by decide)) (hX.ended) rfl dX0_leave_9 ?_
  refine G_iload_n 12 hC rfl dX0_leave_12 ?_
  first | refine G_dup2 13 hC rfl rfl dX0_leave_13 ?_ | refine G_dup2L 13 hC dX0_leave_13 ?_
  refine B_iald 14 hC hB (rfl) (by decide) (rfl) (by omega) dX0_leave_14 ?_
  refine G_iconst 15 hC (nI 1) (by decide) dX0_leave_15 ?_
  refine G_iadd 16 hC dX0_leave_16 ?_
  refine B_iast 17 hC hB (rfl) (by decide) (rfl) (by omega) dX0_leave_17 ?_
  refine G_aload_n 18 hC rfl dX0_leave_18 ?_
  refine G_dup 19 hC rfl dX0_leave_19 ?_
  refine B_getI 20 hC hB (rfl) fl_X0_96_0 rfl dX0_leave_20 ?_
  refine G_iconst 23 hC (nI 1) (by decide) dX0_leave_23 ?_
  refine G_isub 24 hC dX0_leave_24 ?_
  refine B_putI 25 hC hB (rfl) (fp_X0_96_0 _) rfl rfl rfl dX0_leave_25 ?_
  refine G_aload_n 28 hC rfl dX0_leave_28 ?_
  refine G_dup 29 hC rfl dX0_leave_29 ?_
  refine B_getI 30 hC hB (rfl) fl_X0_78_0 rfl dX0_leave_30 ?_
  refine G_aload_n 33 hC rfl dX0_leave_33 ?_
  refine G_getR 34 hC fl_X0_42_0 (hB _ _ (rfl) (by decide)) (hX.plan) rfl dX0_leave_34 ?_
  refine G_getR 37 hC fl_X0_142_4 (hP.sh) (hP.rtk) rfl dX0_leave_37 ?_
  refine G_iload_n 40 hC rfl dX0_leave_40 ?_
  refine G_aald 41 hC (hP.tk) (by decide) (by decide) (rfl) (by omega) (by omega) (hTr) dX0_leave_41 ?_
  refine T_need 42 hC (hTs) (hTo) dX0_leave_42 ?_
  refine G_iadd 45 hC dX0_leave_45 ?_
  refine B_putI 46 hC hB (rfl) (fp_X0_78_0 _) rfl rfl rfl dX0_leave_46 ?_
  refine G_aload_n 49 hC rfl dX0_leave_49 ?_
  refine G_iconst 50 hC (nI 0) (by decide) dX0_leave_50 ?_
  refine B_putI 51 hC hB (rfl) (fp_X0_99_0 _) rfl (by first | rfl | decide) (by first | rfl | decide) dX0_leave_51 ?_
  refine G_aload_n 54 hC rfl dX0_leave_54 ?_
  refine G_iload_n 55 hC rfl dX0_leave_55 ?_
  refine G_iload_n 56 hC rfl dX0_leave_56 ?_
  refine G_aload_n 57 hC rfl dX0_leave_57 ?_
  refine G_getR 58 hC fl_X0_11_0 (hB _ _ (rfl) (by decide)) (hX.works) rfl dX0_leave_58 ?_
  refine G_iload_n 61 hC rfl dX0_leave_61 ?_
  refine G_aald 62 hC (hB _ _ (rfl) (by decide)) (by decide) (by decide) (rfl) (by omega) (by omega) (hX.wk (by omega)) dX0_leave_62 ?_
  refine B_getI 63 hC hB (shC_w (by omega)) fl_X0_135_9 rfl dX0_leave_63 ?_
  rw [upd2_ne (show 7 + t ≠ 0 by omega), upd2_ne (show 7 + t ≠ 0 by omega), upd2_ne (show 7 + t ≠ 0 by omega), upd2_ne (show 7 + t ≠ 5 by omega), upd2_ne (show 7 + t ≠ 4 by omega)]
  refine G_callV0 66 hC (c_write hX hnc hnc2) okX0_write lk_X0_157 (hB _ _ (rfl) (by decide)) rfl rfl rfl rfl (Nat.le_of_ble_eq_true rfl) (by decide) (by decide) dX0_leave_66 ?_
  refine R_v 69 hR dX0_leave_69 (Nat.le_refl _) (Nat.le_refl _) ?_
  exact ⟨rfl, rfl, rfl, rfl⟩
end C6

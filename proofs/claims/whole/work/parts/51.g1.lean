/-! ===== what is made: contracts that make cells; the small constructors ===== -/
theorem im_obj : Cond.instanceMethod Lib.objectInit ∈ lw_gd := (gd_mem (List.mem_of_getElem? (i := 72) (by decide +kernel)) rfl)
theorem cd_obj : Cond.code Lib.objectInit ⟨#[0xb1]⟩ 1 none ∈ lw_gd := (gd_mem (List.mem_of_getElem? (i := 73) (by decide +kernel)) rfl)
/-- a contract with one answer and end; at most mc cells of ms slots are made -/
def Cn (l : Launch) (D : va_G) (B : Nat) (M : MD) (as : List MV) (I : MI) (L : ML) (N : NT) (mc ms : Nat) (v : Option MV) (I1 : MI) (L1 : ML) (N1 : NT) : Prop :=
  Ct l D B M as I L N mc ms (fun v' I' L' N' => v' = v ∧ I' = I1 ∧ L' = L1 ∧ N' = N1)
section CN
variable {l : Launch} {D : va_G} {B : Nat} {own : String} {cc : ByteArray} {nL : Nat} {mn : String} {R : Room} {g : GT} {ls ls' : List (Option MV)} {st st0 : List MV} {I I1 : MI} {L L1 : ML} {N N1 : NT} {kc ks : Nat}
variable {M : MD} {as : List MV} {mc ms idx n : Nat}
theorem G_callI0 (pc : Nat) (hC : Cx l D B own cc nL mn R g) {b : Nat} (hM : Cn l D B M (vr (some b) :: as) I L N mc ms none I1 L1 N1) (hm : MokI M n) (hlink : Cond.methodLink own idx M.y ∈ lw_gd) (hn : as.length = n) (hstk : st0 = as.reverse ++ vr (some b) :: st) (hcat : (st.map mcat).sum ≤ 8)
    (hR : M.fr + 1 ≤ R.frames ∧ 8 + (M.nL + 11) + M.lo ≤ R.locals) (hf : kc + mc ≤ R.cells ∧ ks + ms ≤ R.slots) (hd : decode cc pc = .ok (.invokespecial idx, 3)) (kk : g (pc + 3) ls st I1 L1 N1 (kc + mc) (ks + ms)) : g pc ls st0 I L N kc ks :=
  G_callI pc hC hM hm hlink hn hstk hcat hR hf hd (fun v' I' L' N' h => by obtain ⟨rfl, rfl, rfl, rfl⟩ := h; exact kk)
theorem G_callIN0 (pc : Nat) (hC : Cx l D B own cc nL mn R g) {b : Nat} {host : String} (hM : Cn l D B M (vr (some b) :: as) I L N mc ms none I1 L1 N1) (hm : MokI M n) (hlink : Cond.methodLinkNest own idx M.y host ∈ nwL) (hn : as.length = n) (hstk : st0 = as.reverse ++ vr (some b) :: st) (hcat : (st.map mcat).sum ≤ 8)
    (hR : M.fr + 1 ≤ R.frames ∧ 8 + (M.nL + 11) + M.lo ≤ R.locals) (hf : kc + mc ≤ R.cells ∧ ks + ms ≤ R.slots) (hd : decode cc pc = .ok (.invokespecial idx, 3)) (kk : g (pc + 3) ls st I1 L1 N1 (kc + mc) (ks + ms)) : g pc ls st0 I L N kc ks :=
  G_callIN pc hC hM hm hlink hn hstk hcat hR hf hd (fun v' I' L' N' h => by obtain ⟨rfl, rfl, rfl, rfl⟩ := h; exact kk)
theorem G_callSn (pc : Nat) (hC : Cx l D B own cc nL mn R g) {v : MV} (hM : Cn l D B M as I L N mc ms (some v) I1 L1 N1) (hm : MokS M n) (hlink : Cond.methodLink own idx M.y ∈ lw_gd) (hown : M.y.cls = own) (hn : as.length = n) (hstk : st0 = as.reverse ++ st) (hcat : (st.map mcat).sum ≤ 8)
    (hR : M.fr + 1 ≤ R.frames ∧ 8 + (M.nL + 11) + M.lo ≤ R.locals) (hf : kc + mc ≤ R.cells ∧ ks + ms ≤ R.slots) (hd : decode cc pc = .ok (.invokestatic idx, 3)) (kk : g (pc + 3) ls (v :: st) I1 L1 N1 (kc + mc) (ks + ms)) : g pc ls st0 I L N kc ks :=
  G_callS pc hC hM hm hlink hown hn hstk hcat hR hf hd (fun v' I' L' N' h => by obtain ⟨rfl, rfl, rfl, rfl⟩ := h; exact kk)
theorem G_callVn (pc : Nat) (hC : Cx l D B own cc nL mn R g) {b ci nb : Nat} {q : vw_C} {v : MV} (hM : Cn l D B M (vr (some b) :: as) I L N mc ms (some v) I1 L1 N1) (hm : MokV M n) (hlink : Cond.methodLink own idx M.y ∈ lw_gd) (hb0 : N.2.1 b = (ci, nb)) (hq : vwCl[ci]? = some q) (hqy : q.1 = M.y.cls) (hn : as.length = n) (hstk : st0 = as.reverse ++ vr (some b) :: st) (hcat : (st.map mcat).sum ≤ 8)
    (hR : M.fr + 1 ≤ R.frames ∧ 8 + (M.nL + 11) + M.lo ≤ R.locals) (hf : kc + mc ≤ R.cells ∧ ks + ms ≤ R.slots) (hd : decode cc pc = .ok (.invokevirtual idx, 3)) (kk : g (pc + 3) ls (v :: st) I1 L1 N1 (kc + mc) (ks + ms)) : g pc ls st0 I L N kc ks :=
  G_callV pc hC hM hm hlink hb0 hq hqy hn hstk hcat hR hf hd (fun v' I' L' N' h => by obtain ⟨rfl, rfl, rfl, rfl⟩ := h; exact kk)
end CN
/-- a new array's cell, of shape s, put into field (or place) j of a -/
def mkN (N : NT) (a j : Nat) (s : Nat × Nat) : NT := (upd2 N.1 a j (some N.2.2), (up N.2.1 N.2.2 s, N.2.2 + 1))
def T_I (I : MI) (a : Nat) (so nd bd : Int32) : MI := upd2 (upd2 (upd2 I a 0 so) a 1 nd) a 2 bd
section G1
variable {l : Launch} {D : va_G} {B : Nat} {N : NT} {I : MI} {L : ML}
theorem g_Line_init {a m : Nat} {k : Int32} (hs : N.2.1 a = (3, 2)) (ha : a < N.2.2) (hm : m ≤ 12) : Cn l D B mX3_init [vr (some a), vi k, vi (nI m)] I L N 1 12 none (upd2 I a 0 k) L (mkN N a 1 (13, m)) := by
  refine Ct.of (M := mX3_init) (by decide) (Nat.le_of_ble_eq_true rfl) (fun g (hR : Cr l D B RX3 cX3_init 3 "<init>" { frames := 1, cells := 1, slots := 12, locals := 20 } none 1 12 _ g) => ?_)
  have hC := hR.cx
  show g 0 [some (vr (some a)), some (vi k), some (vi (nI m))] [] _ _ N 0 0
  refine G_aload_n 0 hC rfl dX3_init_0 ?_
  refine G_objInit 1 hC lk_X3_3 im_obj cd_obj (by decide) (by decide) dX3_init_1 ?_
  refine G_aload_n 4 hC rfl dX3_init_4 ?_
  refine G_iload_n 5 hC rfl dX3_init_5 ?_
  refine G_putI 6 hC (fp_X3_9_3) (hs) rfl rfl rfl dX3_init_6 ?_
  refine G_aload_n 9 hC rfl dX3_init_9 ?_
  refine G_iload_n 10 hC rfl dX3_init_10 ?_
  refine G_newL 11 hC (rfl) (by omega) ar_long (by decide) (by show 0 + _ ≤ 12; omega) dX3_init_11 ?_
  refine G_putR 13 hC fp_X3_15_3 (show up N.2.1 N.2.2 (13, m) a = (3, 2) by rw [up_ne (Nat.ne_of_lt ha)]; exact hs) rfl rfl dX3_init_13 ?_
  refine R_v 16 hR dX3_init_16 (Nat.le_refl _) (by show 0 + m ≤ 12; omega) ?_
  exact ⟨rfl, rfl, rfl, rfl⟩
theorem g_Grid_init {a z : Nat} {k : Int32} (hs : N.2.1 a = (1, 2)) (ha : a < N.2.2) (hz : z ≤ 12) : Cn l D B mX1_init [vr (some a), vi k, vi (nI z)] I L N 1 12 none (upd2 I a 0 k) L (mkN N a 1 (16, z)) := by
  refine Ct.of (M := mX1_init) (by decide) (Nat.le_of_ble_eq_true rfl) (fun g (hR : Cr l D B RX1 cX1_init 3 "<init>" { frames := 1, cells := 1, slots := 12, locals := 20 } none 1 12 _ g) => ?_)
  have hC := hR.cx
  show g 0 [some (vr (some a)), some (vi k), some (vi (nI z))] [] _ _ N 0 0
  refine G_aload_n 0 hC rfl dX1_init_0 ?_
  refine G_objInit 1 hC lk_X1_3 im_obj cd_obj (by decide) (by decide) dX1_init_1 ?_
  refine G_aload_n 4 hC rfl dX1_init_4 ?_
  refine G_iload_n 5 hC rfl dX1_init_5 ?_
  refine G_putI 6 hC (fp_X1_9_1) (hs) rfl rfl rfl dX1_init_6 ?_
  refine G_aload_n 9 hC rfl dX1_init_9 ?_
  refine G_iload_n 10 hC rfl dX1_init_10 ?_
  refine G_anew 11 hC 16 (by decide) (by decide) (rfl) (by omega) cl_X1_15 (by decide) (by decide) (by show 0 + _ ≤ 12; omega) dX1_init_11 ?_
  refine G_putR 14 hC fp_X1_17_1 (show up N.2.1 N.2.2 (16, z) a = (1, 2) by rw [up_ne (Nat.ne_of_lt ha)]; exact hs) rfl rfl dX1_init_14 ?_
  refine R_v 17 hR dX1_init_17 (Nat.le_refl _) (by show 0 + z ≤ 12; omega) ?_
  exact ⟨rfl, rfl, rfl, rfl⟩
theorem g_Search_init {a : Nat} {ga : Option Nat} {k dv : Int32} {lm : Int64} (hs : N.2.1 a = (6, 4)) : Cn l D B mX6_init [vr (some a), vr ga, vi k, vi dv, vl lm] I L N 0 0 none (upd2 (upd2 I a 1 k) a 2 dv) (upd2 L a 3 lm) (upd2 N.1 a 0 ga, N.2) := by
  refine Ct.of (M := mX6_init) (by decide) (Nat.le_of_ble_eq_true rfl) (fun g (hR : Cr l D B RX6 cX6_init 6 "<init>" { frames := 1, cells := 0, slots := 0, locals := 20 } none 0 0 _ g) => ?_)
  have hC := hR.cx
  show g 0 [some (vr (some a)), some (vr ga), some (vi k), some (vi dv), some (vl lm), none] [] _ _ N 0 0
  refine G_aload_n 0 hC rfl dX6_init_0 ?_
  refine G_objInit 1 hC lk_X6_1 im_obj cd_obj (by decide) (by decide) dX6_init_1 ?_
  refine G_aload_n 4 hC rfl dX6_init_4 ?_
  refine G_aload_n 5 hC rfl dX6_init_5 ?_
  refine G_putR 6 hC (fp_X6_7_6) (hs) rfl rfl dX6_init_6 ?_
  refine G_aload_n 9 hC rfl dX6_init_9 ?_
  refine G_iload_n 10 hC rfl dX6_init_10 ?_
  refine G_putI 11 hC (fp_X6_13_6) (hs) rfl rfl rfl dX6_init_11 ?_
  refine G_aload_n 14 hC rfl dX6_init_14 ?_
  refine G_iload_n 15 hC rfl dX6_init_15 ?_
  refine G_putI 16 hC (fp_X6_17_6) (hs) rfl rfl rfl dX6_init_16 ?_
  refine G_aload_n 19 hC rfl dX6_init_19 ?_
  refine G_lload 20 hC rfl dX6_init_20 ?_
  refine G_putL 22 hC (fp_X6_20_6) (hs) rfl dX6_init_22 ?_
  refine R_v 25 hR dX6_init_25 (Nat.le_refl _) (Nat.le_refl _) ?_
  exact ⟨rfl, rfl, rfl, rfl⟩
theorem g_Task_init8 {a : Nat} {so nd bd : Int32} (hs : N.2.1 a = (8, 6)) : Cn l D B mX8_init [vr (some a), vi so, vi nd, vi bd] I L N 0 0 none (T_I I a so nd bd) L N := by
  refine Ct.of (M := mX8_init) (by decide) (Nat.le_of_ble_eq_true rfl) (fun g (hR : Cr l D B RX8 cX8_init 4 "<init>" { frames := 1, cells := 0, slots := 0, locals := 20 } none 0 0 _ g) => ?_)
  have hC := hR.cx
  show g 0 [some (vr (some a)), some (vi so), some (vi nd), some (vi bd)] [] _ _ N 0 0
  refine G_aload_n 0 hC rfl dX8_init_0 ?_
  refine G_objInit 1 hC lk_X8_3 im_obj cd_obj (by decide) (by decide) dX8_init_1 ?_
  refine G_aload_n 4 hC rfl dX8_init_4 ?_
  refine G_iload_n 5 hC rfl dX8_init_5 ?_
  refine G_putI 6 hC (fp_X8_9_8) (hs) rfl rfl rfl dX8_init_6 ?_
  refine G_aload_n 9 hC rfl dX8_init_9 ?_
  refine G_iload_n 10 hC rfl dX8_init_10 ?_
  refine G_putI 11 hC (fp_X8_15_8) (hs) rfl rfl rfl dX8_init_11 ?_
  refine G_aload_n 14 hC rfl dX8_init_14 ?_
  refine G_iload_n 15 hC rfl dX8_init_15 ?_
  refine G_putI 16 hC (fp_X8_18_8) (hs) rfl rfl rfl dX8_init_16 ?_
  refine R_v 19 hR dX8_init_19 (Nat.le_refl _) (Nat.le_refl _) ?_
  exact ⟨rfl, rfl, rfl, rfl⟩
theorem g_Task_init5 {a : Nat} {so nd bd : Int32} (hs : N.2.1 a = (5, 5)) : Cn l D B mX8_init [vr (some a), vi so, vi nd, vi bd] I L N 0 0 none (T_I I a so nd bd) L N := by
  refine Ct.of (M := mX8_init) (by decide) (Nat.le_of_ble_eq_true rfl) (fun g (hR : Cr l D B RX8 cX8_init 4 "<init>" { frames := 1, cells := 0, slots := 0, locals := 20 } none 0 0 _ g) => ?_)
  have hC := hR.cx
  show g 0 [some (vr (some a)), some (vi so), some (vi nd), some (vi bd)] [] _ _ N 0 0
  refine G_aload_n 0 hC rfl dX8_init_0 ?_
  refine G_objInit 1 hC lk_X8_3 im_obj cd_obj (by decide) (by decide) dX8_init_1 ?_
  refine G_aload_n 4 hC rfl dX8_init_4 ?_
  refine G_iload_n 5 hC rfl dX8_init_5 ?_
  refine G_putI 6 hC (fp_X8_9_5) (hs) rfl rfl rfl dX8_init_6 ?_
  refine G_aload_n 9 hC rfl dX8_init_9 ?_
  refine G_iload_n 10 hC rfl dX8_init_10 ?_
  refine G_putI 11 hC (fp_X8_15_5) (hs) rfl rfl rfl dX8_init_11 ?_
  refine G_aload_n 14 hC rfl dX8_init_14 ?_
  refine G_iload_n 15 hC rfl dX8_init_15 ?_
  refine G_putI 16 hC (fp_X8_18_5) (hs) rfl rfl rfl dX8_init_16 ?_
  refine R_v 19 hR dX8_init_19 (Nat.le_refl _) (Nat.le_refl _) ?_
  exact ⟨rfl, rfl, rfl, rfl⟩
theorem g_Task_init7 {a : Nat} {so nd bd : Int32} (hs : N.2.1 a = (7, 7)) : Cn l D B mX8_init [vr (some a), vi so, vi nd, vi bd] I L N 0 0 none (T_I I a so nd bd) L N := by
  refine Ct.of (M := mX8_init) (by decide) (Nat.le_of_ble_eq_true rfl) (fun g (hR : Cr l D B RX8 cX8_init 4 "<init>" { frames := 1, cells := 0, slots := 0, locals := 20 } none 0 0 _ g) => ?_)
  have hC := hR.cx
  show g 0 [some (vr (some a)), some (vi so), some (vi nd), some (vi bd)] [] _ _ N 0 0
  refine G_aload_n 0 hC rfl dX8_init_0 ?_
  refine G_objInit 1 hC lk_X8_3 im_obj cd_obj (by decide) (by decide) dX8_init_1 ?_
  refine G_aload_n 4 hC rfl dX8_init_4 ?_
  refine G_iload_n 5 hC rfl dX8_init_5 ?_
  refine G_putI 6 hC (fp_X8_9_7) (hs) rfl rfl rfl dX8_init_6 ?_
  refine G_aload_n 9 hC rfl dX8_init_9 ?_
  refine G_iload_n 10 hC rfl dX8_init_10 ?_
  refine G_putI 11 hC (fp_X8_15_7) (hs) rfl rfl rfl dX8_init_11 ?_
  refine G_aload_n 14 hC rfl dX8_init_14 ?_
  refine G_iload_n 15 hC rfl dX8_init_15 ?_
  refine G_putI 16 hC (fp_X8_18_7) (hs) rfl rfl rfl dX8_init_16 ?_
  refine R_v 19 hR dX8_init_19 (Nat.le_refl _) (Nat.le_refl _) ?_
  exact ⟨rfl, rfl, rfl, rfl⟩
theorem g_Way_init {a : Nat} {z p f nd bd : Int32} {an : Int64} (hs : N.2.1 a = (8, 6)) : Cn l D B mX9_init [vr (some a), vi z, vi p, vl an, vi f, vi nd, vi bd] I L N 0 0 none (upd2 (upd2 (T_I I a (if z = 0 then nI 0 else nI 1) nd bd) a 3 p) a 5 f) (upd2 L a 4 an) N := by
  refine Ct.of (M := mX9_init) (by decide) (Nat.le_of_ble_eq_true rfl) (fun g (hR : Cr l D B RX9 cX9_init 8 "<init>" { frames := 2, cells := 0, slots := 0, locals := 43 } none 0 0 _ g) => ?_)
  have hC := hR.cx
  show g 0 [some (vr (some a)), some (vi z), some (vi p), some (vl an), none, some (vi f), some (vi nd), some (vi bd)] [] _ _ N 0 0
  refine G_aload_n 0 hC rfl dX9_init_0 ?_
  refine G_iload_n 1 hC rfl dX9_init_1 ?_
  first | refine G_if_eq_b 2 9 hC dX9_init_2 (by decide) (fun h2 => ?_) (fun h2 => ?_) | refine G_if_eq 2 9 hC dX9_init_2 (by decide) (fun h2 => ?_) (fun h2 => ?_)
  · refine G_iconst 9 hC (nI 0) (by decide) dX9_init_9 ?_
    refine G_iload 10 hC rfl dX9_init_10 ?_
    refine G_iload 12 hC rfl dX9_init_12 ?_
    refine G_callI0 14 hC (g_Task_init8 hs) okX8_init lk_X9_3 rfl rfl (Nat.le_of_ble_eq_true rfl) (by decide) (by decide) dX9_init_14 ?_
    refine G_aload_n 17 hC rfl dX9_init_17 ?_
    refine G_iload_n 18 hC rfl dX9_init_18 ?_
    refine G_putI 19 hC (fp_X9_9_8) (hs) rfl rfl rfl dX9_init_19 ?_
    refine G_aload_n 22 hC rfl dX9_init_22 ?_
    refine G_lload_n 23 hC rfl dX9_init_23 ?_
    refine G_putL 24 hC (fp_X9_15_8) (hs) rfl dX9_init_24 ?_
    refine G_aload_n 27 hC rfl dX9_init_27 ?_
    refine G_iload 28 hC rfl dX9_init_28 ?_
    refine G_putI 30 hC (fp_X9_19_8) (hs) rfl rfl rfl dX9_init_30 ?_
    refine R_v 33 hR dX9_init_33 (Nat.le_refl _) (Nat.le_refl _) ?_
    refine ⟨rfl, ?_, rfl, rfl⟩
    first | (rw [if_pos h2]; done) | (rw [if_neg h2]; done)
  · refine G_iconst 5 hC (nI 1) (by decide) dX9_init_5 ?_
    refine G_goto 6 10 hC dX9_init_6 (by decide) ?_
    refine G_iload 10 hC rfl dX9_init_10 ?_
    refine G_iload 12 hC rfl dX9_init_12 ?_
    refine G_callI0 14 hC (g_Task_init8 hs) okX8_init lk_X9_3 rfl rfl (Nat.le_of_ble_eq_true rfl) (by decide) (by decide) dX9_init_14 ?_
    refine G_aload_n 17 hC rfl dX9_init_17 ?_
    refine G_iload_n 18 hC rfl dX9_init_18 ?_
    refine G_putI 19 hC (fp_X9_9_8) (hs) rfl rfl rfl dX9_init_19 ?_
    refine G_aload_n 22 hC rfl dX9_init_22 ?_
    refine G_lload_n 23 hC rfl dX9_init_23 ?_
    refine G_putL 24 hC (fp_X9_15_8) (hs) rfl dX9_init_24 ?_
    refine G_aload_n 27 hC rfl dX9_init_27 ?_
    refine G_iload 28 hC rfl dX9_init_28 ?_
    refine G_putI 30 hC (fp_X9_19_8) (hs) rfl rfl rfl dX9_init_30 ?_
    refine R_v 33 hR dX9_init_33 (Nat.le_refl _) (Nat.le_refl _) ?_
    refine ⟨rfl, ?_, rfl, rfl⟩
    first | (rw [if_pos h2]; done) | (rw [if_neg h2]; done)
theorem g_Reader_init {a : Nat} {ga : Option Nat} {z kd nd bd : Int32} (hs : N.2.1 a = (5, 5)) : Cn l D B mX5_init [vr (some a), vi z, vr ga, vi kd, vi nd, vi bd] I L N 0 0 none (upd2 (T_I I a (if z = 0 then nI 2 else nI 3) nd bd) a 4 kd) L (upd2 N.1 a 3 ga, N.2) := by
  refine Ct.of (M := mX5_init) (by decide) (Nat.le_of_ble_eq_true rfl) (fun g (hR : Cr l D B RX5 cX5_init 6 "<init>" { frames := 2, cells := 0, slots := 0, locals := 43 } none 0 0 _ g) => ?_)
  have hC := hR.cx
  show g 0 [some (vr (some a)), some (vi z), some (vr ga), some (vi kd), some (vi nd), some (vi bd)] [] _ _ N 0 0
  refine G_aload_n 0 hC rfl dX5_init_0 ?_
  refine G_iload_n 1 hC rfl dX5_init_1 ?_
  first | refine G_if_eq_b 2 9 hC dX5_init_2 (by decide) (fun h2 => ?_) (fun h2 => ?_) | refine G_if_eq 2 9 hC dX5_init_2 (by decide) (fun h2 => ?_) (fun h2 => ?_)
  · refine G_iconst 9 hC (nI 2) (by decide) dX5_init_9 ?_
    refine G_iload 10 hC rfl dX5_init_10 ?_
    refine G_iload 12 hC rfl dX5_init_12 ?_
    refine G_callI0 14 hC (g_Task_init5 hs) okX8_init lk_X5_3 rfl rfl (Nat.le_of_ble_eq_true rfl) (by decide) (by decide) dX5_init_14 ?_
    refine G_aload_n 17 hC rfl dX5_init_17 ?_
    refine G_aload_n 18 hC rfl dX5_init_18 ?_
    refine G_putR 19 hC (fp_X5_9_5) (hs) rfl rfl dX5_init_19 ?_
    refine G_aload_n 22 hC rfl dX5_init_22 ?_
    refine G_iload_n 23 hC rfl dX5_init_23 ?_
    refine G_putI 24 hC (fp_X5_15_5) (hs) rfl rfl rfl dX5_init_24 ?_
    refine R_v 27 hR dX5_init_27 (Nat.le_refl _) (Nat.le_refl _) ?_
    refine ⟨rfl, ?_, rfl, rfl⟩
    first | (rw [if_pos h2]; done) | (rw [if_neg h2]; done)
  · refine G_iconst 5 hC (nI 3) (by decide) dX5_init_5 ?_
    refine G_goto 6 10 hC dX5_init_6 (by decide) ?_
    refine G_iload 10 hC rfl dX5_init_10 ?_
    refine G_iload 12 hC rfl dX5_init_12 ?_
    refine G_callI0 14 hC (g_Task_init5 hs) okX8_init lk_X5_3 rfl rfl (Nat.le_of_ble_eq_true rfl) (by decide) (by decide) dX5_init_14 ?_
    refine G_aload_n 17 hC rfl dX5_init_17 ?_
    refine G_aload_n 18 hC rfl dX5_init_18 ?_
    refine G_putR 19 hC (fp_X5_9_5) (hs) rfl rfl dX5_init_19 ?_
    refine G_aload_n 22 hC rfl dX5_init_22 ?_
    refine G_iload_n 23 hC rfl dX5_init_23 ?_
    refine G_putI 24 hC (fp_X5_15_5) (hs) rfl rfl rfl dX5_init_24 ?_
    refine R_v 27 hR dX5_init_27 (Nat.le_refl _) (Nat.le_refl _) ?_
    refine ⟨rfl, ?_, rfl, rfl⟩
    first | (rw [if_pos h2]; done) | (rw [if_neg h2]; done)
theorem g_Share_init {a : Nat} {sa : Option Nat} {s fr to nd bd : Int32} (hs : N.2.1 a = (7, 7)) : Cn l D B mX7_init [vr (some a), vr sa, vi s, vi fr, vi to, vi nd, vi bd] I L N 0 0 none (upd2 (upd2 (upd2 (T_I I a (nI 4) nd bd) a 4 s) a 5 fr) a 6 to) L (upd2 N.1 a 3 sa, N.2) := by
  refine Ct.of (M := mX7_init) (by decide) (Nat.le_of_ble_eq_true rfl) (fun g (hR : Cr l D B RX7 cX7_init 7 "<init>" { frames := 2, cells := 0, slots := 0, locals := 43 } none 0 0 _ g) => ?_)
  have hC := hR.cx
  show g 0 [some (vr (some a)), some (vr sa), some (vi s), some (vi fr), some (vi to), some (vi nd), some (vi bd)] [] _ _ N 0 0
  refine G_aload_n 0 hC rfl dX7_init_0 ?_
  refine G_iconst 1 hC (nI 4) (by decide) dX7_init_1 ?_
  refine G_iload 2 hC rfl dX7_init_2 ?_
  refine G_iload 4 hC rfl dX7_init_4 ?_
  refine G_callI0 6 hC (g_Task_init7 hs) okX8_init lk_X7_3 rfl rfl (Nat.le_of_ble_eq_true rfl) (by decide) (by decide) dX7_init_6 ?_
  refine G_aload_n 9 hC rfl dX7_init_9 ?_
  refine G_aload_n 10 hC rfl dX7_init_10 ?_
  refine G_putR 11 hC (fp_X7_9_7) (hs) rfl rfl dX7_init_11 ?_
  refine G_aload_n 14 hC rfl dX7_init_14 ?_
  refine G_iload_n 15 hC rfl dX7_init_15 ?_
  refine G_putI 16 hC (fp_X7_15_7) (hs) rfl rfl rfl dX7_init_16 ?_
  refine G_aload_n 19 hC rfl dX7_init_19 ?_
  refine G_iload_n 20 hC rfl dX7_init_20 ?_
  refine G_putI 21 hC (fp_X7_19_7) (hs) rfl rfl rfl dX7_init_21 ?_
  refine G_aload_n 24 hC rfl dX7_init_24 ?_
  refine G_iload 25 hC rfl dX7_init_25 ?_
  refine G_putI 27 hC (fp_X7_22_7) (hs) rfl rfl rfl dX7_init_27 ?_
  refine R_v 30 hR dX7_init_30 (Nat.le_refl _) (Nat.le_refl _) ?_
  exact ⟨rfl, rfl, rfl, rfl⟩
theorem g_addTask {P a nt : Nat} (hP : N.2.1 P = (4, 8)) (hr : N.1 P 1 = some (P + 2)) (htk : N.2.1 (P + 2) = (18, 20)) (hnt : I P 5 = nI nt) (hnt2 : nt < 20) (hT : TkS N a) : Cn l D B mX4_addTask [vr (some P), vr (some a)] I L N 0 0 (some (vi (nI nt))) (upd2 I P 5 (nI (nt + 1))) L (upd2 N.1 (P + 2) nt (some a), N.2) := by
  refine Ct.of (M := mX4_addTask) (by decide) (Nat.le_of_ble_eq_true rfl) (fun g (hR : Cr l D B RX4 cX4_addTask 2 "addTask" { frames := 0, cells := 0, slots := 0, locals := 0 } (some .int) 0 0 _ g) => ?_)
  have hC := hR.cx
  show g 0 [some (vr (some P)), some (vr (some a))] [] _ _ N 0 0
  refine G_aload_n 0 hC rfl dX4_addTask_0 ?_
  refine G_getR 1 hC fl_X4_19_4 (hP) (hr) rfl dX4_addTask_1 ?_
  refine G_aload_n 4 hC rfl dX4_addTask_4 ?_
  refine G_getI 5 hC fl_X4_37_4 (hP) rfl dX4_addTask_5 ?_
  rw [hnt]
  refine G_aload_n 8 hC rfl dX4_addTask_8 ?_
  rcases hT with h | h | h
  · refine G_aast 9 hC ((RX9, TX9, 6)) (htk) (by decide) (by decide) (h) rfl (Or.inr cs_X9) (rfl) (by omega) (by omega) dX4_addTask_9 ?_
    refine G_aload_n 10 hC rfl dX4_addTask_10 ?_
    refine G_dup 11 hC rfl dX4_addTask_11 ?_
    refine G_getI 12 hC fl_X4_37_4 (hP) rfl dX4_addTask_12 ?_
    rw [hnt]
    refine G_dup_x1 15 hC rfl rfl dX4_addTask_15 ?_
    refine G_iconst 16 hC (nI 1) (by decide) dX4_addTask_16 ?_
    refine G_iaddN 17 hC dX4_addTask_17 ?_
    refine G_putI 18 hC (fp_X4_37_4 _) (hP) rfl rfl rfl dX4_addTask_18 ?_
    refine R_i 21 hR (by first | rfl | exact narrow_bI _) dX4_addTask_21 (Nat.le_refl _) (Nat.le_refl _) ?_
    exact ⟨rfl, rfl, rfl, rfl⟩
  · refine G_aast 9 hC ((RX5, TX5, 5)) (htk) (by decide) (by decide) (h) rfl (Or.inr cs_X5) (rfl) (by omega) (by omega) dX4_addTask_9 ?_
    refine G_aload_n 10 hC rfl dX4_addTask_10 ?_
    refine G_dup 11 hC rfl dX4_addTask_11 ?_
    refine G_getI 12 hC fl_X4_37_4 (hP) rfl dX4_addTask_12 ?_
    rw [hnt]
    refine G_dup_x1 15 hC rfl rfl dX4_addTask_15 ?_
    refine G_iconst 16 hC (nI 1) (by decide) dX4_addTask_16 ?_
    refine G_iaddN 17 hC dX4_addTask_17 ?_
    refine G_putI 18 hC (fp_X4_37_4 _) (hP) rfl rfl rfl dX4_addTask_18 ?_
    refine R_i 21 hR (by first | rfl | exact narrow_bI _) dX4_addTask_21 (Nat.le_refl _) (Nat.le_refl _) ?_
    exact ⟨rfl, rfl, rfl, rfl⟩
  · refine G_aast 9 hC ((RX7, TX7, 7)) (htk) (by decide) (by decide) (h) rfl (Or.inr cs_X7) (rfl) (by omega) (by omega) dX4_addTask_9 ?_
    refine G_aload_n 10 hC rfl dX4_addTask_10 ?_
    refine G_dup 11 hC rfl dX4_addTask_11 ?_
    refine G_getI 12 hC fl_X4_37_4 (hP) rfl dX4_addTask_12 ?_
    rw [hnt]
    refine G_dup_x1 15 hC rfl rfl dX4_addTask_15 ?_
    refine G_iconst 16 hC (nI 1) (by decide) dX4_addTask_16 ?_
    refine G_iaddN 17 hC dX4_addTask_17 ?_
    refine G_putI 18 hC (fp_X4_37_4 _) (hP) rfl rfl rfl dX4_addTask_18 ?_
    refine R_i 21 hR (by first | rfl | exact narrow_bI _) dX4_addTask_21 (Nat.le_refl _) (Nat.le_refl _) ?_
    exact ⟨rfl, rfl, rfl, rfl⟩
theorem g_Work_init {a : Nat} : Cn l D B mX10_init [vr (some a)] I L N 0 0 none I L N := by
  refine Ct.of (M := mX10_init) (by decide) (Nat.le_of_ble_eq_true rfl) (fun g (hR : Cr l D B RX10 cX10_init 1 "<init>" { frames := 1, cells := 0, slots := 0, locals := 20 } none 0 0 _ g) => ?_)
  have hC := hR.cx
  show g 0 [some (vr (some a))] [] _ _ N 0 0
  refine G_aload_n 0 hC rfl dX10_init_0 ?_
  refine G_objInit 1 hC lk_X10_3 im_obj cd_obj (by decide) (by decide) dX10_init_1 ?_
  refine R_v 4 hR dX10_init_4 (Nat.le_refl _) (Nat.le_refl _) ?_
  exact ⟨rfl, rfl, rfl, rfl⟩
theorem g_Hunt_init {a : Nat} : Cn l D B mX2_init [vr (some a)] I L N 0 0 none I L N := by
  refine Ct.of (M := mX2_init) (by decide) (Nat.le_of_ble_eq_true rfl) (fun g (hR : Cr l D B RX2 cX2_init 1 "<init>" { frames := 1, cells := 0, slots := 0, locals := 20 } none 0 0 _ g) => ?_)
  have hC := hR.cx
  show g 0 [some (vr (some a))] [] _ _ N 0 0
  refine G_aload_n 0 hC rfl dX2_init_0 ?_
  refine G_objInit 1 hC lk_X2_3 im_obj cd_obj (by decide) (by decide) dX2_init_1 ?_
  refine R_v 4 hR dX2_init_4 (Nat.le_refl _) (Nat.le_refl _) ?_
  exact ⟨rfl, rfl, rfl, rfl⟩
theorem g_Hunt_begin {a : Nat} {v : Int64} (hs : N.2.1 a = (2, 3)) : Cq l D B mX2_begin [vr (some a), vl v] I L N none (upd2 I a 1 (-9)) (upd2 (upd2 L a 0 0) a 2 v) := by
  refine Ct.of (M := mX2_begin) (by decide) (Nat.le_of_ble_eq_true rfl) (fun g (hR : Cr l D B RX2 cX2_begin 3 "begin" { frames := 0, cells := 0, slots := 0, locals := 0 } none 0 0 _ g) => ?_)
  have hC := hR.cx
  show g 0 [some (vr (some a)), some (vl v), none] [] _ _ N 0 0
  refine G_aload_n 0 hC rfl dX2_begin_0 ?_
  refine G_lconst 1 hC 0 (by decide) dX2_begin_1 ?_
  refine G_putL 2 hC (fp_X2_9_2 _) (hs) rfl dX2_begin_2 ?_
  refine G_aload_n 5 hC rfl dX2_begin_5 ?_
  refine G_bipush 6 hC (-9) (by decide) dX2_begin_6 ?_
  refine G_putI 8 hC (fp_X2_15_2 _) (hs) rfl rfl rfl dX2_begin_8 ?_
  refine G_aload_n 11 hC rfl dX2_begin_11 ?_
  refine G_lload_n 12 hC rfl dX2_begin_12 ?_
  refine G_putL 13 hC (fp_X2_19_2 _) (hs) rfl dX2_begin_13 ?_
  refine R_v 16 hR dX2_begin_16 (Nat.le_refl _) (Nat.le_refl _) ?_
  exact ⟨rfl, rfl, rfl, rfl⟩
end G1

/-! ===== the class: a course's block of 35 cells ===== -/
def shC (o : Nat) : Nat × Nat := if o = 0 then (0, 19) else if o = 1 then (19, 20) else if o = 2 then (15, 8) else if o = 3 then (9, 13) else if o = 4 then (12, 6) else if o = 5 then (12, 6) else if o = 6 then (12, 40) else if o < 27 then (9, 13) else if o < 35 then (2, 3) else (21, 0)
theorem shC_lt {o ci n : Nat} (h : shC o = (ci, n)) (hc : ci ≠ 21) : o < 35 := by
  rcases Nat.lt_or_ge o 35 with z | z
  · exact z
  · exfalso
    unfold shC at h
    rw [if_neg (by omega), if_neg (by omega), if_neg (by omega), if_neg (by omega), if_neg (by omega), if_neg (by omega), if_neg (by omega), if_neg (by omega), if_neg (by omega)] at h
    cases h
    exact hc rfl
theorem shC_w {t : Nat} (h : t < 20) : shC (7 + t) = (9, 13) := by
  unfold shC
  rw [if_neg (by omega), if_neg (by omega), if_neg (by omega), if_neg (by omega), if_neg (by omega), if_neg (by omega), if_neg (by omega), if_pos (by omega)]
theorem shC_h {s : Nat} (h : s < 8) : shC (27 + s) = (2, 3) := by
  unfold shC
  rw [if_neg (by omega), if_neg (by omega), if_neg (by omega), if_neg (by omega), if_neg (by omega), if_neg (by omega), if_neg (by omega), if_neg (by omega), if_pos (by omega)]
/-- the shapes of a course's block -/
def BlkC (c : Nat) (N : NT) : Prop := ∀ o s, shC o = s → s.1 ≠ 21 → N.2.1 (c + o) = s
/-- outside the block -/
def OutC (c a : Nat) : Prop := a < c ∨ c + 35 ≤ a
section BLK
variable {l : Launch} {D : va_G} {B : Nat} {own : String} {cc : ByteArray} {nL : Nat} {mn : String} {R : Room} {g : GT} {ls ls' : List (Option MV)} {st st0 : List MV} {k G : MI} {kl GL : ML} {N : NT} {kc ks c : Nat} {I : MI} {L : ML}
theorem B_getI (pc : Nat) (hC : Cx l D B own cc nL mn R g) (hB : BlkC c N) {o ci nn idx j : Nat} (hw : shC o = (ci, nn)) (hf : FL own idx ci j) (ht : fty ci j = 0) (hd : decode cc pc = .ok (.getfield idx, 3)) (kk : g (pc + 3) ls (vi (k o j) :: st) (pt c 35 k G) L N kc ks) : g pc ls (vr (some (c + o)) :: st) (pt c 35 k G) L N kc ks := by
  have hci := (cls_ok ci _ hf.choose_spec.choose_spec.1).1
  exact G_getI pc hC hf (hB o _ hw (by show ci ≠ 21; omega)) ht hd (by rw [pt_row (shC_lt hw (by omega))]; exact kk)
theorem B_getL (pc : Nat) (hC : Cx l D B own cc nL mn R g) (hB : BlkC c N) {o ci nn idx j : Nat} (hw : shC o = (ci, nn)) (hf : FL own idx ci j) (ht : fty ci j = 1) (hd : decode cc pc = .ok (.getfield idx, 3)) (kk : g (pc + 3) ls (vl (kl o j) :: st) I (pt c 35 kl GL) N kc ks) : g pc ls (vr (some (c + o)) :: st) I (pt c 35 kl GL) N kc ks := by
  have hci := (cls_ok ci _ hf.choose_spec.choose_spec.1).1
  exact G_getL pc hC hf (hB o _ hw (by show ci ≠ 21; omega)) ht hd (by rw [pt_row (shC_lt hw (by omega))]; exact kk)
theorem B_putI (pc : Nat) (hC : Cx l D B own cc nL mn R g) (hB : BlkC c N) {o ci nn idx j : Nat} {ty : FieldType} {x : Int32} (hw : shC o = (ci, nn)) (hf : FP own mn idx ci j ty) (ht : fty ci j = 0) (hn : narrow ty (.int x) = .int x) (hfit : fits ty (.int x) = true) (hd : decode cc pc = .ok (.putfield idx, 3)) (kk : g (pc + 3) ls st (pt c 35 (upd2 k o j x) G) L N kc ks) : g pc ls (vi x :: vr (some (c + o)) :: st) (pt c 35 k G) L N kc ks := by
  have hci := (cls_ok ci _ hf.choose_spec.choose_spec.1).1
  exact G_putI pc hC hf (hB o _ hw (by show ci ≠ 21; omega)) ht hn hfit hd (by rw [pt_upd (shC_lt hw (by omega))]; exact kk)
theorem B_putL (pc : Nat) (hC : Cx l D B own cc nL mn R g) (hB : BlkC c N) {o ci nn idx j : Nat} {x : Int64} (hw : shC o = (ci, nn)) (hf : FP own mn idx ci j .long) (ht : fty ci j = 1) (hd : decode cc pc = .ok (.putfield idx, 3)) (kk : g (pc + 3) ls st I (pt c 35 (upd2 kl o j x) GL) N kc ks) : g pc ls (vl x :: vr (some (c + o)) :: st) I (pt c 35 kl GL) N kc ks := by
  have hci := (cls_ok ci _ hf.choose_spec.choose_spec.1).1
  exact G_putL pc hC hf (hB o _ hw (by show ci ≠ 21; omega)) ht hd (by rw [pt_upd (shC_lt hw (by omega))]; exact kk)
theorem B_iald (pc : Nat) (hC : Cx l D B own cc nL mn R g) (hB : BlkC c N) {o nn j : Nat} {i : Int32} (hw : shC o = (12, nn)) (hn : nn < 2 ^ 31) (hi : i = nI j) (hj : j < nn) (hd : decode cc pc = .ok (.iaload, 1)) (kk : g (pc + 1) ls (vi (k o j) :: st) (pt c 35 k G) L N kc ks) : g pc ls (vi i :: vr (some (c + o)) :: st) (pt c 35 k G) L N kc ks :=
  G_iald pc hC (hB o _ hw (by show 12 ≠ 21; decide)) (Or.inl rfl) hi hj hn hd (by rw [pt_row (shC_lt hw (by decide))]; exact kk)
theorem B_iast (pc : Nat) (hC : Cx l D B own cc nL mn R g) (hB : BlkC c N) {o nn j : Nat} {i x : Int32} (hw : shC o = (12, nn)) (hn : nn < 2 ^ 31) (hi : i = nI j) (hj : j < nn) (hd : decode cc pc = .ok (.iastore, 1)) (kk : g (pc + 1) ls st (pt c 35 (upd2 k o j x) G) L N kc ks) : g pc ls (vi x :: vi i :: vr (some (c + o)) :: st) (pt c 35 k G) L N kc ks :=
  G_iast pc hC (hB o _ hw (by show 12 ≠ 21; decide)) hi hj hn hd (by rw [pt_upd (shC_lt hw (by decide))]; exact kk)
theorem O_getI (pc : Nat) (hC : Cx l D B own cc nL mn R g) {a ci nn idx j : Nat} (hs : N.2.1 a = (ci, nn)) (ho : OutC c a) (hf : FL own idx ci j) (ht : fty ci j = 0) (hd : decode cc pc = .ok (.getfield idx, 3)) (kk : g (pc + 3) ls (vi (G a j) :: st) (pt c 35 k G) L N kc ks) : g pc ls (vr (some a) :: st) (pt c 35 k G) L N kc ks :=
  G_getI pc hC hf hs ht hd (by rw [pt_out ho]; exact kk)
theorem O_getL (pc : Nat) (hC : Cx l D B own cc nL mn R g) {a ci nn idx j : Nat} (hs : N.2.1 a = (ci, nn)) (ho : OutC c a) (hf : FL own idx ci j) (ht : fty ci j = 1) (hd : decode cc pc = .ok (.getfield idx, 3)) (kk : g (pc + 3) ls (vl (GL a j) :: st) I (pt c 35 kl GL) N kc ks) : g pc ls (vr (some a) :: st) I (pt c 35 kl GL) N kc ks :=
  G_getL pc hC hf hs ht hd (by rw [pt_out ho]; exact kk)
theorem O_iald (pc : Nat) (hC : Cx l D B own cc nL mn R g) {a nn j : Nat} {i : Int32} (hs : N.2.1 a = (12, nn)) (ho : OutC c a) (hi : i = nI j) (hj : j < nn) (hn : nn < 2 ^ 31) (hd : decode cc pc = .ok (.iaload, 1)) (kk : g (pc + 1) ls (vi (G a j) :: st) (pt c 35 k G) L N kc ks) : g pc ls (vi i :: vr (some a) :: st) (pt c 35 k G) L N kc ks :=
  G_iald pc hC hs (Or.inl rfl) hi hj hn hd (by rw [pt_out ho]; exact kk)
theorem O_lald (pc : Nat) (hC : Cx l D B own cc nL mn R g) {a nn j : Nat} {i : Int32} (hs : N.2.1 a = (13, nn)) (ho : OutC c a) (hi : i = nI j) (hj : j < nn) (hn : nn < 2 ^ 31) (hd : decode cc pc = .ok (.laload, 1)) (kk : g (pc + 1) ls (vl (GL a j) :: st) I (pt c 35 kl GL) N kc ks) : g pc ls (vi i :: vr (some a) :: st) I (pt c 35 kl GL) N kc ks :=
  G_lald pc hC hs hi hj hn hd (by rw [pt_out ho]; exact kk)
end BLK
theorem hasn1 {x : Int32} {z : Nat} (h : x < 0) (y : inR x z) : False := by
  rw [Int32.lt_iff_toInt_lt, Int32.toInt_zero] at h
  have := y.1
  omega
theorem hasn2 {x : Int32} {z : Nat} (hz : z ≤ 12) (h : nI z ≤ x) (y : inR x z) : False := by
  rw [Int32.le_iff_toInt_le, nI_toInt (by omega)] at h
  have := y.2
  omega
theorem hasy {x : Int32} {z : Nat} (hz : z ≤ 12) (h1 : ¬ x < 0) (h : ¬ nI z ≤ x) : inR x z := by
  rw [Int32.lt_iff_toInt_lt, Int32.toInt_zero] at h1
  rw [Int32.le_iff_toInt_le, nI_toInt (by omega)] at h
  exact ⟨by omega, by omega⟩
def W_begin (k : MI) (o : Nat) : MI := upd2 (upd2 (upd2 (upd2 (upd2 (upd2 (upd2 (upd2 (upd2 (upd2 (upd2 k o 0 (nI 0)) o 1 (nI 0)) o 2 (nI 0)) o 3 (nI 0)) o 4 (nI 0)) o 5 (-9)) o 6 (nI 0)) o 7 (nI 0)) o 8 (nI 0)) o 11 (nI 0)) o 12 (nI 0)
section C1
variable {l : Launch} {D : va_G} {B c : Nat} {N : NT} {k G : MI} {kl GL : ML} {I : MI} {L : ML}
theorem c_Line_has {a na z : Nat} {x : Int32} (hs : N.2.1 a = (3, 2)) (hr : N.1 a 1 = some na) (hn : N.2.1 na = (13, z)) (hz : z ≤ 12) : Cq l D B mX3_has [vr (some a), vi x] I L N (some (vi (bI (inR x z)))) I L := by
  refine Ct.of (M := mX3_has) (by decide) (Nat.le_of_ble_eq_true rfl) (fun g (hR : Cr l D B RX3 cX3_has 2 "has" { frames := 0, cells := 0, slots := 0, locals := 0 } (some .boolean) 0 0 _ g) => ?_)
  have hC := hR.cx
  show g 0 [some (vr (some a)), some (vi x)] [] _ _ N 0 0
  refine G_iload_n 0 hC rfl dX3_has_0 ?_
  refine G_if_lt 1 17 hC dX3_has_1 (by decide) (fun h1 => ?_) (fun h1 => ?_)
  · refine G_iconst 17 hC (nI 0) (by decide) dX3_has_17 ?_
    refine R_i 18 hR (by first | rfl | exact narrow_bI _) dX3_has_18 (Nat.le_refl _) (Nat.le_refl _) ?_
    refine ⟨?_, rfl, rfl, rfl⟩
    first | exact congrArg (fun z => some (vi z)) (bI_f (fun y => hasn1 h1 y)) | exact congrArg (fun z => some (vi z)) (bI_f (fun y => hasn2 hz h10 y)) | exact congrArg (fun z => some (vi z)) (bI_t (hasy hz h1 h10))
  · refine G_iload_n 4 hC rfl dX3_has_4 ?_
    refine G_aload_n 5 hC rfl dX3_has_5 ?_
    refine G_getR 6 hC fl_X3_15_3 (hs) (hr) rfl dX3_has_6 ?_
    refine G_alen 9 hC (hn) (by decide) (by decide) dX3_has_9 ?_
    refine G_icmp_ge 10 17 hC dX3_has_10 (by decide) (fun h10 => ?_) (fun h10 => ?_)
    · refine G_iconst 17 hC (nI 0) (by decide) dX3_has_17 ?_
      refine R_i 18 hR (by first | rfl | exact narrow_bI _) dX3_has_18 (Nat.le_refl _) (Nat.le_refl _) ?_
      refine ⟨?_, rfl, rfl, rfl⟩
      first | exact congrArg (fun z => some (vi z)) (bI_f (fun y => hasn1 h1 y)) | exact congrArg (fun z => some (vi z)) (bI_f (fun y => hasn2 hz h10 y)) | exact congrArg (fun z => some (vi z)) (bI_t (hasy hz h1 h10))
    · refine G_iconst 13 hC (nI 1) (by decide) dX3_has_13 ?_
      refine G_goto 14 18 hC dX3_has_14 (by decide) ?_
      refine R_i 18 hR (by first | rfl | exact narrow_bI _) dX3_has_18 (Nat.le_refl _) (Nat.le_refl _) ?_
      refine ⟨?_, rfl, rfl, rfl⟩
      first | exact congrArg (fun z => some (vi z)) (bI_f (fun y => hasn1 h1 y)) | exact congrArg (fun z => some (vi z)) (bI_f (fun y => hasn2 hz h10 y)) | exact congrArg (fun z => some (vi z)) (bI_t (hasy hz h1 h10))
theorem c_Grid_has {a na z : Nat} {x : Int32} (hs : N.2.1 a = (1, 2)) (hr : N.1 a 1 = some na) (hn : N.2.1 na = (16, z)) (hz : z ≤ 12) : Cq l D B mX1_has [vr (some a), vi x] I L N (some (vi (bI (inR x z)))) I L := by
  refine Ct.of (M := mX1_has) (by decide) (Nat.le_of_ble_eq_true rfl) (fun g (hR : Cr l D B RX1 cX1_has 2 "has" { frames := 0, cells := 0, slots := 0, locals := 0 } (some .boolean) 0 0 _ g) => ?_)
  have hC := hR.cx
  show g 0 [some (vr (some a)), some (vi x)] [] _ _ N 0 0
  refine G_iload_n 0 hC rfl dX1_has_0 ?_
  refine G_if_lt 1 17 hC dX1_has_1 (by decide) (fun h1 => ?_) (fun h1 => ?_)
  · refine G_iconst 17 hC (nI 0) (by decide) dX1_has_17 ?_
    refine R_i 18 hR (by first | rfl | exact narrow_bI _) dX1_has_18 (Nat.le_refl _) (Nat.le_refl _) ?_
    refine ⟨?_, rfl, rfl, rfl⟩
    first | exact congrArg (fun z => some (vi z)) (bI_f (fun y => hasn1 h1 y)) | exact congrArg (fun z => some (vi z)) (bI_f (fun y => hasn2 hz h10 y)) | exact congrArg (fun z => some (vi z)) (bI_t (hasy hz h1 h10))
  · refine G_iload_n 4 hC rfl dX1_has_4 ?_
    refine G_aload_n 5 hC rfl dX1_has_5 ?_
    refine G_getR 6 hC fl_X1_17_1 (hs) (hr) rfl dX1_has_6 ?_
    refine G_alen 9 hC (hn) (by decide) (by decide) dX1_has_9 ?_
    refine G_icmp_ge 10 17 hC dX1_has_10 (by decide) (fun h10 => ?_) (fun h10 => ?_)
    · refine G_iconst 17 hC (nI 0) (by decide) dX1_has_17 ?_
      refine R_i 18 hR (by first | rfl | exact narrow_bI _) dX1_has_18 (Nat.le_refl _) (Nat.le_refl _) ?_
      refine ⟨?_, rfl, rfl, rfl⟩
      first | exact congrArg (fun z => some (vi z)) (bI_f (fun y => hasn1 h1 y)) | exact congrArg (fun z => some (vi z)) (bI_f (fun y => hasn2 hz h10 y)) | exact congrArg (fun z => some (vi z)) (bI_t (hasy hz h1 h10))
    · refine G_iconst 13 hC (nI 1) (by decide) dX1_has_13 ?_
      refine G_goto 14 18 hC dX1_has_14 (by decide) ?_
      refine R_i 18 hR (by first | rfl | exact narrow_bI _) dX1_has_18 (Nat.le_refl _) (Nat.le_refl _) ?_
      refine ⟨?_, rfl, rfl, rfl⟩
      first | exact congrArg (fun z => some (vi z)) (bI_f (fun y => hasn1 h1 y)) | exact congrArg (fun z => some (vi z)) (bI_f (fun y => hasn2 hz h10 y)) | exact congrArg (fun z => some (vi z)) (bI_t (hasy hz h1 h10))
theorem c_fail (hB : BlkC c N) {o : Nat} {x : Int32} (hw : shC o = (9, 13)) : Cq l D B mX10_fail [vr (some (c + o)), vi x] (pt c 35 k G) L N none (pt c 35 (upd2 (upd2 k o 0 (nI 3)) o 1 x) G) L := by
  refine Ct.of (M := mX10_fail) (by decide) (Nat.le_of_ble_eq_true rfl) (fun g (hR : Cr l D B RX10 cX10_fail 2 "fail" { frames := 0, cells := 0, slots := 0, locals := 0 } none 0 0 _ g) => ?_)
  have hC := hR.cx
  show g 0 [some (vr (some (c + o))), some (vi x)] [] _ _ N 0 0
  refine G_aload_n 0 hC rfl dX10_fail_0 ?_
  refine G_iconst 1 hC (nI 3) (by decide) dX10_fail_1 ?_
  refine B_putI 2 hC hB (hw) (fp_X10_9_9 _) rfl rfl rfl dX10_fail_2 ?_
  refine G_aload_n 5 hC rfl dX10_fail_5 ?_
  refine G_iload_n 6 hC rfl dX10_fail_6 ?_
  refine B_putI 7 hC hB (hw) (fp_X10_15_9 _) rfl rfl rfl dX10_fail_7 ?_
  refine R_v 10 hR dX10_fail_10 (Nat.le_refl _) (Nat.le_refl _) ?_
  exact ⟨rfl, rfl, rfl, rfl⟩
theorem c_read (hB : BlkC c N) {o : Nat} {v : Int64} (hw : shC o = (9, 13)) : Cq l D B mX10_read [vr (some (c + o)), vl v] (pt c 35 k G) (pt c 35 kl GL) N none (pt c 35 (upd2 (upd2 k o 8 (k o 8 + nI 1)) o 4 (upd2 k o 8 (k o 8 + nI 1) o 4 + nI 1)) G) (pt c 35 (upd2 (upd2 kl o 9 (kl o 9 + v)) o 10 (upd2 kl o 9 (kl o 9 + v) o 10 + v)) GL) := by
  refine Ct.of (M := mX10_read) (by decide) (Nat.le_of_ble_eq_true rfl) (fun g (hR : Cr l D B RX10 cX10_read 3 "read" { frames := 0, cells := 0, slots := 0, locals := 0 } none 0 0 _ g) => ?_)
  have hC := hR.cx
  show g 0 [some (vr (some (c + o))), some (vl v), none] [] _ _ N 0 0
  refine G_aload_n 0 hC rfl dX10_read_0 ?_
  refine G_dup 1 hC rfl dX10_read_1 ?_
  refine B_getL 2 hC hB (hw) fl_X10_39_9 rfl dX10_read_2 ?_
  refine G_lload_n 5 hC rfl dX10_read_5 ?_
  refine G_ladd 6 hC dX10_read_6 ?_
  refine B_putL 7 hC hB (hw) (fp_X10_39_9 _) rfl dX10_read_7 ?_
  refine G_aload_n 10 hC rfl dX10_read_10 ?_
  refine G_dup 11 hC rfl dX10_read_11 ?_
  refine B_getL 12 hC hB (hw) fl_X10_43_9 rfl dX10_read_12 ?_
  refine G_lload_n 15 hC rfl dX10_read_15 ?_
  refine G_ladd 16 hC dX10_read_16 ?_
  refine B_putL 17 hC hB (hw) (fp_X10_43_9 _) rfl dX10_read_17 ?_
  refine G_aload_n 20 hC rfl dX10_read_20 ?_
  refine G_dup 21 hC rfl dX10_read_21 ?_
  refine B_getI 22 hC hB (hw) fl_X10_36_9 rfl dX10_read_22 ?_
  refine G_iconst 25 hC (nI 1) (by decide) dX10_read_25 ?_
  refine G_iadd 26 hC dX10_read_26 ?_
  refine B_putI 27 hC hB (hw) (fp_X10_36_9 _) rfl rfl rfl dX10_read_27 ?_
  refine G_aload_n 30 hC rfl dX10_read_30 ?_
  refine G_dup 31 hC rfl dX10_read_31 ?_
  refine B_getI 32 hC hB (hw) fl_X10_24_9 rfl dX10_read_32 ?_
  refine G_iconst 35 hC (nI 1) (by decide) dX10_read_35 ?_
  refine G_iadd 36 hC dX10_read_36 ?_
  refine B_putI 37 hC hB (hw) (fp_X10_24_9 _) rfl rfl rfl dX10_read_37 ?_
  refine R_v 40 hR dX10_read_40 (Nat.le_refl _) (Nat.le_refl _) ?_
  exact ⟨rfl, rfl, rfl, rfl⟩
theorem c_nextLine (hB : BlkC c N) {o : Nat} (hw : shC o = (9, 13)) : Cq l D B mX10_nextLine [vr (some (c + o))] (pt c 35 k G) (pt c 35 kl GL) N none (pt c 35 (upd2 (upd2 k o 7 (k o 7 + nI 1)) o 8 (nI 0)) G) (pt c 35 (upd2 kl o 9 0) GL) := by
  refine Ct.of (M := mX10_nextLine) (by decide) (Nat.le_of_ble_eq_true rfl) (fun g (hR : Cr l D B RX10 cX10_nextLine 1 "nextLine" { frames := 0, cells := 0, slots := 0, locals := 0 } none 0 0 _ g) => ?_)
  have hC := hR.cx
  show g 0 [some (vr (some (c + o)))] [] _ _ N 0 0
  refine G_aload_n 0 hC rfl dX10_nextLine_0 ?_
  refine G_dup 1 hC rfl dX10_nextLine_1 ?_
  refine B_getI 2 hC hB (hw) fl_X10_33_9 rfl dX10_nextLine_2 ?_
  refine G_iconst 5 hC (nI 1) (by decide) dX10_nextLine_5 ?_
  refine G_iadd 6 hC dX10_nextLine_6 ?_
  refine B_putI 7 hC hB (hw) (fp_X10_33_9 _) rfl rfl rfl dX10_nextLine_7 ?_
  refine G_aload_n 10 hC rfl dX10_nextLine_10 ?_
  refine G_iconst 11 hC (nI 0) (by decide) dX10_nextLine_11 ?_
  refine B_putI 12 hC hB (hw) (fp_X10_36_9 _) rfl rfl rfl dX10_nextLine_12 ?_
  refine G_aload_n 15 hC rfl dX10_nextLine_15 ?_
  refine G_lconst 16 hC 0 (by decide) dX10_nextLine_16 ?_
  refine B_putL 17 hC hB (hw) (fp_X10_39_9 _) rfl dX10_nextLine_17 ?_
  refine R_v 20 hR dX10_nextLine_20 (Nat.le_refl _) (Nat.le_refl _) ?_
  exact ⟨rfl, rfl, rfl, rfl⟩
theorem c_Work_begin (hB : BlkC c N) {o : Nat} (hw : shC o = (9, 13)) : Cq l D B mX10_begin [vr (some (c + o))] (pt c 35 k G) (pt c 35 kl GL) N none (pt c 35 (W_begin k o) G) (pt c 35 (upd2 (upd2 kl o 9 0) o 10 0) GL) := by
  refine Ct.of (M := mX10_begin) (by decide) (Nat.le_of_ble_eq_true rfl) (fun g (hR : Cr l D B RX10 cX10_begin 1 "begin" { frames := 0, cells := 0, slots := 0, locals := 0 } none 0 0 _ g) => ?_)
  have hC := hR.cx
  show g 0 [some (vr (some (c + o)))] [] _ _ N 0 0
  refine G_aload_n 0 hC rfl dX10_begin_0 ?_
  refine G_iconst 1 hC (nI 0) (by decide) dX10_begin_1 ?_
  refine B_putI 2 hC hB (hw) (fp_X10_9_9 _) rfl rfl rfl dX10_begin_2 ?_
  refine G_aload_n 5 hC rfl dX10_begin_5 ?_
  refine G_iconst 6 hC (nI 0) (by decide) dX10_begin_6 ?_
  refine B_putI 7 hC hB (hw) (fp_X10_15_9 _) rfl rfl rfl dX10_begin_7 ?_
  refine G_aload_n 10 hC rfl dX10_begin_10 ?_
  refine G_iconst 11 hC (nI 0) (by decide) dX10_begin_11 ?_
  refine B_putI 12 hC hB (hw) (fp_X10_18_9 _) rfl rfl rfl dX10_begin_12 ?_
  refine G_aload_n 15 hC rfl dX10_begin_15 ?_
  refine G_iconst 16 hC (nI 0) (by decide) dX10_begin_16 ?_
  refine B_putI 17 hC hB (hw) (fp_X10_21_9 _) rfl rfl rfl dX10_begin_17 ?_
  refine G_aload_n 20 hC rfl dX10_begin_20 ?_
  refine G_iconst 21 hC (nI 0) (by decide) dX10_begin_21 ?_
  refine B_putI 22 hC hB (hw) (fp_X10_24_9 _) rfl rfl rfl dX10_begin_22 ?_
  refine G_aload_n 25 hC rfl dX10_begin_25 ?_
  refine G_bipush 26 hC (-9) (by decide) dX10_begin_26 ?_
  refine B_putI 28 hC hB (hw) (fp_X10_27_9 _) rfl rfl rfl dX10_begin_28 ?_
  refine G_aload_n 31 hC rfl dX10_begin_31 ?_
  refine G_iconst 32 hC (nI 0) (by decide) dX10_begin_32 ?_
  refine B_putI 33 hC hB (hw) (fp_X10_30_9 _) rfl rfl rfl dX10_begin_33 ?_
  refine G_aload_n 36 hC rfl dX10_begin_36 ?_
  refine G_iconst 37 hC (nI 0) (by decide) dX10_begin_37 ?_
  refine B_putI 38 hC hB (hw) (fp_X10_33_9 _) rfl rfl rfl dX10_begin_38 ?_
  refine G_aload_n 41 hC rfl dX10_begin_41 ?_
  refine G_iconst 42 hC (nI 0) (by decide) dX10_begin_42 ?_
  refine B_putI 43 hC hB (hw) (fp_X10_36_9 _) rfl rfl rfl dX10_begin_43 ?_
  refine G_aload_n 46 hC rfl dX10_begin_46 ?_
  refine G_lconst 47 hC 0 (by decide) dX10_begin_47 ?_
  refine B_putL 48 hC hB (hw) (fp_X10_39_9 _) rfl dX10_begin_48 ?_
  refine G_aload_n 51 hC rfl dX10_begin_51 ?_
  refine G_lconst 52 hC 0 (by decide) dX10_begin_52 ?_
  refine B_putL 53 hC hB (hw) (fp_X10_43_9 _) rfl dX10_begin_53 ?_
  refine G_aload_n 56 hC rfl dX10_begin_56 ?_
  refine G_iconst 57 hC (nI 0) (by decide) dX10_begin_57 ?_
  refine B_putI 58 hC hB (hw) (fp_X10_46_9 _) rfl (by first | rfl | decide) (by first | rfl | decide) dX10_begin_58 ?_
  refine G_aload_n 61 hC rfl dX10_begin_61 ?_
  refine G_iconst 62 hC (nI 0) (by decide) dX10_begin_62 ?_
  refine B_putI 63 hC hB (hw) (fp_X10_50_9 _) rfl (by first | rfl | decide) (by first | rfl | decide) dX10_begin_63 ?_
  refine R_v 66 hR dX10_begin_66 (Nat.le_refl _) (Nat.le_refl _) ?_
  exact ⟨rfl, rfl, rfl, rfl⟩
theorem c_isLeft (hB : BlkC c N) {o : Nat} (hw : shC o = (9, 13)) : Cq l D B mX10_isLeft [vr (some (c + o))] (pt c 35 k G) L N (some (vi (bI (k o 0 = 0 ∨ k o 0 = nI 1)))) (pt c 35 k G) L := by
  refine Ct.of (M := mX10_isLeft) (by decide) (Nat.le_of_ble_eq_true rfl) (fun g (hR : Cr l D B RX10 cX10_isLeft 1 "isLeft" { frames := 0, cells := 0, slots := 0, locals := 0 } (some .boolean) 0 0 _ g) => ?_)
  have hC := hR.cx
  show g 0 [some (vr (some (c + o)))] [] _ _ N 0 0
  refine G_aload_n 0 hC rfl dX10_isLeft_0 ?_
  refine B_getI 1 hC hB (hw) fl_X10_9_9 rfl dX10_isLeft_1 ?_
  first | refine G_if_eq_b 4 15 hC dX10_isLeft_4 (by decide) (fun h4 => ?_) (fun h4 => ?_) | refine G_if_eq 4 15 hC dX10_isLeft_4 (by decide) (fun h4 => ?_) (fun h4 => ?_)
  · refine G_iconst 15 hC (nI 1) (by decide) dX10_isLeft_15 ?_
    refine G_goto 16 20 hC dX10_isLeft_16 (by decide) ?_
    refine R_i 20 hR (by first | rfl | exact narrow_bI _) dX10_isLeft_20 (Nat.le_refl _) (Nat.le_refl _) ?_
    refine ⟨?_, rfl, rfl, rfl⟩
    first | exact congrArg (fun z => some (vi z)) (bI_t (Or.inl h4)) | exact congrArg (fun z => some (vi z)) (bI_t (Or.inr h12)) | exact congrArg (fun z => some (vi z)) (bI_f (fun y => y.elim h4 h12))
  · refine G_aload_n 7 hC rfl dX10_isLeft_7 ?_
    refine B_getI 8 hC hB (hw) fl_X10_9_9 rfl dX10_isLeft_8 ?_
    refine G_iconst 11 hC (nI 1) (by decide) dX10_isLeft_11 ?_
    refine G_icmp_ne 12 19 hC dX10_isLeft_12 (by decide) (fun h12 => ?_) (fun h12 => ?_)
    · refine G_iconst 19 hC (nI 0) (by decide) dX10_isLeft_19 ?_
      refine R_i 20 hR (by first | rfl | exact narrow_bI _) dX10_isLeft_20 (Nat.le_refl _) (Nat.le_refl _) ?_
      refine ⟨?_, rfl, rfl, rfl⟩
      first | exact congrArg (fun z => some (vi z)) (bI_t (Or.inl h4)) | exact congrArg (fun z => some (vi z)) (bI_t (Or.inr h12)) | exact congrArg (fun z => some (vi z)) (bI_f (fun y => y.elim h4 h12))
    · refine G_iconst 15 hC (nI 1) (by decide) dX10_isLeft_15 ?_
      refine G_goto 16 20 hC dX10_isLeft_16 (by decide) ?_
      refine R_i 20 hR (by first | rfl | exact narrow_bI _) dX10_isLeft_20 (Nat.le_refl _) (Nat.le_refl _) ?_
      refine ⟨?_, rfl, rfl, rfl⟩
      first | exact congrArg (fun z => some (vi z)) (bI_t (Or.inl h4)) | exact congrArg (fun z => some (vi z)) (bI_t (Or.inr h12)) | exact congrArg (fun z => some (vi z)) (bI_f (fun y => y.elim h4 h12))
theorem c_Hunt_begin (hB : BlkC c N) {o : Nat} {v : Int64} (hw : shC o = (2, 3)) : Cq l D B mX2_begin [vr (some (c + o)), vl v] (pt c 35 k G) (pt c 35 kl GL) N none (pt c 35 (upd2 k o 1 (-9)) G) (pt c 35 (upd2 (upd2 kl o 0 0) o 2 v) GL) := by
  refine Ct.of (M := mX2_begin) (by decide) (Nat.le_of_ble_eq_true rfl) (fun g (hR : Cr l D B RX2 cX2_begin 3 "begin" { frames := 0, cells := 0, slots := 0, locals := 0 } none 0 0 _ g) => ?_)
  have hC := hR.cx
  show g 0 [some (vr (some (c + o))), some (vl v), none] [] _ _ N 0 0
  refine G_aload_n 0 hC rfl dX2_begin_0 ?_
  refine G_lconst 1 hC 0 (by decide) dX2_begin_1 ?_
  refine B_putL 2 hC hB (hw) (fp_X2_9_2 _) rfl dX2_begin_2 ?_
  refine G_aload_n 5 hC rfl dX2_begin_5 ?_
  refine G_bipush 6 hC (-9) (by decide) dX2_begin_6 ?_
  refine B_putI 8 hC hB (hw) (fp_X2_15_2 _) rfl rfl rfl dX2_begin_8 ?_
  refine G_aload_n 11 hC rfl dX2_begin_11 ?_
  refine G_lload_n 12 hC rfl dX2_begin_12 ?_
  refine B_putL 13 hC hB (hw) (fp_X2_19_2 _) rfl dX2_begin_13 ?_
  refine R_v 16 hR dX2_begin_16 (Nat.le_refl _) (Nat.le_refl _) ?_
  exact ⟨rfl, rfl, rfl, rfl⟩
end C1

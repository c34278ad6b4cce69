/-! ===== the class itself: its helpers, its answers ===== -/
def FixX (X P c d e : Nat) (N : NT) : Prop := N.2.1 X = (10, 6) ∧ N.1 X 2 = some P ∧ N.1 X 3 = some (c + 0) ∧ N.1 X 4 = some (d + 0) ∧ N.1 X 5 = some (e + 0)
section FXX
variable {X P c d e : Nat} {N : NT}
theorem FixX.sh (h : FixX X P c d e N) : N.2.1 X = (10, 6) := h.1
theorem FixX.plan (h : FixX X P c d e N) : N.1 X 2 = some P := h.2.1
theorem FixX.course (h : FixX X P c d e N) : N.1 X 3 = some (c + 0) := h.2.2.1
theorem FixX.alone (h : FixX X P c d e N) : N.1 X 4 = some (d + 0) := h.2.2.2.1
theorem FixX.tog (h : FixX X P c d e N) : N.1 X 5 = some (e + 0) := h.2.2.2.2
end FXX
theorem pt_self {α : Type} {c n : Nat} {I : Nat → Nat → α} : pt c n (fun o => I (c + o)) I = I := by
  funext a
  unfold pt
  split
  · rename_i h
    show I (c + (a - c)) = I a
    rw [show c + (a - c) = a by omega]
  · rfl
theorem hasnG {x : Int32} {z : Nat} (hz : z < 2 ^ 31) (h : nI z ≤ x) (y : inR x z) : False := by
  rw [Int32.le_iff_toInt_le, nI_toInt hz] at h
  have := y.2
  omega
theorem hasyG {x : Int32} {z : Nat} (hz : z < 2 ^ 31) (h1 : ¬ x < 0) (h : ¬ nI z ≤ x) : inR x z := by
  rw [Int32.lt_iff_toInt_lt, Int32.toInt_zero] at h1
  rw [Int32.le_iff_toInt_le, nI_toInt hz] at h
  exact ⟨by omega, by omega⟩
def F_rt (s t : Int32) : Int32 := if s = nI 1 then -2 else if t < nI 20 then nI 0 else -3
/-- a line more -/
def nlN (N : NT) (m : Nat) : NT := mkN (N.1, (up N.2.1 N.2.2 (3, 2), N.2.2 + 1)) N.2.2 1 (13, m)
def rankK (N : NT) (a : Nat) (s : Int32) : Int32 := if N.2.1 a = (8, 6) then (if s = nI 1 then nI 11 else nI 10) else if N.2.1 a = (5, 5) then (if s = nI 3 then nI 12 else nI 10) else nI 30
def G_toldV (N : NT) (I : MI) (a w : Nat) (y : Int32) : Int32 :=
  if y.toInt < 0 ∨ 8 < y.toInt then -1 else
  match y.toNatClampNeg with
  | 0 => I a 0
  | 1 => I w 0
  | 2 => I w 1
  | 3 => I w 2
  | 4 => I w 3
  | 5 => I w 4
  | 6 => I w 5
  | 7 => I w 6
  | _ => rankK N a (I a 0)
theorem G_told_o {N : NT} {I : MI} {a w : Nat} {y : Int32} (h : y.toInt < 0 ∨ 8 < y.toInt) : G_toldV N I a w y = -1 := by unfold G_toldV; rw [if_pos h]
theorem G_told_8 {N : NT} {I : MI} {a w : Nat} : G_toldV N I a w (nI 8) = rankK N a (I a 0) := rfl
def G_bestV (I : MI) (L : ML) (h : Nat) (lo y : Int32) : Int64 :=
  if y.toInt < 0 ∨ 3 < y.toInt then -1 else
  match y.toNatClampNeg with
  | 0 => if I h 1 = -9 then -9223372036854775808 else L h 0
  | 1 => (I h 1).toInt64
  | 2 => L h 2
  | _ => lo.toInt64
theorem G_best_o {I : MI} {L : ML} {h : Nat} {lo y : Int32} (q : y.toInt < 0 ∨ 3 < y.toInt) : G_bestV I L h lo y = -1 := by unfold G_bestV; rw [if_pos q]
theorem G_best_0 {I : MI} {L : ML} {h : Nat} {lo : Int32} : G_bestV I L h lo (nI 0) = if I h 1 = -9 then -9223372036854775808 else L h 0 := rfl
def G_countV (I : MI) (P c : Nat) (y : Int32) : Int32 :=
  if y.toInt < 0 ∨ 8 < y.toInt then -1 else
  match y.toNatClampNeg with
  | 0 => I P 4
  | 1 => I P 5
  | 2 => I P 6
  | 3 => I (c + 0) 13
  | 4 => I (c + 0) 14
  | 5 => I (c + 0) 11
  | 6 => I (c + 0) 12
  | 7 => I (c + 0) 9
  | _ => I (c + 0) 16
theorem G_count_o {I : MI} {P c : Nat} {y : Int32} (h : y.toInt < 0 ∨ 8 < y.toInt) : G_countV I P c y = -1 := by unfold G_countV; rw [if_pos h]
section TG
variable {l : Launch} {D : va_G} {B : Nat} {cc : ByteArray} {nL : Nat} {mn : String} {R : Room} {g : GT} {ls : List (Option MV)} {st : List MV} {I : MI} {N : NT} {kc ks : Nat} {L : ML}
theorem T_sortG (pc : Nat) (hC : Cx l D B RX11 cc nL mn R g) {a : Nat} (hT : TkS N a) (hd : decode cc pc = .ok (.getfield 200, 3)) (kk : g (pc + 3) ls (vi (I a 0) :: st) I L N kc ks) : g pc ls (vr (some a) :: st) I L N kc ks := by
  rcases hT with h | h | h
  · exact G_getI pc hC fl_X11_200_8 h rfl hd kk
  · exact G_getI pc hC fl_X11_200_5 h rfl hd kk
  · exact G_getI pc hC fl_X11_200_7 h rfl hd kk
theorem g_Way_rank {a : Nat} (hs : N.2.1 a = (8, 6)) : Cq l D B mX9_rank [vr (some a)] I L N (some (vi (if I a 0 = nI 1 then nI 11 else nI 10))) I L := by
  have h := c_Way_rank (l := l) (D := D) (B := B) (c := a + 1) (k := fun o => I (a + 1 + o)) (G := I) (L := L) hs (Or.inl (Nat.lt_succ_self a))
  rw [pt_self] at h
  exact h
theorem g_Reader_rank {a : Nat} (hs : N.2.1 a = (5, 5)) : Cq l D B mX5_rank [vr (some a)] I L N (some (vi (if I a 0 = nI 3 then nI 12 else nI 10))) I L := by
  have h := c_Reader_rank (l := l) (D := D) (B := B) (c := a + 1) (k := fun o => I (a + 1 + o)) (G := I) (L := L) hs (Or.inl (Nat.lt_succ_self a))
  rw [pt_self] at h
  exact h
theorem T_rankG (pc : Nat) (hC : Cx l D B RX11 cc nL mn R g) {a : Nat} (hT : TkS N a) (hcat : (st.map mcat).sum ≤ 8) (hR9 : mX9_rank.fr + 1 ≤ R.frames ∧ 8 + (mX9_rank.nL + 11) + mX9_rank.lo ≤ R.locals) (hR5 : mX5_rank.fr + 1 ≤ R.frames ∧ 8 + (mX5_rank.nL + 11) + mX5_rank.lo ≤ R.locals) (hR7 : mX7_rank.fr + 1 ≤ R.frames ∧ 8 + (mX7_rank.nL + 11) + mX7_rank.lo ≤ R.locals) (hf : kc ≤ R.cells ∧ ks ≤ R.slots) (hd : decode cc pc = .ok (.invokevirtual 228, 3)) (kk : g (pc + 3) ls (vi (rankK N a (I a 0)) :: st) I L N kc ks) : g pc ls (vr (some a) :: st) I L N kc ks := by
  unfold rankK at kk
  rcases hT with h | h | h
  · rw [if_pos h] at kk
    exact G_callU pc hC (q := (RX9, TX9, 6)) (g_Way_rank h) ouX9_rank_X9 lk_X11_228 h rfl rfl rfl hcat hR9 hf hd (fun v' I' L' N' h => by obtain ⟨rfl, rfl, rfl, rfl⟩ := h; exact kk)
  · rw [if_neg (by rw [h]; decide), if_pos h] at kk
    exact G_callU pc hC (q := (RX5, TX5, 5)) (g_Reader_rank h) ouX5_rank_X5 lk_X11_228 h rfl rfl rfl hcat hR5 hf hd (fun v' I' L' N' h => by obtain ⟨rfl, rfl, rfl, rfl⟩ := h; exact kk)
  · rw [if_neg (by rw [h]; decide), if_neg (by rw [h]; decide)] at kk
    exact G_callU pc hC (q := (RX7, TX7, 7)) c_Share_rank ouX7_rank_X7 lk_X11_228 h rfl rfl rfl hcat hR7 hf hd (fun v' I' L' N' h => by obtain ⟨rfl, rfl, rfl, rfl⟩ := h; exact kk)
end TG
section LDC
variable {l : Launch} {D : va_G} {B : Nat} {own : String} {cc : ByteArray} {nL : Nat} {mn : String} {R : Room} {g : GT} {ls : List (Option MV)} {st : List MV} {I : MI} {L : ML} {N : NT} {kc ks : Nat}
theorem G_ldcwf (pc : Nat) (hC : Cx l D B own cc nL mn R g) {i : Nat} {v : UInt32} (hw : Cond.constantFloat own i v ∈ lw_gd) (hd : decode cc pc = .ok (.ldc_w i, 3)) (kk : g (pc + 3) ls (vf v :: st) I L N kc ks) : g pc ls (st) I L N kc ks := by
  obtain ⟨p, e, s, m, args, below, meth, c, Q, ⟨hx, hb, hml, ho, hts, hK, hnm⟩, rfl⟩ := hC
  intro lr H locs hl hH hS T hT X
  obtain ⟨t, a, b⟩ := kk lr H locs hl hH hS T hT X
  refine ⟨t, ?_, b⟩
  obtain ⟨k, cf, hk, hcf, hcp⟩ := Cond.constantFloat_spec ho (hts _ hw)
  obtain ⟨k', hk', he⟩ := X.warmed.alike.2.2 _ _ hk
  have hdg : decode c.code pc = .ok (.ldc_w i, 3) := by rw [hb]; exact hd
  jvm_step X.here [hx, hdg, ldc_w.wp_float (s := T) (f := F0 m pc lr (st.map mv)) X.here.top hk' (by rw [he]; exact hcf) hcp]
  exact a
end LDC
section G2
variable {l : Launch} {D : va_G} {B X P c d e : Nat} {N : NT} {I : MI} {L : ML}
theorem g_refusal {x : Int32} : Cq l D B mX11_refusal [vi x] I L N (some (vi (-10 - x))) I L := by
  refine Ct.of (M := mX11_refusal) (by decide) (Nat.le_of_ble_eq_true rfl) (fun g (hR : Cr l D B RX11 cX11_refusal 1 "refusal" { frames := 0, cells := 0, slots := 0, locals := 0 } (some .int) 0 0 _ g) => ?_)
  have hC := hR.cx
  show g 0 [some (vi x)] [] _ _ N 0 0
  refine G_bipush 0 hC (-10) (by decide) dX11_refusal_0 ?_
  refine G_iload_n 2 hC rfl dX11_refusal_2 ?_
  refine G_isub 3 hC dX11_refusal_3 ?_
  refine R_i 4 hR (by first | rfl | exact narrow_bI _) dX11_refusal_4 (Nat.le_refl _) (Nat.le_refl _) ?_
  exact ⟨rfl, rfl, rfl, rfl⟩
theorem g_isKind {x : Int32} : Cq l D B mX11_isKind [vi x] I L N (some (vi (bI (nI 0 ≤ x ∧ x ≤ nI 5)))) I L := by
  refine Ct.of (M := mX11_isKind) (by decide) (Nat.le_of_ble_eq_true rfl) (fun g (hR : Cr l D B RX11 cX11_isKind 1 "isKind" { frames := 0, cells := 0, slots := 0, locals := 0 } (some .boolean) 0 0 _ g) => ?_)
  have hC := hR.cx
  show g 0 [some (vi x)] [] _ _ N 0 0
  refine G_iload_n 0 hC rfl dX11_isKind_0 ?_
  refine G_if_lt 1 13 hC dX11_isKind_1 (by decide) (fun h1 => ?_) (fun h1 => ?_)
  · refine G_iconst 13 hC (nI 0) (by decide) dX11_isKind_13 ?_
    refine R_i 14 hR (by first | rfl | exact narrow_bI _) dX11_isKind_14 (Nat.le_refl _) (Nat.le_refl _) ?_
    refine ⟨congrArg (fun z => some (vi z)) ?_, rfl, rfl, rfl⟩
    first | exact bI_f (fun y => absurd h1 (Int32.not_lt.mpr y.1)) | exact bI_f (fun y => absurd h6 (Int32.not_lt.mpr y.2)) | exact bI_t ⟨Int32.not_lt.mp h1, Int32.not_lt.mp h6⟩
  · refine G_iload_n 4 hC rfl dX11_isKind_4 ?_
    refine G_iconst 5 hC (nI 5) (by decide) dX11_isKind_5 ?_
    refine G_icmp_gt 6 13 hC dX11_isKind_6 (by decide) (fun h6 => ?_) (fun h6 => ?_)
    · refine G_iconst 13 hC (nI 0) (by decide) dX11_isKind_13 ?_
      refine R_i 14 hR (by first | rfl | exact narrow_bI _) dX11_isKind_14 (Nat.le_refl _) (Nat.le_refl _) ?_
      refine ⟨congrArg (fun z => some (vi z)) ?_, rfl, rfl, rfl⟩
      first | exact bI_f (fun y => absurd h1 (Int32.not_lt.mpr y.1)) | exact bI_f (fun y => absurd h6 (Int32.not_lt.mpr y.2)) | exact bI_t ⟨Int32.not_lt.mp h1, Int32.not_lt.mp h6⟩
    · refine G_iconst 9 hC (nI 1) (by decide) dX11_isKind_9 ?_
      refine G_goto 10 14 hC dX11_isKind_10 (by decide) ?_
      refine R_i 14 hR (by first | rfl | exact narrow_bI _) dX11_isKind_14 (Nat.le_refl _) (Nat.le_refl _) ?_
      refine ⟨congrArg (fun z => some (vi z)) ?_, rfl, rfl, rfl⟩
      first | exact bI_f (fun y => absurd h1 (Int32.not_lt.mpr y.1)) | exact bI_f (fun y => absurd h6 (Int32.not_lt.mpr y.2)) | exact bI_t ⟨Int32.not_lt.mp h1, Int32.not_lt.mp h6⟩
theorem g_isThread (hX : FixX X P c d e N) {nth : Nat} {x : Int32} (hth : I X 0 = nI nth) (hth2 : nth ≤ 6) : Cq l D B mX11_isThread [vr (some X), vi x] I L N (some (vi (bI (inR x nth)))) I L := by
  refine Ct.of (M := mX11_isThread) (by decide) (Nat.le_of_ble_eq_true rfl) (fun g (hR : Cr l D B RX11 cX11_isThread 2 "isThread" { frames := 0, cells := 0, slots := 0, locals := 0 } (some .boolean) 0 0 _ g) => ?_)
  have hC := hR.cx
  show g 0 [some (vr (some X)), some (vi x)] [] _ _ N 0 0
  refine G_iload_n 0 hC rfl dX11_isThread_0 ?_
  refine G_if_lt 1 16 hC dX11_isThread_1 (by decide) (fun h1 => ?_) (fun h1 => ?_)
  · refine G_iconst 16 hC (nI 0) (by decide) dX11_isThread_16 ?_
    refine R_i 17 hR (by first | rfl | exact narrow_bI _) dX11_isThread_17 (Nat.le_refl _) (Nat.le_refl _) ?_
    refine ⟨congrArg (fun z => some (vi z)) ?_, rfl, rfl, rfl⟩
    first | exact bI_f (fun y => hasn1 h1 y) | exact bI_f (fun y => hasnG (by omega) h9 y) | exact bI_t (hasyG (by omega) h1 h9)
  · refine G_iload_n 4 hC rfl dX11_isThread_4 ?_
    refine G_aload_n 5 hC rfl dX11_isThread_5 ?_
    refine G_getI 6 hC fl_X11_20_10 (hX.sh) rfl dX11_isThread_6 ?_
    rw [hth]
    refine G_icmp_ge 9 16 hC dX11_isThread_9 (by decide) (fun h9 => ?_) (fun h9 => ?_)
    · refine G_iconst 16 hC (nI 0) (by decide) dX11_isThread_16 ?_
      refine R_i 17 hR (by first | rfl | exact narrow_bI _) dX11_isThread_17 (Nat.le_refl _) (Nat.le_refl _) ?_
      refine ⟨congrArg (fun z => some (vi z)) ?_, rfl, rfl, rfl⟩
      first | exact bI_f (fun y => hasn1 h1 y) | exact bI_f (fun y => hasnG (by omega) h9 y) | exact bI_t (hasyG (by omega) h1 h9)
    · refine G_iconst 12 hC (nI 1) (by decide) dX11_isThread_12 ?_
      refine G_goto 13 17 hC dX11_isThread_13 (by decide) ?_
      refine R_i 17 hR (by first | rfl | exact narrow_bI _) dX11_isThread_17 (Nat.le_refl _) (Nat.le_refl _) ?_
      refine ⟨congrArg (fun z => some (vi z)) ?_, rfl, rfl, rfl⟩
      first | exact bI_f (fun y => hasn1 h1 y) | exact bI_f (fun y => hasnG (by omega) h9 y) | exact bI_t (hasyG (by omega) h1 h9)
theorem g_isTask (hX : FixX X P c d e N) (hP : FixP c P N) {nt : Nat} {x : Int32} (hnt : I P 5 = nI nt) (hnt2 : nt ≤ 20) : Cq l D B mX11_isTask [vr (some X), vi x] I L N (some (vi (bI (inR x nt)))) I L := by
  refine Ct.of (M := mX11_isTask) (by decide) (Nat.le_of_ble_eq_true rfl) (fun g (hR : Cr l D B RX11 cX11_isTask 2 "isTask" { frames := 0, cells := 0, slots := 0, locals := 0 } (some .boolean) 0 0 _ g) => ?_)
  have hC := hR.cx
  show g 0 [some (vr (some X)), some (vi x)] [] _ _ N 0 0
  refine G_iload_n 0 hC rfl dX11_isTask_0 ?_
  refine G_if_lt 1 19 hC dX11_isTask_1 (by decide) (fun h1 => ?_) (fun h1 => ?_)
  · refine G_iconst 19 hC (nI 0) (by decide) dX11_isTask_19 ?_
    refine R_i 20 hR (by first | rfl | exact narrow_bI _) dX11_isTask_20 (Nat.le_refl _) (Nat.le_refl _) ?_
    refine ⟨congrArg (fun z => some (vi z)) ?_, rfl, rfl, rfl⟩
    first | exact bI_f (fun y => hasn1 h1 y) | exact bI_f (fun y => hasnG (by omega) h12 y) | exact bI_t (hasyG (by omega) h1 h12)
  · refine G_iload_n 4 hC rfl dX11_isTask_4 ?_
    refine G_aload_n 5 hC rfl dX11_isTask_5 ?_
    refine G_getR 6 hC fl_X11_30_10 (hX.sh) (hX.plan) rfl dX11_isTask_6 ?_
    refine G_getI 9 hC fl_X11_182_4 (hP.sh) rfl dX11_isTask_9 ?_
    rw [hnt]
    refine G_icmp_ge 12 19 hC dX11_isTask_12 (by decide) (fun h12 => ?_) (fun h12 => ?_)
    · refine G_iconst 19 hC (nI 0) (by decide) dX11_isTask_19 ?_
      refine R_i 20 hR (by first | rfl | exact narrow_bI _) dX11_isTask_20 (Nat.le_refl _) (Nat.le_refl _) ?_
      refine ⟨congrArg (fun z => some (vi z)) ?_, rfl, rfl, rfl⟩
      first | exact bI_f (fun y => hasn1 h1 y) | exact bI_f (fun y => hasnG (by omega) h12 y) | exact bI_t (hasyG (by omega) h1 h12)
    · refine G_iconst 15 hC (nI 1) (by decide) dX11_isTask_15 ?_
      refine G_goto 16 20 hC dX11_isTask_16 (by decide) ?_
      refine R_i 20 hR (by first | rfl | exact narrow_bI _) dX11_isTask_20 (Nat.le_refl _) (Nat.le_refl _) ?_
      refine ⟨congrArg (fun z => some (vi z)) ?_, rfl, rfl, rfl⟩
      first | exact bI_f (fun y => hasn1 h1 y) | exact bI_f (fun y => hasnG (by omega) h12 y) | exact bI_t (hasyG (by omega) h1 h12)
theorem g_isLoad (hX : FixX X P c d e N) {x y : Int32} : Cq l D B mX11_isLoad [vr (some X), vi x, vi y] I L N (some (vi (bI ((nI 0 ≤ x ∧ x ≤ I X 1) ∧ nI 1 ≤ y ∧ y ≤ nI 1000)))) I L := by
  refine Ct.of (M := mX11_isLoad) (by decide) (Nat.le_of_ble_eq_true rfl) (fun g (hR : Cr l D B RX11 cX11_isLoad 3 "isLoad" { frames := 0, cells := 0, slots := 0, locals := 0 } (some .boolean) 0 0 _ g) => ?_)
  have hC := hR.cx
  show g 0 [some (vr (some X)), some (vi x), some (vi y)] [] _ _ N 0 0
  refine G_iload_n 0 hC rfl dX11_isLoad_0 ?_
  refine G_if_lt 1 28 hC dX11_isLoad_1 (by decide) (fun h1 => ?_) (fun h1 => ?_)
  · refine G_iconst 28 hC (nI 0) (by decide) dX11_isLoad_28 ?_
    refine R_i 29 hR (by first | rfl | exact narrow_bI _) dX11_isLoad_29 (Nat.le_refl _) (Nat.le_refl _) ?_
    refine ⟨congrArg (fun z => some (vi z)) ?_, rfl, rfl, rfl⟩
    first | exact bI_f (fun y => absurd h1 (Int32.not_lt.mpr y.1.1)) | exact bI_f (fun y => absurd h9 (Int32.not_lt.mpr y.1.2)) | exact bI_f (fun y => absurd h14 (Int32.not_lt.mpr y.2.1)) | exact bI_f (fun y => absurd h21 (Int32.not_lt.mpr y.2.2)) | exact bI_t ⟨⟨Int32.not_lt.mp h1, Int32.not_lt.mp h9⟩, Int32.not_lt.mp h14, Int32.not_lt.mp h21⟩
  · refine G_iload_n 4 hC rfl dX11_isLoad_4 ?_
    refine G_aload_n 5 hC rfl dX11_isLoad_5 ?_
    refine G_getI 6 hC fl_X11_24_10 (hX.sh) rfl dX11_isLoad_6 ?_
    refine G_icmp_gt 9 28 hC dX11_isLoad_9 (by decide) (fun h9 => ?_) (fun h9 => ?_)
    · refine G_iconst 28 hC (nI 0) (by decide) dX11_isLoad_28 ?_
      refine R_i 29 hR (by first | rfl | exact narrow_bI _) dX11_isLoad_29 (Nat.le_refl _) (Nat.le_refl _) ?_
      refine ⟨congrArg (fun z => some (vi z)) ?_, rfl, rfl, rfl⟩
      first | exact bI_f (fun y => absurd h1 (Int32.not_lt.mpr y.1.1)) | exact bI_f (fun y => absurd h9 (Int32.not_lt.mpr y.1.2)) | exact bI_f (fun y => absurd h14 (Int32.not_lt.mpr y.2.1)) | exact bI_f (fun y => absurd h21 (Int32.not_lt.mpr y.2.2)) | exact bI_t ⟨⟨Int32.not_lt.mp h1, Int32.not_lt.mp h9⟩, Int32.not_lt.mp h14, Int32.not_lt.mp h21⟩
    · refine G_iload_n 12 hC rfl dX11_isLoad_12 ?_
      refine G_iconst 13 hC (nI 1) (by decide) dX11_isLoad_13 ?_
      refine G_icmp_lt 14 28 hC dX11_isLoad_14 (by decide) (fun h14 => ?_) (fun h14 => ?_)
      · refine G_iconst 28 hC (nI 0) (by decide) dX11_isLoad_28 ?_
        refine R_i 29 hR (by first | rfl | exact narrow_bI _) dX11_isLoad_29 (Nat.le_refl _) (Nat.le_refl _) ?_
        refine ⟨congrArg (fun z => some (vi z)) ?_, rfl, rfl, rfl⟩
        first | exact bI_f (fun y => absurd h1 (Int32.not_lt.mpr y.1.1)) | exact bI_f (fun y => absurd h9 (Int32.not_lt.mpr y.1.2)) | exact bI_f (fun y => absurd h14 (Int32.not_lt.mpr y.2.1)) | exact bI_f (fun y => absurd h21 (Int32.not_lt.mpr y.2.2)) | exact bI_t ⟨⟨Int32.not_lt.mp h1, Int32.not_lt.mp h9⟩, Int32.not_lt.mp h14, Int32.not_lt.mp h21⟩
      · refine G_iload_n 17 hC rfl dX11_isLoad_17 ?_
        refine G_sipush 18 hC (nI 1000) (by decide) dX11_isLoad_18 ?_
        refine G_icmp_gt 21 28 hC dX11_isLoad_21 (by decide) (fun h21 => ?_) (fun h21 => ?_)
        · refine G_iconst 28 hC (nI 0) (by decide) dX11_isLoad_28 ?_
          refine R_i 29 hR (by first | rfl | exact narrow_bI _) dX11_isLoad_29 (Nat.le_refl _) (Nat.le_refl _) ?_
          refine ⟨congrArg (fun z => some (vi z)) ?_, rfl, rfl, rfl⟩
          first | exact bI_f (fun y => absurd h1 (Int32.not_lt.mpr y.1.1)) | exact bI_f (fun y => absurd h9 (Int32.not_lt.mpr y.1.2)) | exact bI_f (fun y => absurd h14 (Int32.not_lt.mpr y.2.1)) | exact bI_f (fun y => absurd h21 (Int32.not_lt.mpr y.2.2)) | exact bI_t ⟨⟨Int32.not_lt.mp h1, Int32.not_lt.mp h9⟩, Int32.not_lt.mp h14, Int32.not_lt.mp h21⟩
        · refine G_iconst 24 hC (nI 1) (by decide) dX11_isLoad_24 ?_
          refine G_goto 25 29 hC dX11_isLoad_25 (by decide) ?_
          refine R_i 29 hR (by first | rfl | exact narrow_bI _) dX11_isLoad_29 (Nat.le_refl _) (Nat.le_refl _) ?_
          refine ⟨congrArg (fun z => some (vi z)) ?_, rfl, rfl, rfl⟩
          first | exact bI_f (fun y => absurd h1 (Int32.not_lt.mpr y.1.1)) | exact bI_f (fun y => absurd h9 (Int32.not_lt.mpr y.1.2)) | exact bI_f (fun y => absurd h14 (Int32.not_lt.mpr y.2.1)) | exact bI_f (fun y => absurd h21 (Int32.not_lt.mpr y.2.2)) | exact bI_t ⟨⟨Int32.not_lt.mp h1, Int32.not_lt.mp h9⟩, Int32.not_lt.mp h14, Int32.not_lt.mp h21⟩
theorem g_refusalOfTask (hX : FixX X P c d e N) (hK : FixC c P N) (hP : FixP c P N) : Cq l D B mX11_refusalOfTask [vr (some X)] I L N (some (vi (F_rt (I (c + 0) 16) (I P 5)))) I L := by
  have hB := hK.b
  refine Ct.of (M := mX11_refusalOfTask) (by decide) (Nat.le_of_ble_eq_true rfl) (fun g (hR : Cr l D B RX11 cX11_refusalOfTask 1 "refusalOfTask" { frames := 0, cells := 0, slots := 0, locals := 0 } (some .int) 0 0 _ g) => ?_)
  have hC := hR.cx
  show g 0 [some (vr (some X))] [] _ _ N 0 0
  refine G_aload_n 0 hC rfl dX11_refusalOfTask_0 ?_
  refine G_getR 1 hC fl_X11_39_10 (hX.sh) (hX.course) rfl dX11_refusalOfTask_1 ?_
  refine G_getI 4 hC fl_X11_57_0 (hB 0 _ rfl (by decide)) rfl dX11_refusalOfTask_4 ?_
  refine G_iconst 7 hC (nI 1) (by decide) dX11_refusalOfTask_7 ?_
  refine G_icmp_ne 8 14 hC dX11_refusalOfTask_8 (by decide) (fun h8 => ?_) (fun h8 => ?_)
  · refine G_aload_n 14 hC rfl dX11_refusalOfTask_14 ?_
    refine G_getR 15 hC fl_X11_30_10 (hX.sh) (hX.plan) rfl dX11_refusalOfTask_15 ?_
    refine G_getI 18 hC fl_X11_182_4 (hP.sh) rfl dX11_refusalOfTask_18 ?_
    refine G_bipush 21 hC (nI 20) (by decide) dX11_refusalOfTask_21 ?_
    refine G_icmp_lt 23 31 hC dX11_refusalOfTask_23 (by decide) (fun h23 => ?_) (fun h23 => ?_)
    · refine G_iconst 31 hC (nI 0) (by decide) dX11_refusalOfTask_31 ?_
      refine R_i 32 hR (by first | rfl | exact narrow_bI _) dX11_refusalOfTask_32 (Nat.le_refl _) (Nat.le_refl _) ?_
      refine ⟨congrArg (fun z => some (vi z)) ?_, rfl, rfl, rfl⟩
      unfold F_rt
      first | (rw [if_pos h8]; done) | (rw [if_neg h8, if_pos h23]; done) | (rw [if_neg h8, if_neg h23]; done)
    · refine G_bipush 26 hC (-3) (by decide) dX11_refusalOfTask_26 ?_
      refine G_goto 28 32 hC dX11_refusalOfTask_28 (by decide) ?_
      refine R_i 32 hR (by first | rfl | exact narrow_bI _) dX11_refusalOfTask_32 (Nat.le_refl _) (Nat.le_refl _) ?_
      refine ⟨congrArg (fun z => some (vi z)) ?_, rfl, rfl, rfl⟩
      unfold F_rt
      first | (rw [if_pos h8]; done) | (rw [if_neg h8, if_pos h23]; done) | (rw [if_neg h8, if_neg h23]; done)
  · refine G_bipush 11 hC (-2) (by decide) dX11_refusalOfTask_11 ?_
    refine R_i 13 hR (by first | rfl | exact narrow_bI _) dX11_refusalOfTask_13 (Nat.le_refl _) (Nat.le_refl _) ?_
    refine ⟨congrArg (fun z => some (vi z)) ?_, rfl, rfl, rfl⟩
    unfold F_rt
    first | (rw [if_pos h8]; done) | (rw [if_neg h8, if_pos h23]; done) | (rw [if_neg h8, if_neg h23]; done)
theorem g_newLine {m : Nat} {k : Int32} (hm : m ≤ 12) : Cn l D B mX11_newLine [vi k, vi (nI m)] I L N 2 14 (some (vr (some N.2.2))) (upd2 I N.2.2 0 k) L (nlN N m) := by
  refine Ct.of (M := mX11_newLine) (by decide) (Nat.le_of_ble_eq_true rfl) (fun g (hR : Cr l D B RX11 cX11_newLine 2 "newLine" { frames := 2, cells := 2, slots := 14, locals := 42 } (some (.object "GeoThreads$Line")) 2 14 _ g) => ?_)
  have hC := hR.cx
  show g 0 [some (vi k), some (vi (nI m))] [] _ _ N 0 0
  refine G_iload_n 0 hC rfl dX11_newLine_0 ?_
  refine G_if_lt 1 22 hC dX11_newLine_1 (by decide) (fun h1 => ?_) (fun h1 => ?_)
  · exact absurd h1 (nI_pos (by omega))
  · refine G_iload_n 4 hC rfl dX11_newLine_4 ?_
    refine G_bipush 5 hC (nI 12) (by decide) dX11_newLine_5 ?_
    refine G_icmp_gt 7 22 hC dX11_newLine_7 (by decide) (fun h7 => ?_) (fun h7 => ?_)
    · exact absurd ((nI_ltI (by omega) (by omega)).mp h7) (by omega)
    · refine G_new 10 hC (ci := 3) (RX3, TX3, 2) rfl cl_X11_98 it_X3 in_X3 (by decide) (by decide) dX11_newLine_10 ?_
      refine G_dup 13 hC rfl dX11_newLine_13 ?_
      refine G_iload_n 14 hC rfl dX11_newLine_14 ?_
      refine G_iload_n 15 hC rfl dX11_newLine_15 ?_
      refine G_callI0 16 hC (g_Line_init (up_s _ _ _) (Nat.lt_succ_self _) hm) okX3_init lk_X11_270 rfl rfl (Nat.le_of_ble_eq_true rfl) (by decide) (by decide) dX11_newLine_16 ?_
      refine G_goto 19 23 hC dX11_newLine_19 (by decide) ?_
      refine R_a 23 hR dX11_newLine_23 (Nat.le_refl _) (Nat.le_refl _) ?_
      exact ⟨rfl, rfl, rfl, rfl⟩
theorem g_newLine13 {k : Int32} : Cq l D B mX11_newLine [vi k, vi (nI 13)] I L N (some (vr none)) I L := by
  refine Ct.of (M := mX11_newLine) (by decide) (Nat.le_of_ble_eq_true rfl) (fun g (hR : Cr l D B RX11 cX11_newLine 2 "newLine" { frames := 2, cells := 0, slots := 0, locals := 42 } (some (.object "GeoThreads$Line")) 0 0 _ g) => ?_)
  have hC := hR.cx
  show g 0 [some (vi k), some (vi (nI 13))] [] _ _ N 0 0
  refine G_iload_n 0 hC rfl dX11_newLine_0 ?_
  refine G_if_lt 1 22 hC dX11_newLine_1 (by decide) (fun h1 => ?_) (fun h1 => ?_)
  · exact absurd h1 (by decide)
  · refine G_iload_n 4 hC rfl dX11_newLine_4 ?_
    refine G_bipush 5 hC (nI 12) (by decide) dX11_newLine_5 ?_
    refine G_icmp_gt 7 22 hC dX11_newLine_7 (by decide) (fun h7 => ?_) (fun h7 => ?_)
    · refine G_null 22 hC dX11_newLine_22 ?_
      refine R_a 23 hR dX11_newLine_23 (Nat.le_refl _) (Nat.le_refl _) ?_
      exact ⟨rfl, rfl, rfl, rfl⟩
    · exact absurd (show nI 12 < nI 13 by decide) h7
theorem g_numberOf {k : Nat} {v : Int64} (hk : k ≤ 5) : Cq l D B mX11_numberOf [vi (nI k), vl v] I L N (some (vl (F_ak k v))) I L := by
  refine Ct.of (M := mX11_numberOf) (by decide) (Nat.le_of_ble_eq_true rfl) (fun g (hR : Cr l D B RX11 cX11_numberOf 3 "numberOf" { frames := 0, cells := 0, slots := 0, locals := 0 } (some .long) 0 0 _ g) => ?_)
  have hC := hR.cx
  show g 0 [some (vi (nI k)), some (vl v), none] [] _ _ N 0 0
  refine G_iload_n 0 hC rfl dX11_numberOf_0 ?_
  rcases (show k = 0 ∨ k = 1 ∨ k = 2 ∨ k = 3 ∨ k = 4 ∨ k = 5 by omega) with rfl | rfl | rfl | rfl | rfl | rfl
  · refine G_tableIn 1 39 40 hC dX11_numberOf_1 (by decide) (by decide) rfl (by decide) ?_
    refine G_lload_n 40 hC rfl dX11_numberOf_40 ?_
    refine G_l2i 41 hC dX11_numberOf_41 ?_
    refine G_i2b 42 hC dX11_numberOf_42 ?_
    refine G_i2l 43 hC dX11_numberOf_43 ?_
    refine R_l 44 hR dX11_numberOf_44 (Nat.le_refl _) (Nat.le_refl _) ?_
    exact ⟨rfl, rfl, rfl, rfl⟩
  · refine G_tableIn 1 44 45 hC dX11_numberOf_1 (by decide) (by decide) rfl (by decide) ?_
    refine G_lload_n 45 hC rfl dX11_numberOf_45 ?_
    refine G_l2i 46 hC dX11_numberOf_46 ?_
    refine G_i2s 47 hC dX11_numberOf_47 ?_
    refine G_i2l 48 hC dX11_numberOf_48 ?_
    refine R_l 49 hR dX11_numberOf_49 (Nat.le_refl _) (Nat.le_refl _) ?_
    exact ⟨rfl, rfl, rfl, rfl⟩
  · refine G_tableIn 1 49 50 hC dX11_numberOf_1 (by decide) (by decide) rfl (by decide) ?_
    refine G_lload_n 50 hC rfl dX11_numberOf_50 ?_
    refine G_l2i 51 hC dX11_numberOf_51 ?_
    refine G_i2l 52 hC dX11_numberOf_52 ?_
    refine R_l 53 hR dX11_numberOf_53 (Nat.le_refl _) (Nat.le_refl _) ?_
    exact ⟨rfl, rfl, rfl, rfl⟩
  · refine G_tableIn 1 77 78 hC dX11_numberOf_1 (by decide) (by decide) rfl (by decide) ?_
    refine G_lload_n 78 hC rfl dX11_numberOf_78 ?_
    refine R_l 79 hR dX11_numberOf_79 (Nat.le_refl _) (Nat.le_refl _) ?_
    exact ⟨rfl, rfl, rfl, rfl⟩
  · refine G_tableIn 1 53 54 hC dX11_numberOf_1 (by decide) (by decide) rfl (by decide) ?_
    refine G_ldcwf 54 hC kc_X11_271 dX11_numberOf_54 ?_
    refine G_lload_n 57 hC rfl dX11_numberOf_57 ?_
    refine G_l2f 58 hC dX11_numberOf_58 ?_
    refine G_ldcwf 59 hC kc_X11_271 dX11_numberOf_59 ?_
    refine G_fdiv 62 hC (fp_n32 (fp_fdiv _)) dX11_numberOf_62 ?_
    refine G_fmul 63 hC (fp_n32 (fp_fmul _)) dX11_numberOf_63 ?_
    refine G_f2l 64 hC dX11_numberOf_64 ?_
    refine R_l 65 hR dX11_numberOf_65 (Nat.le_refl _) (Nat.le_refl _) ?_
    exact ⟨rfl, rfl, rfl, rfl⟩
  · refine G_tableIn 1 65 66 hC dX11_numberOf_1 (by decide) (by decide) rfl (by decide) ?_
    refine G_ldc2d 66 hC kc_X11_272 dX11_numberOf_66 ?_
    refine G_lload_n 69 hC rfl dX11_numberOf_69 ?_
    refine G_l2d 70 hC dX11_numberOf_70 ?_
    refine G_ldc2d 71 hC kc_X11_272 dX11_numberOf_71 ?_
    refine G_ddiv 74 hC (fp_n64 (fp_ddiv _)) dX11_numberOf_74 ?_
    refine G_dmul 75 hC (fp_n64 (fp_dmul _)) dX11_numberOf_75 ?_
    refine G_d2l 76 hC dX11_numberOf_76 ?_
    refine R_l 77 hR dX11_numberOf_77 (Nat.le_refl _) (Nat.le_refl _) ?_
    exact ⟨rfl, rfl, rfl, rfl⟩
theorem g_taken (hX : FixX X P c d e N) (hK : FixC c P N) : Cq l D B mX11_taken [vr (some X)] I L N (some (vi (I (c + 0) 15))) I L := by
  have hB := hK.b
  refine Ct.of (M := mX11_taken) (by decide) (Nat.le_of_ble_eq_true rfl) (fun g (hR : Cr l D B RX11 cX11_taken 1 "taken" { frames := 0, cells := 0, slots := 0, locals := 0 } (some .int) 0 0 _ g) => ?_)
  have hC := hR.cx
  show g 0 [some (vr (some X))] [] _ _ N 0 0
  refine G_aload_n 0 hC rfl dX11_taken_0 ?_
  refine G_getR 1 hC fl_X11_39_10 (hX.sh) (hX.course) rfl dX11_taken_1 ?_
  refine G_getI 4 hC fl_X11_185_0 (hB 0 _ rfl (by decide)) rfl dX11_taken_4 ?_
  refine R_i 7 hR (by first | rfl | exact narrow_bI _) dX11_taken_7 (Nat.le_refl _) (Nat.le_refl _) ?_
  exact ⟨rfl, rfl, rfl, rfl⟩
theorem g_answer_no (hX : FixX X P c d e N) (hP : FixP c P N) {nt : Nat} {x : Int32} (hnt : I P 5 = nI nt) (hnt2 : nt ≤ 20) (hx : ¬ inR x nt) : Cq l D B mX11_answer [vr (some X), vi x] I L N (some (vl (-9223372036854775808))) I L := by
  refine Ct.of (M := mX11_answer) (by decide) (Nat.le_of_ble_eq_true rfl) (fun g (hR : Cr l D B RX11 cX11_answer 2 "answer" { frames := 2, cells := 0, slots := 0, locals := 42 } (some .long) 0 0 _ g) => ?_)
  have hC := hR.cx
  show g 0 [some (vr (some X)), some (vi x)] [] _ _ N 0 0
  refine G_aload_n 0 hC rfl dX11_answer_0 ?_
  refine G_iload_n 1 hC rfl dX11_answer_1 ?_
  refine G_callV1 2 hC (g_isTask hX hP hnt hnt2) okX11_isTask lk_X11_173 (hX.sh) rfl rfl rfl rfl (Nat.le_of_ble_eq_true rfl) (by decide) (by decide) dX11_answer_2 ?_
  first | refine G_if_eq_b 5 19 hC dX11_answer_5 (by decide) (fun h5 => ?_) (fun h5 => ?_) | refine G_if_eq 5 19 hC dX11_answer_5 (by decide) (fun h5 => ?_) (fun h5 => ?_)
  · refine G_ldc2 19 hC kc_X11_109 dX11_answer_19 ?_
    refine R_l 22 hR dX11_answer_22 (Nat.le_refl _) (Nat.le_refl _) ?_
    exact ⟨rfl, rfl, rfl, rfl⟩
  · exact absurd h5 hx
theorem g_answer_yes (hX : FixX X P c d e N) (hK : FixC c P N) (hP : FixP c P N) {nt : Nat} {x : Int32} {v : Int64} (hnt : I P 5 = nI nt) (hnt2 : nt ≤ 20) (hx : inR x nt) (hM : Cq l D B mX0_answerOf [vr (some (c + 0)), vi x] I L N (some (vl v)) I L) : Cq l D B mX11_answer [vr (some X), vi x] I L N (some (vl v)) I L := by
  have hB := hK.b
  refine Ct.of (M := mX11_answer) (by decide) (Nat.le_of_ble_eq_true rfl) (fun g (hR : Cr l D B RX11 cX11_answer 2 "answer" { frames := 2, cells := 0, slots := 0, locals := 42 } (some .long) 0 0 _ g) => ?_)
  have hC := hR.cx
  show g 0 [some (vr (some X)), some (vi x)] [] _ _ N 0 0
  refine G_aload_n 0 hC rfl dX11_answer_0 ?_
  refine G_iload_n 1 hC rfl dX11_answer_1 ?_
  refine G_callV1 2 hC (g_isTask hX hP hnt hnt2) okX11_isTask lk_X11_173 (hX.sh) rfl rfl rfl rfl (Nat.le_of_ble_eq_true rfl) (by decide) (by decide) dX11_answer_2 ?_
  first | refine G_if_eq_b 5 19 hC dX11_answer_5 (by decide) (fun h5 => ?_) (fun h5 => ?_) | refine G_if_eq 5 19 hC dX11_answer_5 (by decide) (fun h5 => ?_) (fun h5 => ?_)
  · exact absurd hx h5
  · refine G_aload_n 8 hC rfl dX11_answer_8 ?_
    refine G_getR 9 hC fl_X11_39_10 (hX.sh) (hX.course) rfl dX11_answer_9 ?_
    refine G_iload_n 12 hC rfl dX11_answer_12 ?_
    refine G_callV1 13 hC (hM) okX0_answerOf lk_X11_188 (hB 0 _ rfl (by decide)) rfl rfl rfl rfl (Nat.le_of_ble_eq_true rfl) (by decide) (by decide) dX11_answer_13 ?_
    refine G_goto 16 22 hC dX11_answer_16 (by decide) ?_
    refine R_l 22 hR dX11_answer_22 (Nat.le_refl _) (Nat.le_refl _) ?_
    exact ⟨rfl, rfl, rfl, rfl⟩
theorem g_told_bad (hX : FixX X P c d e N) (hP : FixP c P N) {nt : Nat} {x y : Int32} (hnt : I P 5 = nI nt) (hnt2 : nt ≤ 20) (hx : ¬ inR x nt) : Cq l D B mX11_told [vr (some X), vi x, vi y] I L N (some (vi (-1))) I L := by
  refine Ct.of (M := mX11_told) (by decide) (Nat.le_of_ble_eq_true rfl) (fun g (hR : Cr l D B RX11 cX11_told 4 "told" { frames := 1, cells := 0, slots := 0, locals := 21 } (some .int) 0 0 _ g) => ?_)
  have hC := hR.cx
  show g 0 [some (vr (some X)), some (vi x), some (vi y), none] [] _ _ N 0 0
  refine G_aload_n 0 hC rfl dX11_told_0 ?_
  refine G_iload_n 1 hC rfl dX11_told_1 ?_
  refine G_callV1 2 hC (g_isTask hX hP hnt hnt2) okX11_isTask lk_X11_173 (hX.sh) rfl rfl rfl rfl (Nat.le_of_ble_eq_true rfl) (by decide) (by decide) dX11_told_2 ?_
  first | refine G_if_ne_b 5 10 hC dX11_told_5 (by decide) (fun h5 => ?_) (fun h5 => ?_) | refine G_if_ne 5 10 hC dX11_told_5 (by decide) (fun h5 => ?_) (fun h5 => ?_)
  · exact absurd h5 hx
  · refine G_iconst 8 hC (-1) (by decide) dX11_told_8 ?_
    refine R_i 9 hR (by first | rfl | exact narrow_bI _) dX11_told_9 (Nat.le_refl _) (Nat.le_refl _) ?_
    exact ⟨rfl, rfl, rfl, rfl⟩
theorem g_told_yes (hX : FixX X P c d e N) (hK : FixC c P N) (hP : FixP c P N) {nt t a : Nat} {y : Int32} (hnt : I P 5 = nI nt) (hnt2 : nt ≤ 20) (ht : t < nt) (hTr : N.1 (P + 2) t = some a) (hTs : TkS N a) : Cq l D B mX11_told [vr (some X), vi (nI t), vi y] I L N (some (vi (G_toldV N I a (c + (7 + t)) y))) I L := by
  have hB := hK.b
  refine Ct.of (M := mX11_told) (by decide) (Nat.le_of_ble_eq_true rfl) (fun g (hR : Cr l D B RX11 cX11_told 4 "told" { frames := 1, cells := 0, slots := 0, locals := 21 } (some .int) 0 0 _ g) => ?_)
  have hC := hR.cx
  show g 0 [some (vr (some X)), some (vi (nI t)), some (vi y), none] [] _ _ N 0 0
  refine G_aload_n 0 hC rfl dX11_told_0 ?_
  refine G_iload_n 1 hC rfl dX11_told_1 ?_
  refine G_callV1 2 hC (g_isTask hX hP hnt hnt2) okX11_isTask lk_X11_173 (hX.sh) rfl rfl rfl rfl (Nat.le_of_ble_eq_true rfl) (by decide) (by decide) dX11_told_2 ?_
  first | refine G_if_ne_b 5 10 hC dX11_told_5 (by decide) (fun h5 => ?_) (fun h5 => ?_) | refine G_if_ne 5 10 hC dX11_told_5 (by decide) (fun h5 => ?_) (fun h5 => ?_)
  · refine G_aload_n 10 hC rfl dX11_told_10 ?_
    refine G_getR 11 hC fl_X11_39_10 (hX.sh) (hX.course) rfl dX11_told_11 ?_
    refine G_getR 14 hC fl_X11_192_0 (hB 0 _ rfl (by decide)) (hK.works) rfl dX11_told_14 ?_
    refine G_iload_n 17 hC rfl dX11_told_17 ?_
    refine G_aald 18 hC (hB 1 _ rfl (by decide)) (by decide) (by decide) (rfl) (by omega) (by omega) (hK.wk (by omega)) dX11_told_18 ?_
    refine G_astore_n 19 hC 3 rfl (by decide) (ls' := [_, _, _, _]) rfl dX11_told_19 ?_
    refine G_iload_n 20 hC rfl dX11_told_20 ?_
    rcases sw_any y 8 (by omega) with hsw | ⟨k, hk, rfl⟩
    · refine G_tableOut 21 133 hC dX11_told_21 (by simpa using hsw) (by decide) ?_
      refine G_iconst 133 hC (-1) (by decide) dX11_told_133 ?_
      refine R_i 134 hR (by first | rfl | exact narrow_bI _) dX11_told_134 (Nat.le_refl _) (Nat.le_refl _) ?_
      refine ⟨?_, rfl, rfl, rfl⟩
      first | (rw [G_told_o (by simpa using hsw)]; done) | rfl
    rcases (show k = 0 ∨ k = 1 ∨ k = 2 ∨ k = 3 ∨ k = 4 ∨ k = 5 ∨ k = 6 ∨ k = 7 ∨ k = 8 by omega) with rfl | rfl | rfl | rfl | rfl | rfl | rfl | rfl | rfl
    · refine G_tableIn 21 51 72 hC dX11_told_21 (by decide) (by decide) rfl (by decide) ?_
      refine G_aload_n 72 hC rfl dX11_told_72 ?_
      refine G_getR 73 hC fl_X11_30_10 (hX.sh) (hX.plan) rfl dX11_told_73 ?_
      refine G_getR 76 hC fl_X11_196_4 (hP.sh) (hP.rtk) rfl dX11_told_76 ?_
      refine G_iload_n 79 hC rfl dX11_told_79 ?_
      refine G_aald 80 hC (hP.tk) (by decide) (by decide) (rfl) (by omega) (by omega) (hTr) dX11_told_80 ?_
      refine T_sortG 81 hC hTs dX11_told_81 ?_
      refine R_i 84 hR (by first | rfl | exact narrow_bI _) dX11_told_84 (Nat.le_refl _) (Nat.le_refl _) ?_
      refine ⟨?_, rfl, rfl, rfl⟩
      first | (rw [G_told_o (by simpa using hsw)]; done) | rfl
    · refine G_tableIn 21 64 85 hC dX11_told_21 (by decide) (by decide) rfl (by decide) ?_
      refine G_aload_n 85 hC rfl dX11_told_85 ?_
      refine G_getI 86 hC fl_X11_205_9 (hB _ _ (shC_w (by omega)) (by decide)) rfl dX11_told_86 ?_
      refine R_i 89 hR (by first | rfl | exact narrow_bI _) dX11_told_89 (Nat.le_refl _) (Nat.le_refl _) ?_
      refine ⟨?_, rfl, rfl, rfl⟩
      first | (rw [G_told_o (by simpa using hsw)]; done) | rfl
    · refine G_tableIn 21 69 90 hC dX11_told_21 (by decide) (by decide) rfl (by decide) ?_
      refine G_aload_n 90 hC rfl dX11_told_90 ?_
      refine G_getI 91 hC fl_X11_210_9 (hB _ _ (shC_w (by omega)) (by decide)) rfl dX11_told_91 ?_
      refine R_i 94 hR (by first | rfl | exact narrow_bI _) dX11_told_94 (Nat.le_refl _) (Nat.le_refl _) ?_
      refine ⟨?_, rfl, rfl, rfl⟩
      first | (rw [G_told_o (by simpa using hsw)]; done) | rfl
    · refine G_tableIn 21 74 95 hC dX11_told_21 (by decide) (by decide) rfl (by decide) ?_
      refine G_aload_n 95 hC rfl dX11_told_95 ?_
      refine G_getI 96 hC fl_X11_213_9 (hB _ _ (shC_w (by omega)) (by decide)) rfl dX11_told_96 ?_
      refine R_i 99 hR (by first | rfl | exact narrow_bI _) dX11_told_99 (Nat.le_refl _) (Nat.le_refl _) ?_
      refine ⟨?_, rfl, rfl, rfl⟩
      first | (rw [G_told_o (by simpa using hsw)]; done) | rfl
    · refine G_tableIn 21 79 100 hC dX11_told_21 (by decide) (by decide) rfl (by decide) ?_
      refine G_aload_n 100 hC rfl dX11_told_100 ?_
      refine G_getI 101 hC fl_X11_216_9 (hB _ _ (shC_w (by omega)) (by decide)) rfl dX11_told_101 ?_
      refine R_i 104 hR (by first | rfl | exact narrow_bI _) dX11_told_104 (Nat.le_refl _) (Nat.le_refl _) ?_
      refine ⟨?_, rfl, rfl, rfl⟩
      first | (rw [G_told_o (by simpa using hsw)]; done) | rfl
    · refine G_tableIn 21 84 105 hC dX11_told_21 (by decide) (by decide) rfl (by decide) ?_
      refine G_aload_n 105 hC rfl dX11_told_105 ?_
      refine G_getI 106 hC fl_X11_219_9 (hB _ _ (shC_w (by omega)) (by decide)) rfl dX11_told_106 ?_
      refine R_i 109 hR (by first | rfl | exact narrow_bI _) dX11_told_109 (Nat.le_refl _) (Nat.le_refl _) ?_
      refine ⟨?_, rfl, rfl, rfl⟩
      first | (rw [G_told_o (by simpa using hsw)]; done) | rfl
    · refine G_tableIn 21 89 110 hC dX11_told_21 (by decide) (by decide) rfl (by decide) ?_
      refine G_aload_n 110 hC rfl dX11_told_110 ?_
      refine G_getI 111 hC fl_X11_222_9 (hB _ _ (shC_w (by omega)) (by decide)) rfl dX11_told_111 ?_
      refine R_i 114 hR (by first | rfl | exact narrow_bI _) dX11_told_114 (Nat.le_refl _) (Nat.le_refl _) ?_
      refine ⟨?_, rfl, rfl, rfl⟩
      first | (rw [G_told_o (by simpa using hsw)]; done) | rfl
    · refine G_tableIn 21 94 115 hC dX11_told_21 (by decide) (by decide) rfl (by decide) ?_
      refine G_aload_n 115 hC rfl dX11_told_115 ?_
      refine G_getI 116 hC fl_X11_225_9 (hB _ _ (shC_w (by omega)) (by decide)) rfl dX11_told_116 ?_
      refine R_i 119 hR (by first | rfl | exact narrow_bI _) dX11_told_119 (Nat.le_refl _) (Nat.le_refl _) ?_
      refine ⟨?_, rfl, rfl, rfl⟩
      first | (rw [G_told_o (by simpa using hsw)]; done) | rfl
    · refine G_tableIn 21 99 120 hC dX11_told_21 (by decide) (by decide) rfl (by decide) ?_
      refine G_aload_n 120 hC rfl dX11_told_120 ?_
      refine G_getR 121 hC fl_X11_30_10 (hX.sh) (hX.plan) rfl dX11_told_121 ?_
      refine G_getR 124 hC fl_X11_196_4 (hP.sh) (hP.rtk) rfl dX11_told_124 ?_
      refine G_iload_n 127 hC rfl dX11_told_127 ?_
      refine G_aald 128 hC (hP.tk) (by decide) (by decide) (rfl) (by omega) (by omega) (hTr) dX11_told_128 ?_
      refine T_rankG 129 hC hTs (by decide) (by decide) (by decide) (by decide) (by decide) dX11_told_129 ?_
      refine R_i 132 hR (by first | rfl | exact narrow_bI _) dX11_told_132 (Nat.le_refl _) (Nat.le_refl _) ?_
      refine ⟨?_, rfl, rfl, rfl⟩
      first | (rw [G_told_o (by simpa using hsw)]; done) | rfl
  · exact absurd (inR_nI ht (by omega)) h5
theorem g_best_bad (hX : FixX X P c d e N) (hP : FixP c P N) {ns : Nat} {x y : Int32} (hns : I P 6 = nI ns) (hns2 : ns ≤ 8) (hx : ¬ inR x ns) : Cq l D B mX11_best [vr (some X), vi x, vi y] I L N (some (vl (-1))) I L := by
  refine Ct.of (M := mX11_best) (by decide) (Nat.le_of_ble_eq_true rfl) (fun g (hR : Cr l D B RX11 cX11_best 4 "best" { frames := 1, cells := 0, slots := 0, locals := 25 } (some .long) 0 0 _ g) => ?_)
  have hC := hR.cx
  show g 0 [some (vr (some X)), some (vi x), some (vi y), none] [] _ _ N 0 0
  refine G_iload_n 0 hC rfl dX11_best_0 ?_
  refine G_if_lt 1 15 hC dX11_best_1 (by decide) (fun h1 => ?_) (fun h1 => ?_)
  · refine G_ldc2 15 hC kc_X11_231 dX11_best_15 ?_
    refine R_l 18 hR dX11_best_18 (Nat.le_refl _) (Nat.le_refl _) ?_
    exact ⟨rfl, rfl, rfl, rfl⟩
  · refine G_iload_n 4 hC rfl dX11_best_4 ?_
    refine G_aload_n 5 hC rfl dX11_best_5 ?_
    refine G_getR 6 hC fl_X11_30_10 (hX.sh) (hX.plan) rfl dX11_best_6 ?_
    refine G_getI 9 hC fl_X11_134_4 (hP.sh) rfl dX11_best_9 ?_
    rw [hns]
    refine G_icmp_lt 12 19 hC dX11_best_12 (by decide) (fun h12 => ?_) (fun h12 => ?_)
    · exact absurd (hasyG (by omega) h1 (Int32.not_le.mpr h12)) hx
    · refine G_ldc2 15 hC kc_X11_231 dX11_best_15 ?_
      refine R_l 18 hR dX11_best_18 (Nat.le_refl _) (Nat.le_refl _) ?_
      exact ⟨rfl, rfl, rfl, rfl⟩
theorem g_best_yes (hX : FixX X P c d e N) (hK : FixC c P N) (hP : FixP c P N) {ns s : Nat} {y lo : Int32} (hns : I P 6 = nI ns) (hns2 : ns ≤ 8) (hs : s < ns) (hM : Cq l D B mX0_lostOf [vr (some (c + 0)), vi (nI s)] I L N (some (vi lo)) I L) : Cq l D B mX11_best [vr (some X), vi (nI s), vi y] I L N (some (vl (G_bestV I L (c + (27 + s)) lo y))) I L := by
  have hB := hK.b
  refine Ct.of (M := mX11_best) (by decide) (Nat.le_of_ble_eq_true rfl) (fun g (hR : Cr l D B RX11 cX11_best 4 "best" { frames := 1, cells := 0, slots := 0, locals := 25 } (some .long) 0 0 _ g) => ?_)
  have hC := hR.cx
  show g 0 [some (vr (some X)), some (vi (nI s)), some (vi y), none] [] _ _ N 0 0
  refine G_iload_n 0 hC rfl dX11_best_0 ?_
  refine G_if_lt 1 15 hC dX11_best_1 (by decide) (fun h1 => ?_) (fun h1 => ?_)
  · exact absurd h1 (nI_pos (by omega))
  · refine G_iload_n 4 hC rfl dX11_best_4 ?_
    refine G_aload_n 5 hC rfl dX11_best_5 ?_
    refine G_getR 6 hC fl_X11_30_10 (hX.sh) (hX.plan) rfl dX11_best_6 ?_
    refine G_getI 9 hC fl_X11_134_4 (hP.sh) rfl dX11_best_9 ?_
    rw [hns]
    refine G_icmp_lt 12 19 hC dX11_best_12 (by decide) (fun h12 => ?_) (fun h12 => ?_)
    · refine G_aload_n 19 hC rfl dX11_best_19 ?_
      refine G_getR 20 hC fl_X11_39_10 (hX.sh) (hX.course) rfl dX11_best_20 ?_
      refine G_getR 23 hC fl_X11_146_0 (hB 0 _ rfl (by decide)) (hK.hunts) rfl dX11_best_23 ?_
      refine G_iload_n 26 hC rfl dX11_best_26 ?_
      refine G_aald 27 hC (hB 2 _ rfl (by decide)) (by decide) (by decide) (rfl) (by omega) (by omega) (hK.hu (by omega)) dX11_best_27 ?_
      refine G_astore_n 28 hC 3 rfl (by decide) (ls' := [_, _, _, _]) rfl dX11_best_28 ?_
      refine G_iload_n 29 hC rfl dX11_best_29 ?_
      rcases sw_any y 3 (by omega) with hsw | ⟨k, hk, rfl⟩
      · refine G_tableOut 30 101 hC dX11_best_30 (by simpa using hsw) (by decide) ?_
        refine G_ldc2 101 hC kc_X11_231 dX11_best_101 ?_
        refine R_l 104 hR dX11_best_104 (Nat.le_refl _) (Nat.le_refl _) ?_
        refine ⟨?_, rfl, rfl, rfl⟩
        first | (rw [G_best_o (by simpa using hsw)]; done) | rfl | (rw [G_best_0, if_pos h66]; done) | (rw [G_best_0, if_neg h66]; done)
      rcases (show k = 0 ∨ k = 1 ∨ k = 2 ∨ k = 3 by omega) with rfl | rfl | rfl | rfl
      · refine G_tableIn 30 30 60 hC dX11_best_30 (by decide) (by decide) rfl (by decide) ?_
        refine G_aload_n 60 hC rfl dX11_best_60 ?_
        refine G_getI 61 hC fl_X11_233_2 (hB _ _ (shC_h (by omega)) (by decide)) rfl dX11_best_61 ?_
        refine G_bipush 64 hC (-9) (by decide) dX11_best_64 ?_
        refine G_icmp_ne 66 75 hC dX11_best_66 (by decide) (fun h66 => ?_) (fun h66 => ?_)
        · refine G_aload_n 75 hC rfl dX11_best_75 ?_
          refine G_getL 76 hC fl_X11_236_2 (hB _ _ (shC_h (by omega)) (by decide)) rfl dX11_best_76 ?_
          refine R_l 79 hR dX11_best_79 (Nat.le_refl _) (Nat.le_refl _) ?_
          refine ⟨?_, rfl, rfl, rfl⟩
          first | (rw [G_best_o (by simpa using hsw)]; done) | rfl | (rw [G_best_0, if_pos h66]; done) | (rw [G_best_0, if_neg h66]; done)
        · refine G_ldc2 69 hC kc_X11_109 dX11_best_69 ?_
          refine G_goto 72 79 hC dX11_best_72 (by decide) ?_
          refine R_l 79 hR dX11_best_79 (Nat.le_refl _) (Nat.le_refl _) ?_
          refine ⟨?_, rfl, rfl, rfl⟩
          first | (rw [G_best_o (by simpa using hsw)]; done) | rfl | (rw [G_best_0, if_pos h66]; done) | (rw [G_best_0, if_neg h66]; done)
      · refine G_tableIn 30 50 80 hC dX11_best_30 (by decide) (by decide) rfl (by decide) ?_
        refine G_aload_n 80 hC rfl dX11_best_80 ?_
        refine G_getI 81 hC fl_X11_233_2 (hB _ _ (shC_h (by omega)) (by decide)) rfl dX11_best_81 ?_
        refine G_i2l 84 hC dX11_best_84 ?_
        refine R_l 85 hR dX11_best_85 (Nat.le_refl _) (Nat.le_refl _) ?_
        refine ⟨?_, rfl, rfl, rfl⟩
        first | (rw [G_best_o (by simpa using hsw)]; done) | rfl | (rw [G_best_0, if_pos h66]; done) | (rw [G_best_0, if_neg h66]; done)
      · refine G_tableIn 30 56 86 hC dX11_best_30 (by decide) (by decide) rfl (by decide) ?_
        refine G_aload_n 86 hC rfl dX11_best_86 ?_
        refine G_getL 87 hC fl_X11_240_2 (hB _ _ (shC_h (by omega)) (by decide)) rfl dX11_best_87 ?_
        refine R_l 90 hR dX11_best_90 (Nat.le_refl _) (Nat.le_refl _) ?_
        refine ⟨?_, rfl, rfl, rfl⟩
        first | (rw [G_best_o (by simpa using hsw)]; done) | rfl | (rw [G_best_0, if_pos h66]; done) | (rw [G_best_0, if_neg h66]; done)
      · refine G_tableIn 30 61 91 hC dX11_best_30 (by decide) (by decide) rfl (by decide) ?_
        refine G_aload_n 91 hC rfl dX11_best_91 ?_
        refine G_getR 92 hC fl_X11_39_10 (hX.sh) (hX.course) rfl dX11_best_92 ?_
        refine G_iload_n 95 hC rfl dX11_best_95 ?_
        refine G_callV1 96 hC (hM) okX0_lostOf lk_X11_243 (hB 0 _ rfl (by decide)) rfl rfl rfl rfl (Nat.le_of_ble_eq_true rfl) (by decide) (by decide) dX11_best_96 ?_
        refine G_i2l 99 hC dX11_best_99 ?_
        refine R_l 100 hR dX11_best_100 (Nat.le_refl _) (Nat.le_refl _) ?_
        refine ⟨?_, rfl, rfl, rfl⟩
        first | (rw [G_best_o (by simpa using hsw)]; done) | rfl | (rw [G_best_0, if_pos h66]; done) | (rw [G_best_0, if_neg h66]; done)
    · exact absurd ((nI_ltI (by omega) (by omega)).mpr hs) h12
theorem g_note_no (hX : FixX X P c d e N) (hK : FixC c P N) {k : Nat} {x : Int32} (hk : I (c + 0) 9 = nI k) (hk2 : k ≤ 40) (hx : ¬ inR x k) : Cq l D B mX11_note [vr (some X), vi x] I L N (some (vi (-9))) I L := by
  have hB := hK.b
  refine Ct.of (M := mX11_note) (by decide) (Nat.le_of_ble_eq_true rfl) (fun g (hR : Cr l D B RX11 cX11_note 2 "note" { frames := 0, cells := 0, slots := 0, locals := 0 } (some .int) 0 0 _ g) => ?_)
  have hC := hR.cx
  show g 0 [some (vr (some X)), some (vi x)] [] _ _ N 0 0
  refine G_iload_n 0 hC rfl dX11_note_0 ?_
  refine G_if_lt 1 27 hC dX11_note_1 (by decide) (fun h1 => ?_) (fun h1 => ?_)
  · refine G_bipush 27 hC (-9) (by decide) dX11_note_27 ?_
    refine R_i 29 hR (by first | rfl | exact narrow_bI _) dX11_note_29 (Nat.le_refl _) (Nat.le_refl _) ?_
    exact ⟨rfl, rfl, rfl, rfl⟩
  · refine G_iload_n 4 hC rfl dX11_note_4 ?_
    refine G_aload_n 5 hC rfl dX11_note_5 ?_
    refine G_getR 6 hC fl_X11_39_10 (hX.sh) (hX.course) rfl dX11_note_6 ?_
    refine G_getI 9 hC fl_X11_246_0 (hB 0 _ rfl (by decide)) rfl dX11_note_9 ?_
    rw [hk]
    refine G_icmp_ge 12 27 hC dX11_note_12 (by decide) (fun h12 => ?_) (fun h12 => ?_)
    · refine G_bipush 27 hC (-9) (by decide) dX11_note_27 ?_
      refine R_i 29 hR (by first | rfl | exact narrow_bI _) dX11_note_29 (Nat.le_refl _) (Nat.le_refl _) ?_
      exact ⟨rfl, rfl, rfl, rfl⟩
    · exact absurd (hasyG (by omega) h1 h12) hx
theorem g_note_yes (hX : FixX X P c d e N) (hK : FixC c P N) {k j : Nat} (hk : I (c + 0) 9 = nI k) (hk2 : k ≤ 40) (hj : j < k) : Cq l D B mX11_note [vr (some X), vi (nI j)] I L N (some (vi (I (c + 6) j))) I L := by
  have hB := hK.b
  refine Ct.of (M := mX11_note) (by decide) (Nat.le_of_ble_eq_true rfl) (fun g (hR : Cr l D B RX11 cX11_note 2 "note" { frames := 0, cells := 0, slots := 0, locals := 0 } (some .int) 0 0 _ g) => ?_)
  have hC := hR.cx
  show g 0 [some (vr (some X)), some (vi (nI j))] [] _ _ N 0 0
  refine G_iload_n 0 hC rfl dX11_note_0 ?_
  refine G_if_lt 1 27 hC dX11_note_1 (by decide) (fun h1 => ?_) (fun h1 => ?_)
  · exact absurd h1 (nI_pos (by omega))
  · refine G_iload_n 4 hC rfl dX11_note_4 ?_
    refine G_aload_n 5 hC rfl dX11_note_5 ?_
    refine G_getR 6 hC fl_X11_39_10 (hX.sh) (hX.course) rfl dX11_note_6 ?_
    refine G_getI 9 hC fl_X11_246_0 (hB 0 _ rfl (by decide)) rfl dX11_note_9 ?_
    rw [hk]
    refine G_icmp_ge 12 27 hC dX11_note_12 (by decide) (fun h12 => ?_) (fun h12 => ?_)
    · exact absurd ((nI_leI (by omega) (by omega)).mp h12) (by omega)
    · refine G_aload_n 15 hC rfl dX11_note_15 ?_
      refine G_getR 16 hC fl_X11_39_10 (hX.sh) (hX.course) rfl dX11_note_16 ?_
      refine G_getR 19 hC fl_X11_249_0 (hB 0 _ rfl (by decide)) (hK.notes) rfl dX11_note_19 ?_
      refine G_iload_n 22 hC rfl dX11_note_22 ?_
      refine G_iald 23 hC (hB 6 _ rfl (by decide)) (Or.inl rfl) (rfl) (by omega) (by omega) dX11_note_23 ?_
      refine G_goto 24 29 hC dX11_note_24 (by decide) ?_
      refine R_i 29 hR (by first | rfl | exact narrow_bI _) dX11_note_29 (Nat.le_refl _) (Nat.le_refl _) ?_
      exact ⟨rfl, rfl, rfl, rfl⟩
theorem g_finished_no (hX : FixX X P c d e N) {nth : Nat} {x : Int32} (hth : I X 0 = nI nth) (hth2 : nth ≤ 6) (hx : ¬ inR x nth) : Cq l D B mX11_finished [vr (some X), vi x] I L N (some (vi (-1))) I L := by
  refine Ct.of (M := mX11_finished) (by decide) (Nat.le_of_ble_eq_true rfl) (fun g (hR : Cr l D B RX11 cX11_finished 2 "finished" { frames := 1, cells := 0, slots := 0, locals := 21 } (some .int) 0 0 _ g) => ?_)
  have hC := hR.cx
  show g 0 [some (vr (some X)), some (vi x)] [] _ _ N 0 0
  refine G_aload_n 0 hC rfl dX11_finished_0 ?_
  refine G_iload_n 1 hC rfl dX11_finished_1 ?_
  refine G_callV1 2 hC (g_isThread hX hth hth2) okX11_isThread lk_X11_160 (hX.sh) rfl rfl rfl rfl (Nat.le_of_ble_eq_true rfl) (by decide) (by decide) dX11_finished_2 ?_
  first | refine G_if_eq_b 5 20 hC dX11_finished_5 (by decide) (fun h5 => ?_) (fun h5 => ?_) | refine G_if_eq 5 20 hC dX11_finished_5 (by decide) (fun h5 => ?_) (fun h5 => ?_)
  · refine G_iconst 20 hC (-1) (by decide) dX11_finished_20 ?_
    refine R_i 21 hR (by first | rfl | exact narrow_bI _) dX11_finished_21 (Nat.le_refl _) (Nat.le_refl _) ?_
    exact ⟨rfl, rfl, rfl, rfl⟩
  · exact absurd h5 hx
theorem g_finished_yes (hX : FixX X P c d e N) (hK : FixC c P N) {nth j : Nat} (hth : I X 0 = nI nth) (hth2 : nth ≤ 6) (hj : j < nth) : Cq l D B mX11_finished [vr (some X), vi (nI j)] I L N (some (vi (I (c + 5) j))) I L := by
  have hB := hK.b
  refine Ct.of (M := mX11_finished) (by decide) (Nat.le_of_ble_eq_true rfl) (fun g (hR : Cr l D B RX11 cX11_finished 2 "finished" { frames := 1, cells := 0, slots := 0, locals := 21 } (some .int) 0 0 _ g) => ?_)
  have hC := hR.cx
  show g 0 [some (vr (some X)), some (vi (nI j))] [] _ _ N 0 0
  refine G_aload_n 0 hC rfl dX11_finished_0 ?_
  refine G_iload_n 1 hC rfl dX11_finished_1 ?_
  refine G_callV1 2 hC (g_isThread hX hth hth2) okX11_isThread lk_X11_160 (hX.sh) rfl rfl rfl rfl (Nat.le_of_ble_eq_true rfl) (by decide) (by decide) dX11_finished_2 ?_
  first | refine G_if_eq_b 5 20 hC dX11_finished_5 (by decide) (fun h5 => ?_) (fun h5 => ?_) | refine G_if_eq 5 20 hC dX11_finished_5 (by decide) (fun h5 => ?_) (fun h5 => ?_)
  · exact absurd (inR_nI hj (by omega)) h5
  · refine G_aload_n 8 hC rfl dX11_finished_8 ?_
    refine G_getR 9 hC fl_X11_39_10 (hX.sh) (hX.course) rfl dX11_finished_9 ?_
    refine G_getR 12 hC fl_X11_252_0 (hB 0 _ rfl (by decide)) (hK.ended) rfl dX11_finished_12 ?_
    refine G_iload_n 15 hC rfl dX11_finished_15 ?_
    refine G_iald 16 hC (hB 5 _ rfl (by decide)) (Or.inl rfl) (rfl) (by omega) (by omega) dX11_finished_16 ?_
    refine G_goto 17 21 hC dX11_finished_17 (by decide) ?_
    refine R_i 21 hR (by first | rfl | exact narrow_bI _) dX11_finished_21 (Nat.le_refl _) (Nat.le_refl _) ?_
    exact ⟨rfl, rfl, rfl, rfl⟩
theorem g_count (hX : FixX X P c d e N) (hK : FixC c P N) (hP : FixP c P N) {y : Int32} : Cq l D B mX11_count [vr (some X), vi y] I L N (some (vi (G_countV I P c y))) I L := by
  have hB := hK.b
  refine Ct.of (M := mX11_count) (by decide) (Nat.le_of_ble_eq_true rfl) (fun g (hR : Cr l D B RX11 cX11_count 2 "count" { frames := 0, cells := 0, slots := 0, locals := 0 } (some .int) 0 0 _ g) => ?_)
  have hC := hR.cx
  show g 0 [some (vr (some X)), some (vi y)] [] _ _ N 0 0
  refine G_iload_n 0 hC rfl dX11_count_0 ?_
  rcases sw_any y 8 (by omega) with hsw | ⟨k, hk, rfl⟩
  · refine G_tableOut 1 124 hC dX11_count_1 (by simpa using hsw) (by decide) ?_
    refine G_iconst 124 hC (-1) (by decide) dX11_count_124 ?_
    refine R_i 125 hR (by first | rfl | exact narrow_bI _) dX11_count_125 (Nat.le_refl _) (Nat.le_refl _) ?_
    refine ⟨?_, rfl, rfl, rfl⟩
    first | (rw [G_count_o (by simpa using hsw)]; done) | rfl
  rcases (show k = 0 ∨ k = 1 ∨ k = 2 ∨ k = 3 ∨ k = 4 ∨ k = 5 ∨ k = 6 ∨ k = 7 ∨ k = 8 by omega) with rfl | rfl | rfl | rfl | rfl | rfl | rfl | rfl | rfl
  · refine G_tableIn 1 51 52 hC dX11_count_1 (by decide) (by decide) rfl (by decide) ?_
    refine G_aload_n 52 hC rfl dX11_count_52 ?_
    refine G_getR 53 hC fl_X11_30_10 (hX.sh) (hX.plan) rfl dX11_count_53 ?_
    refine G_getI 56 hC fl_X11_60_4 (hP.sh) rfl dX11_count_56 ?_
    refine R_i 59 hR (by first | rfl | exact narrow_bI _) dX11_count_59 (Nat.le_refl _) (Nat.le_refl _) ?_
    refine ⟨?_, rfl, rfl, rfl⟩
    first | (rw [G_count_o (by simpa using hsw)]; done) | rfl
  · refine G_tableIn 1 59 60 hC dX11_count_1 (by decide) (by decide) rfl (by decide) ?_
    refine G_aload_n 60 hC rfl dX11_count_60 ?_
    refine G_getR 61 hC fl_X11_30_10 (hX.sh) (hX.plan) rfl dX11_count_61 ?_
    refine G_getI 64 hC fl_X11_182_4 (hP.sh) rfl dX11_count_64 ?_
    refine R_i 67 hR (by first | rfl | exact narrow_bI _) dX11_count_67 (Nat.le_refl _) (Nat.le_refl _) ?_
    refine ⟨?_, rfl, rfl, rfl⟩
    first | (rw [G_count_o (by simpa using hsw)]; done) | rfl
  · refine G_tableIn 1 67 68 hC dX11_count_1 (by decide) (by decide) rfl (by decide) ?_
    refine G_aload_n 68 hC rfl dX11_count_68 ?_
    refine G_getR 69 hC fl_X11_30_10 (hX.sh) (hX.plan) rfl dX11_count_69 ?_
    refine G_getI 72 hC fl_X11_134_4 (hP.sh) rfl dX11_count_72 ?_
    refine R_i 75 hR (by first | rfl | exact narrow_bI _) dX11_count_75 (Nat.le_refl _) (Nat.le_refl _) ?_
    refine ⟨?_, rfl, rfl, rfl⟩
    first | (rw [G_count_o (by simpa using hsw)]; done) | rfl
  · refine G_tableIn 1 75 76 hC dX11_count_1 (by decide) (by decide) rfl (by decide) ?_
    refine G_aload_n 76 hC rfl dX11_count_76 ?_
    refine G_getR 77 hC fl_X11_39_10 (hX.sh) (hX.course) rfl dX11_count_77 ?_
    refine G_getI 80 hC fl_X11_255_0 (hB 0 _ rfl (by decide)) rfl dX11_count_80 ?_
    refine R_i 83 hR (by first | rfl | exact narrow_bI _) dX11_count_83 (Nat.le_refl _) (Nat.le_refl _) ?_
    refine ⟨?_, rfl, rfl, rfl⟩
    first | (rw [G_count_o (by simpa using hsw)]; done) | rfl
  · refine G_tableIn 1 83 84 hC dX11_count_1 (by decide) (by decide) rfl (by decide) ?_
    refine G_aload_n 84 hC rfl dX11_count_84 ?_
    refine G_getR 85 hC fl_X11_39_10 (hX.sh) (hX.course) rfl dX11_count_85 ?_
    refine G_getI 88 hC fl_X11_256_0 (hB 0 _ rfl (by decide)) rfl dX11_count_88 ?_
    refine R_i 91 hR (by first | rfl | exact narrow_bI _) dX11_count_91 (Nat.le_refl _) (Nat.le_refl _) ?_
    refine ⟨?_, rfl, rfl, rfl⟩
    first | (rw [G_count_o (by simpa using hsw)]; done) | rfl
  · refine G_tableIn 1 91 92 hC dX11_count_1 (by decide) (by decide) rfl (by decide) ?_
    refine G_aload_n 92 hC rfl dX11_count_92 ?_
    refine G_getR 93 hC fl_X11_39_10 (hX.sh) (hX.course) rfl dX11_count_93 ?_
    refine G_getI 96 hC fl_X11_259_0 (hB 0 _ rfl (by decide)) rfl dX11_count_96 ?_
    refine R_i 99 hR (by first | rfl | exact narrow_bI _) dX11_count_99 (Nat.le_refl _) (Nat.le_refl _) ?_
    refine ⟨?_, rfl, rfl, rfl⟩
    first | (rw [G_count_o (by simpa using hsw)]; done) | rfl
  · refine G_tableIn 1 99 100 hC dX11_count_1 (by decide) (by decide) rfl (by decide) ?_
    refine G_aload_n 100 hC rfl dX11_count_100 ?_
    refine G_getR 101 hC fl_X11_39_10 (hX.sh) (hX.course) rfl dX11_count_101 ?_
    refine G_getI 104 hC fl_X11_262_0 (hB 0 _ rfl (by decide)) rfl dX11_count_104 ?_
    refine R_i 107 hR (by first | rfl | exact narrow_bI _) dX11_count_107 (Nat.le_refl _) (Nat.le_refl _) ?_
    refine ⟨?_, rfl, rfl, rfl⟩
    first | (rw [G_count_o (by simpa using hsw)]; done) | rfl
  · refine G_tableIn 1 107 108 hC dX11_count_1 (by decide) (by decide) rfl (by decide) ?_
    refine G_aload_n 108 hC rfl dX11_count_108 ?_
    refine G_getR 109 hC fl_X11_39_10 (hX.sh) (hX.course) rfl dX11_count_109 ?_
    refine G_getI 112 hC fl_X11_246_0 (hB 0 _ rfl (by decide)) rfl dX11_count_112 ?_
    refine R_i 115 hR (by first | rfl | exact narrow_bI _) dX11_count_115 (Nat.le_refl _) (Nat.le_refl _) ?_
    refine ⟨?_, rfl, rfl, rfl⟩
    first | (rw [G_count_o (by simpa using hsw)]; done) | rfl
  · refine G_tableIn 1 115 116 hC dX11_count_1 (by decide) (by decide) rfl (by decide) ?_
    refine G_aload_n 116 hC rfl dX11_count_116 ?_
    refine G_getR 117 hC fl_X11_39_10 (hX.sh) (hX.course) rfl dX11_count_117 ?_
    refine G_getI 120 hC fl_X11_57_0 (hB 0 _ rfl (by decide)) rfl dX11_count_120 ?_
    refine R_i 123 hR (by first | rfl | exact narrow_bI _) dX11_count_123 (Nat.le_refl _) (Nat.le_refl _) ?_
    refine ⟨?_, rfl, rfl, rfl⟩
    first | (rw [G_count_o (by simpa using hsw)]; done) | rfl
end G2

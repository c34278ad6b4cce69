/-! ===== the constructor of the class; the law's cell ===== -/
theorem FixC.keep {c P : Nat} {N N' : NT} (h : FixC c P N) (hk : ∀ a, c ≤ a → a < c + 35 → N'.2.1 a = N.2.1 a ∧ N'.1 a = N.1 a) : FixC c P N' := by
  obtain ⟨h1, h2, h3, h4, h5, h6, h7, h8, h9, h10⟩ := h
  have k0 := (hk (c + 0) (by omega) (by omega)).2
  have k1 := (hk (c + 1) (by omega) (by omega)).2
  have k2 := (hk (c + 2) (by omega) (by omega)).2
  refine ⟨fun o s hs h21 => ?_, by rw [k0]; exact h2, by rw [k0]; exact h3, by rw [k0]; exact h4, by rw [k0]; exact h5, by rw [k0]; exact h6, by rw [k0]; exact h7, by rw [k0]; exact h8, fun t ht => by rw [k1]; exact h9 t ht, fun s hs => by rw [k2]; exact h10 s hs⟩
  have ho : o < 35 := shC_lt (show shC o = (s.1, s.2) from hs) h21
  rw [(hk (c + o) (by omega) (by omega)).1]
  exact h1 o s hs h21
/-- the plan's own part of FixP -/
def FixQ (P : Nat) (N : NT) : Prop := N.2.1 P = (4, 8) ∧ N.1 P 0 = some (P + 1) ∧ N.1 P 1 = some (P + 2) ∧ N.1 P 2 = some (P + 3) ∧ N.1 P 3 = some (P + 4) ∧ N.2.1 (P + 1) = (14, 6) ∧ N.2.1 (P + 2) = (18, 20) ∧ N.2.1 (P + 3) = (17, 8) ∧ N.2.1 (P + 4) = (12, 400)
theorem FixQ.p {P c : Nat} {N : NT} (h : FixQ P N) (hc : P + 5 ≤ c ∨ c + 35 ≤ P) : FixP c P N := ⟨h.1, h.2.1, h.2.2.1, h.2.2.2.1, h.2.2.2.2.1, h.2.2.2.2.2.1, h.2.2.2.2.2.2.1, h.2.2.2.2.2.2.2.1, h.2.2.2.2.2.2.2.2, hc⟩
theorem Rw.fixQ {P : Nat} {N0 N : NT} (h : Rw shP rfP P N0 4 N) : FixQ P N := ⟨h.2.1 0 (by omega), h.2.2.1 0 1 rfl (by omega), h.2.2.1 1 2 rfl (by omega), h.2.2.1 2 3 rfl (by omega), h.2.2.1 3 4 rfl (by omega), h.2.1 1 (by omega), h.2.1 2 (by omega), h.2.1 3 (by omega), h.2.1 4 (by omega)⟩
theorem FixQ.keep {P : Nat} {N N' : NT} (h : FixQ P N) (hk : ∀ a, P ≤ a → a < P + 5 → N'.2.1 a = N.2.1 a ∧ N'.1 a = N.1 a) : FixQ P N' := by
  obtain ⟨h1, h2, h3, h4, h5, h6, h7, h8, h9⟩ := h
  have k0 := (hk P (by omega) (by omega)).2
  exact ⟨by rw [(hk P (by omega) (by omega)).1]; exact h1, by rw [k0]; exact h2, by rw [k0]; exact h3, by rw [k0]; exact h4, by rw [k0]; exact h5, by rw [(hk (P + 1) (by omega) (by omega)).1]; exact h6, by rw [(hk (P + 2) (by omega) (by omega)).1]; exact h7, by rw [(hk (P + 3) (by omega) (by omega)).1]; exact h8, by rw [(hk (P + 4) (by omega) (by omega)).1]; exact h9⟩
/-- what a new object's ints are, ahead of its course's beginning -/
def co3 (I : MI) (c : Nat) (mem bs : Int32) : MI := upd2 (upd2 (upd2 I (c + 0) 10 (nI 1)) (c + 0) 1 mem) (c + 0) 2 bs
def IX0 (I : MI) (X : Nat) (x y : Int32) : MI := co3 (co3 (co3 (upd2 (upd2 I X 0 (thC x)) X 1 (memC y)) (X + 6) (memC y) (nI 1)) (X + 41) (memC y) (nI 0)) (X + 76) (memC y) (nI 0)
/-- the class's cells -/
def FixA (X : Nat) (N : NT) : Prop := FixX X (X + 1) (X + 6) (X + 41) (X + 76) N ∧ FixQ (X + 1) N ∧ FixC (X + 6) (X + 1) N ∧ FixC (X + 41) (X + 1) N ∧ FixC (X + 76) (X + 1) N
section G8
variable {l : Launch} {D : va_G} {B X : Nat} {I : MI} {L : ML} {Nr : MR} {Ns : Nat → Nat × Nat}
theorem co3_ne {a c : Nat} {mem bs : Int32} (h : a ≠ c) : co3 I c mem bs a = I a := by
  unfold co3
  rw [upd2_ne (by omega), upd2_ne (by omega), upd2_ne (by omega)]
theorem g_X_init {x y : Int32} (hs : Ns X = (10, 6)) : Ct l D B mX11_init [vr (some X), vi x, vi y] I L (Nr, (Ns, X + 1)) 110 1630 (fun v I' L' N' => v = none ∧ I' = pt (X + 6) 35 (F_b4 (F_b3 (F_bwK (fun o => IX0 I X x y (X + 6 + o)) 20) 6) (thC x)) (IX0 I X x y) ∧ L' = pt (X + 6) 35 (F_bwL (fun o => L (X + 6 + o)) 20) L ∧ FixA X N' ∧ N'.2.2 = X + 111 ∧ ∀ a, a < X → N'.2.1 a = Ns a ∧ N'.1 a = Nr a) := by
  refine Ct.of (M := mX11_init) (by decide) (Nat.le_of_ble_eq_true rfl) (fun g (hR : Cr l D B RX11 cX11_init 3 "<init>" { frames := 3, cells := 110, slots := 1630, locals := 64 } none 110 1630 _ g) => ?_)
  have hC := hR.cx
  show g 0 [some (vr (some X)), some (vi x), some (vi y)] [] _ _ (Nr, (Ns, X + 1)) 0 0
  refine G_zero hC (fun hzero => ?_)
  refine G_aload_n 0 hC rfl dX11_init_0 ?_
  refine G_objInit 1 hC lk_X11_3 im_obj cd_obj (by decide) (by decide) dX11_init_1 ?_
  refine G_aload_n 4 hC rfl dX11_init_4 ?_
  refine G_iconst 5 hC (nI 1) (by decide) dX11_init_5 ?_
  refine G_bipush 6 hC (nI 6) (by decide) dX11_init_6 ?_
  refine G_iload_n 8 hC rfl dX11_init_8 ?_
  refine G_mmin 9 hC lk_X11_11 st_min in_Math cd_min (by decide) (Nat.le_of_ble_eq_true rfl) (by decide) (by decide) dX11_init_9 ?_
  refine G_mmax 12 hC lk_X11_17 st_max in_Math cd_max (by decide) (Nat.le_of_ble_eq_true rfl) (by decide) (by decide) dX11_init_12 ?_
  refine G_putI 15 hC (fp_X11_20_10) (hs) rfl rfl rfl dX11_init_15 ?_
  show g 18 _ _ (upd2 I X 0 (thC x)) _ _ _ _
  refine G_aload_n 18 hC rfl dX11_init_18 ?_
  refine G_iconst 19 hC (nI 0) (by decide) dX11_init_19 ?_
  refine G_sipush 20 hC (nI 1000) (by decide) dX11_init_20 ?_
  refine G_iload_n 23 hC rfl dX11_init_23 ?_
  refine G_mmin 24 hC lk_X11_11 st_min in_Math cd_min (by decide) (Nat.le_of_ble_eq_true rfl) (by decide) (by decide) dX11_init_24 ?_
  refine G_mmax 27 hC lk_X11_17 st_max in_Math cd_max (by decide) (Nat.le_of_ble_eq_true rfl) (by decide) (by decide) dX11_init_27 ?_
  refine G_putI 30 hC (fp_X11_24_10) (hs) rfl rfl rfl dX11_init_30 ?_
  show g 33 _ _ (upd2 (upd2 I X 0 (thC x)) X 1 (memC y)) _ _ _ _
  have m1 : upd2 (upd2 I X 0 (thC x)) X 1 (memC y) X 1 = memC y := by rw [upd2_row, up_s]
  generalize hJ1 : upd2 (upd2 I X 0 (thC x)) X 1 (memC y) = J1 at m1 ⊢
  refine G_aload_n 33 hC rfl dX11_init_33 ?_
  refine G_new 34 hC (ci := 4) (RX4, TX4, 8) rfl cl_X11_27 it_X4 in_X4 (by decide) (by decide) dX11_init_34 ?_
  refine G_dup 37 hC rfl dX11_init_37 ?_
  refine G_callIN 38 hC (g_Plan_init (P := X + 1) (up_s _ _ _)) okX4_init ln_X11_29 rfl rfl (Nat.le_of_ble_eq_true rfl) (by decide) (by decide) dX11_init_38 (fun v1 I1 L1 N1 q1 => ?_)
  obtain ⟨ev, eI, eL, h1⟩ := q1
  rw [ev, eI, eL]
  clear ev eI eL
  obtain ⟨R1, S1, Z1⟩ := N1
  have z1 : Z1 = X + 1 + 1 + 4 := h1.1
  obtain rfl : Z1 = X + 6 := by omega
  have b1 : ∀ a, a < X + 1 → S1 a = Ns a ∧ R1 a = Nr a := fun a ha => ⟨((h1.2.2.2 a ha).1).trans (up_ne (show a ≠ X + 1 by omega)), (h1.2.2.2 a ha).2⟩
  have sX1 : S1 X = (10, 6) := ((b1 X (by omega)).1).trans hs
  refine G_putR 41 hC (fp_X11_30_10) (sX1) rfl rfl dX11_init_41 ?_
  refine G_aload_n 44 hC rfl dX11_init_44 ?_
  refine G_new 45 hC (ci := 0) (RX0, TX0, 19) rfl cl_X11_34 it_X0 in_X0 (by decide) (by decide) dX11_init_45 ?_
  refine G_dup 48 hC rfl dX11_init_48 ?_
  refine G_aload_n 49 hC rfl dX11_init_49 ?_
  refine G_getR 50 hC fl_X11_30_10 ((up_ne (show X ≠ X + 6 by omega)).trans sX1) ((congrFun upd2_row 2).trans (up_s _ _ _)) rfl dX11_init_50 ?_
  refine G_aload_n 53 hC rfl dX11_init_53 ?_
  refine G_getI 54 hC fl_X11_24_10 ((up_ne (show X ≠ X + 6 by omega)).trans sX1) rfl dX11_init_54 ?_
  rw [m1]
  refine G_iconst 57 hC (nI 1) (by decide) dX11_init_57 ?_
  refine G_callI 58 hC (g_Course_init (c := X + 6) (P := X + 1) (up_s _ _ _) (Or.inr rfl)) okX0_init lk_X11_36 rfl rfl (Nat.le_of_ble_eq_true rfl) (by decide) (by decide) dX11_init_58 (fun v2 I2 L2 N2 q2 => ?_)
  obtain ⟨ev, eI, eL, h2⟩ := q2
  rw [ev, eI, eL]
  clear ev eI eL
  obtain ⟨R2, S2, Z2⟩ := N2
  have z2 : Z2 = X + 6 + 27 + 8 := h2.1
  obtain rfl : Z2 = X + 41 := by omega
  have b2 : ∀ a, a < X + 6 → S2 a = S1 a ∧ R2 a = upd2 R1 X 2 (some (X + 1)) a := fun a ha => ⟨((h2.2.2.2.2 a ha).1).trans (up_ne (show a ≠ X + 6 by omega)), (h2.2.2.2.2 a ha).2⟩
  have sX2 : S2 X = (10, 6) := ((b2 X (by omega)).1).trans sX1
  show g 61 _ _ (co3 J1 (X + 6) (memC y) (nI 1)) _ _ _ _
  have m2 : co3 J1 (X + 6) (memC y) (nI 1) X 1 = memC y := by rw [co3_ne (by omega)]; exact m1
  generalize hJ2 : co3 J1 (X + 6) (memC y) (nI 1) = J2 at m2 ⊢
  refine G_putR 61 hC (fp_X11_39_10) (sX2) rfl rfl dX11_init_61 ?_
  refine G_aload_n 64 hC rfl dX11_init_64 ?_
  refine G_new 65 hC (ci := 0) (RX0, TX0, 19) rfl cl_X11_34 it_X0 in_X0 (by decide) (by decide) dX11_init_65 ?_
  have pX2 : upd2 R2 X 3 (some (X + 6)) X 2 = some (X + 1) := by
    rw [upd2_row, up_ne (by decide), (b2 X (by omega)).2, upd2_row, up_s]
  refine G_dup 68 hC rfl dX11_init_68 ?_
  refine G_aload_n 69 hC rfl dX11_init_69 ?_
  refine G_getR 70 hC fl_X11_30_10 ((up_ne (show X ≠ X + 41 by omega)).trans sX2) (pX2) rfl dX11_init_70 ?_
  refine G_aload_n 73 hC rfl dX11_init_73 ?_
  refine G_getI 74 hC fl_X11_24_10 ((up_ne (show X ≠ X + 41 by omega)).trans sX2) rfl dX11_init_74 ?_
  rw [m2]
  refine G_iconst 77 hC (nI 0) (by decide) dX11_init_77 ?_
  refine G_callI 78 hC (g_Course_init (c := X + 41) (P := X + 1) (up_s _ _ _) (Or.inl rfl)) okX0_init lk_X11_36 rfl rfl (Nat.le_of_ble_eq_true rfl) (by decide) (by decide) dX11_init_78 (fun v3 I3 L3 N3 q3 => ?_)
  obtain ⟨ev, eI, eL, h3⟩ := q3
  rw [ev, eI, eL]
  clear ev eI eL
  obtain ⟨R3, S3, Z3⟩ := N3
  have z3 : Z3 = X + 41 + 27 + 8 := h3.1
  obtain rfl : Z3 = X + 76 := by omega
  have b3 : ∀ a, a < X + 41 → S3 a = S2 a ∧ R3 a = upd2 R2 X 3 (some (X + 6)) a := fun a ha => ⟨((h3.2.2.2.2 a ha).1).trans (up_ne (show a ≠ X + 41 by omega)), (h3.2.2.2.2 a ha).2⟩
  have sX3 : S3 X = (10, 6) := ((b3 X (by omega)).1).trans sX2
  show g 81 _ _ (co3 J2 (X + 41) (memC y) (nI 0)) _ _ _ _
  have m3 : co3 J2 (X + 41) (memC y) (nI 0) X 1 = memC y := by rw [co3_ne (by omega)]; exact m2
  generalize hJ3 : co3 J2 (X + 41) (memC y) (nI 0) = J3 at m3 ⊢
  refine G_putR 81 hC (fp_X11_43_10) (sX3) rfl rfl dX11_init_81 ?_
  refine G_aload_n 84 hC rfl dX11_init_84 ?_
  refine G_new 85 hC (ci := 0) (RX0, TX0, 19) rfl cl_X11_34 it_X0 in_X0 (by decide) (by decide) dX11_init_85 ?_
  have pX3 : upd2 R3 X 4 (some (X + 41)) X 2 = some (X + 1) := by
    rw [upd2_row, up_ne (by decide), (b3 X (by omega)).2]
    exact pX2
  refine G_dup 88 hC rfl dX11_init_88 ?_
  refine G_aload_n 89 hC rfl dX11_init_89 ?_
  refine G_getR 90 hC fl_X11_30_10 ((up_ne (show X ≠ X + 76 by omega)).trans sX3) (pX3) rfl dX11_init_90 ?_
  refine G_aload_n 93 hC rfl dX11_init_93 ?_
  refine G_getI 94 hC fl_X11_24_10 ((up_ne (show X ≠ X + 76 by omega)).trans sX3) rfl dX11_init_94 ?_
  rw [m3]
  refine G_iconst 97 hC (nI 0) (by decide) dX11_init_97 ?_
  refine G_callI 98 hC (g_Course_init (c := X + 76) (P := X + 1) (up_s _ _ _) (Or.inl rfl)) okX0_init lk_X11_36 rfl rfl (Nat.le_of_ble_eq_true rfl) (by decide) (by decide) dX11_init_98 (fun v4 I4 L4 N4 q4 => ?_)
  obtain ⟨ev, eI, eL, h4⟩ := q4
  rw [ev, eI, eL]
  clear ev eI eL
  obtain ⟨R4, S4, Z4⟩ := N4
  have z4 : Z4 = X + 76 + 27 + 8 := h4.1
  obtain rfl : Z4 = X + 111 := by omega
  have b4 : ∀ a, a < X + 76 → S4 a = S3 a ∧ R4 a = upd2 R3 X 4 (some (X + 41)) a := fun a ha => ⟨((h4.2.2.2.2 a ha).1).trans (up_ne (show a ≠ X + 76 by omega)), (h4.2.2.2.2 a ha).2⟩
  have sX4 : S4 X = (10, 6) := ((b4 X (by omega)).1).trans sX3
  show g 101 _ _ (co3 J3 (X + 76) (memC y) (nI 0)) _ _ _ _
  have m4 : co3 J3 (X + 76) (memC y) (nI 0) X 1 = memC y := by rw [co3_ne (by omega)]; exact m3
  generalize hJ4 : co3 J3 (X + 76) (memC y) (nI 0) = J4 at m4 ⊢
  refine G_putR 101 hC (fp_X11_46_10) (sX4) rfl rfl dX11_init_101 ?_
  have k4 : ∀ a, a < X + 111 → a ≠ X → a < X + 76 → S4 a = S3 a ∧ upd2 R4 X 5 (some (X + 76)) a = R3 a := fun a _ h2 h3 => ⟨(b4 a h3).1, by rw [upd2_ne h2, (b4 a h3).2, upd2_ne h2]⟩
  have k3 : ∀ a, a ≠ X → a < X + 41 → S3 a = S2 a ∧ R3 a = R2 a := fun a h2 h3 => ⟨(b3 a h3).1, by rw [(b3 a h3).2, upd2_ne h2]⟩
  have k2 : ∀ a, a ≠ X → a < X + 6 → S2 a = S1 a ∧ R2 a = R1 a := fun a h2 h3 => ⟨(b2 a h3).1, by rw [(b2 a h3).2, upd2_ne h2]⟩
  have hFA : FixA X (upd2 R4 X 5 (some (X + 76)), (S4, X + 111)) := by
    refine ⟨⟨sX4, ?_, ?_, ?_, ?_⟩, ?_, ?_, ?_, ?_⟩
    · show upd2 R4 X 5 (some (X + 76)) X 2 = _
      rw [upd2_row, up_ne (by decide), (b4 X (by omega)).2]
      exact pX3
    · show upd2 R4 X 5 (some (X + 76)) X 3 = _
      rw [upd2_row, up_ne (by decide), (b4 X (by omega)).2, upd2_row, up_ne (by decide), (b3 X (by omega)).2, upd2_row, up_s]
    · show upd2 R4 X 5 (some (X + 76)) X 4 = _
      rw [upd2_row, up_ne (by decide), (b4 X (by omega)).2, upd2_row, up_s]
    · show upd2 R4 X 5 (some (X + 76)) X 5 = _
      rw [upd2_row, up_s]
    · refine h1.fixQ.keep (fun a ha hb => ?_)
      have e4 := k4 a (by omega) (by omega) (by omega)
      have e3 := k3 a (by omega) (by omega)
      have e2 := k2 a (by omega) (by omega)
      exact ⟨e4.1.trans (e3.1.trans e2.1), e4.2.trans (e3.2.trans e2.2)⟩
    · refine h2.fix.keep (fun a ha hb => ?_)
      have e4 := k4 a (by omega) (by omega) (by omega)
      have e3 := k3 a (by omega) (by omega)
      exact ⟨e4.1.trans e3.1, e4.2.trans e3.2⟩
    · refine h3.fix.keep (fun a ha hb => ?_)
      exact k4 a (by omega) (by omega) (by omega)
    · refine h4.fix.keep (fun a ha hb => ⟨rfl, ?_⟩)
      show upd2 R4 X 5 (some (X + 76)) a = R4 a
      rw [upd2_ne (by omega)]
  have hbel : ∀ a, a < X → S4 a = Ns a ∧ upd2 R4 X 5 (some (X + 76)) a = Nr a := fun a ha => by
    have e4 := k4 a (by omega) (by omega) (by omega)
    have e3 := k3 a (by omega) (by omega)
    have e2 := k2 a (by omega) (by omega)
    have e1 := b1 a (by omega)
    exact ⟨e4.1.trans (e3.1.trans (e2.1.trans e1.1)), e4.2.trans (e3.2.trans (e2.2.trans e1.2))⟩
  have hJ : J4 = IX0 I X x y := by rw [← hJ4, ← hJ3, ← hJ2, ← hJ1]; rfl
  rw [hJ]
  have hth : IX0 I X x y X 0 = thC x := by
    unfold IX0
    rw [co3_ne (by omega), co3_ne (by omega), co3_ne (by omega), upd2_row, up_ne (by decide), upd2_row, up_s]
  have hsn : IX0 I X x y (X + 1) 6 = nI 0 := by
    unfold IX0
    rw [co3_ne (by omega), co3_ne (by omega), co3_ne (by omega), upd2_ne (by omega), upd2_ne (by omega)]
    exact ((hzero (X + 1) (Nat.le_refl _)).2 6).1
  have hbg : Cq l D B mX0_begin [vr (some (X + 6 + 0)), vi (thC x)] (IX0 I X x y) L (upd2 R4 X 5 (some (X + 76)), (S4, X + 111)) none (pt (X + 6) 35 (F_b4 (F_b3 (F_bwK (fun o => IX0 I X x y (X + 6 + o)) 20) 6) (thC x)) (IX0 I X x y)) (pt (X + 6) 35 (F_bwL (fun o => L (X + 6 + o)) 20) L) := by
    have h := c_begin (l := l) (D := D) (B := B) (k := fun o => IX0 I X x y (X + 6 + o)) (G := IX0 I X x y) (kl := fun o => L (X + 6 + o)) (GL := L) (x := thC x) hFA.2.2.1 (hFA.2.1.p (Or.inl (by omega))) hsn (by omega) (fun s hs => absurd hs (Nat.not_lt_zero s))
    rw [pt_self, pt_self] at h
    exact h
  refine G_aload_n 104 hC rfl dX11_init_104 ?_
  refine G_getR 105 hC fl_X11_39_10 (sX4) (hFA.1.course) rfl dX11_init_105 ?_
  refine G_aload_n 108 hC rfl dX11_init_108 ?_
  refine G_getI 109 hC fl_X11_20_10 (sX4) rfl dX11_init_109 ?_
  rw [hth]
  refine G_callV0 112 hC (hbg) okX0_begin lk_X11_49 (hFA.2.2.1.b 0 _ rfl (by decide)) rfl rfl rfl rfl (Nat.le_of_ble_eq_true rfl) (by decide) (by decide) dX11_init_112 ?_
  refine R_v 115 hR dX11_init_115 (by decide) (by decide) ?_
  exact ⟨rfl, rfl, rfl, hFA, rfl, hbel⟩
end G8

/-! ===== the constructors: the reference, the class ===== -/
theorem RI_self {b : Nat} {I : MI} : RI b (fun o => I (b + o)) (I (b + 20)) I = I := by
  show pt b 26 (up (fun o => I (b + o)) 20 (I (b + 20))) I = I
  rw [show up (fun o => I (b + o)) 20 (I (b + 20)) = fun o => I (b + o) from up_self (fun o => I (b + o)) 20]
  exact pt_self
theorem RLg_self {b : Nat} {L : ML} : RLg b (fun o => L (b + o)) (L (b + 0) 33) (L (b + 22)) L = L := by
  show pt b 26 (up (upd2 (fun o => L (b + o)) 0 33 (L (b + 0) 33)) 22 (L (b + 22))) L = L
  rw [show upd2 (fun o => L (b + o)) 0 33 (L (b + 0) 33) = fun o => L (b + o) from upd2_same (fun o => L (b + o)) 0 33, show up (fun o => L (b + o)) 22 (L (b + 22)) = fun o => L (b + o) from up_self (fun o => L (b + o)) 22]
  exact pt_self
def thR (x : Int32) : Int32 := if nI 1 ≤ x then (if x ≤ nI 6 then x else nI 6) else nI 1
def memR (y : Int32) : Int32 := if 0 ≤ y then (if y ≤ nI 1000 then y else nI 1000) else nI 0
def thC (x : Int32) : Int32 := if nI 1 < (if x < nI 6 then x else nI 6) then (if x < nI 6 then x else nI 6) else nI 1
def memC (y : Int32) : Int32 := if nI 0 < (if y < nI 1000 then y else nI 1000) then (if y < nI 1000 then y else nI 1000) else nI 0
def IR0 (I : MI) (b : Nat) (x y : Int32) : MI := upd2 (upd2 I (b + 0) 1 (thR x)) (b + 0) 2 (memR y)
theorem Rw.fixR {b : Nat} {N0 N : NT} (h : Rw shR rfR b N0 25 N) : FixR b N := by
  refine ⟨fun o ho => h.2.1 o (by omega), fun j o hr => h.2.2.1 j o hr ?_⟩
  have q2 : ∀ j', j' < 36 → (rfR j').getD 0 ≤ 25 := by decide
  have q3 := q2 j (getD_lt hr)
  rw [hr] at q3
  exact q3
section G7
variable {l : Launch} {D : va_G} {B b X : Nat} {I : MI} {L : ML} {Nr : MR} {Ns : Nat → Nat × Nat}
theorem g_ref_init {x y : Int32} (hs : Ns (b + 0) = (11, 36)) : Ct l D B mX12_init [vr (some (b + 0)), vi x, vi y] I L (Nr, (Ns, b + 1)) 25 9582 (fun v I' L' N' => v = none ∧ I' = RI b (fun o => IR0 I b x y (b + o)) (F_bgN (fun o => IR0 I b x y (b + o)) (IR0 I b x y (b + 20))) (IR0 I b x y) ∧ L' = RLg b (fun o => L (b + o)) (L (b + 0) 33) (F_bgQ (fun o => L (b + o)) (L (b + 22))) L ∧ Rw shR rfR b (Nr, (Ns, b + 1)) 25 N') := by
  have r0 : Rw shR rfR b (Nr, (Ns, b + 1)) 0 (Nr, (Ns, b + 1)) := ⟨rfl, fun o ho => by
    have e : o = 0 := by omega
    subst e
    exact hs, fun j o hr ho => by
      have q2 : ∀ j', j' < 36 → 1 ≤ (rfR j').getD 1 := by decide
      have q3 := q2 j (getD_lt hr)
      rw [hr] at q3
      have q4 : 1 ≤ o := q3
      omega, fun a ha => ⟨rfl, rfl⟩⟩
  generalize hN0 : ((Nr, (Ns, b + 1)) : NT) = N at r0 ⊢
  refine Ct.of (M := mX12_init) (by decide) (Nat.le_of_ble_eq_true rfl) (fun g (hR : Cr l D B RX12 cX12_init 3 "<init>" { frames := 1, cells := 25, slots := 9582, locals := 21 } none 25 9582 _ g) => ?_)
  have hC := hR.cx
  have k2 : ∀ (M : NT) (me : Int32), Rw shR rfR b N 25 M → me = memR y → g 258 [some (vr (some (b + 0))), some (vi x), some (vi y)] [vi me, vr (some (b + 0))] (upd2 I (b + 0) 1 (thR x)) L M 25 9582 := by
    intro M me hM hme
    have hF := hM.fixR
    have hb : Cq l D B mX12_begins [vr (some (b + 0))] (IR0 I b x y) L M none (RI b (fun o => IR0 I b x y (b + o)) (F_bgN (fun o => IR0 I b x y (b + o)) (IR0 I b x y (b + 20))) (IR0 I b x y)) (RLg b (fun o => L (b + o)) (L (b + 0) 33) (F_bgQ (fun o => L (b + o)) (L (b + 22))) L) := by
      have h := n_begins (l := l) (D := D) (B := B) (r := fun o => IR0 I b x y (b + o)) (n := IR0 I b x y (b + 20)) (G := IR0 I b x y) (rl := fun o => L (b + o)) (S := L (b + 0) 33) (q := L (b + 22)) (GL := L) hF
      rw [RI_self, RLg_self] at h
      exact h
    rw [hme]
    refine G_putI 258 hC (fp_X12_90_11) (hM.o0) rfl rfl rfl dX12_init_258 ?_
    refine G_aload_n 261 hC rfl dX12_init_261 ?_
    refine G_callV0 262 hC (hb) okX12_begins lk_X12_93 (hM.o0) rfl rfl rfl rfl (Nat.le_of_ble_eq_true rfl) (by decide) (by decide) dX12_init_262 ?_
    refine R_v 265 hR dX12_init_265 (Nat.le_refl _) (Nat.le_refl _) ?_
    exact ⟨rfl, rfl, rfl, hM⟩
  have k1 : ∀ (M : NT) (th : Int32), Rw shR rfR b N 25 M → th = thR x → g 232 [some (vr (some (b + 0))), some (vi x), some (vi y)] [vi th, vr (some (b + 0))] I L M 25 9582 := by
    intro M th hM hth
    rw [hth]
    refine G_putI 232 hC (fp_X12_86_11) (hM.o0) rfl rfl rfl dX12_init_232 ?_
    refine G_aload_n 235 hC rfl dX12_init_235 ?_
    refine G_iload_n 236 hC rfl dX12_init_236 ?_
    refine G_if_ge 237 244 hC dX12_init_237 (by decide) (fun h237 => ?_) (fun h237 => ?_)
    · refine G_iload_n 244 hC rfl dX12_init_244 ?_
      refine G_sipush 245 hC (nI 1000) (by decide) dX12_init_245 ?_
      refine G_icmp_le 248 257 hC dX12_init_248 (by decide) (fun h248 => ?_) (fun h248 => ?_)
      · refine G_iload_n 257 hC rfl dX12_init_257 ?_
        refine k2 _ _ hM ?_
        first | (unfold memR; rw [if_pos h237, if_pos h248]; done) | (unfold memR; rw [if_pos h237, if_neg h248]; done) | (unfold memR; rw [if_neg h237]; done)
      · refine G_sipush 251 hC (nI 1000) (by decide) dX12_init_251 ?_
        refine G_goto 254 258 hC dX12_init_254 (by decide) ?_
        refine k2 _ _ hM ?_
        first | (unfold memR; rw [if_pos h237, if_pos h248]; done) | (unfold memR; rw [if_pos h237, if_neg h248]; done) | (unfold memR; rw [if_neg h237]; done)
    · refine G_iconst 240 hC (nI 0) (by decide) dX12_init_240 ?_
      refine G_goto 241 258 hC dX12_init_241 (by decide) ?_
      refine k2 _ _ hM ?_
      first | (unfold memR; rw [if_pos h237, if_pos h248]; done) | (unfold memR; rw [if_pos h237, if_neg h248]; done) | (unfold memR; rw [if_neg h237]; done)
  show g 0 [some (vr (some (b + 0))), some (vi x), some (vi y)] [] _ _ N 0 0
  refine G_aload_n 0 hC rfl dX12_init_0 ?_
  refine G_objInit 1 hC lk_X12_1 im_obj cd_obj (by decide) (by decide) dX12_init_1 ?_
  refine G_aload_n 4 hC rfl dX12_init_4 ?_
  refine G_bipush 5 hC (nI 6) (by decide) dX12_init_5 ?_
  refine G_newI 7 hC (rfl) (by omega) ar_int (by decide) (by decide) dX12_init_7 ?_
  refine G_putR 9 hC (fp_X12_7_11) (r0.su) rfl rfl dX12_init_9 ?_
  show g 12 _ _ _ _ (mkN N (b + 0) 4 (12, 6)) _ _
  have r1 : Rw shR rfR b N 1 (mkN N (b + 0) 4 (12, 6)) := Rw.mk r0 4 rfl rfl (rfR_u (by decide))
  generalize mkN N (b + 0) 4 (12, 6) = N1 at r1 ⊢
  refine G_aload_n 12 hC rfl dX12_init_12 ?_
  refine G_bipush 13 hC (nI 6) (by decide) dX12_init_13 ?_
  refine G_newI 15 hC (rfl) (by omega) ar_int (by decide) (by decide) dX12_init_15 ?_
  refine G_putR 17 hC (fp_X12_13_11) (r1.su) rfl rfl dX12_init_17 ?_
  show g 20 _ _ _ _ (mkN N1 (b + 0) 5 (12, 6)) _ _
  have r2 : Rw shR rfR b N 2 (mkN N1 (b + 0) 5 (12, 6)) := Rw.mk r1 5 rfl rfl (rfR_u (by decide))
  generalize mkN N1 (b + 0) 5 (12, 6) = N2 at r2 ⊢
  refine G_aload_n 20 hC rfl dX12_init_20 ?_
  refine G_bipush 21 hC (nI 120) (by decide) dX12_init_21 ?_
  refine G_newI 23 hC (rfl) (by omega) ar_int (by decide) (by decide) dX12_init_23 ?_
  refine G_putR 25 hC (fp_X12_16_11) (r2.su) rfl rfl dX12_init_25 ?_
  show g 28 _ _ _ _ (mkN N2 (b + 0) 6 (12, 120)) _ _
  have r3 : Rw shR rfR b N 3 (mkN N2 (b + 0) 6 (12, 120)) := Rw.mk r2 6 rfl rfl (rfR_u (by decide))
  generalize mkN N2 (b + 0) 6 (12, 120) = N3 at r3 ⊢
  refine G_aload_n 28 hC rfl dX12_init_28 ?_
  refine G_sipush 29 hC (nI 600) (by decide) dX12_init_29 ?_
  refine G_newI 32 hC (rfl) (by omega) ar_int (by decide) (by decide) dX12_init_32 ?_
  refine G_putR 34 hC (fp_X12_19_11) (r3.su) rfl rfl dX12_init_34 ?_
  show g 37 _ _ _ _ (mkN N3 (b + 0) 8 (12, 600)) _ _
  have r4 : Rw shR rfR b N 4 (mkN N3 (b + 0) 8 (12, 600)) := Rw.mk r3 8 rfl rfl (rfR_u (by decide))
  generalize mkN N3 (b + 0) 8 (12, 600) = N4 at r4 ⊢
  refine G_aload_n 37 hC rfl dX12_init_37 ?_
  refine G_sipush 38 hC (nI 7200) (by decide) dX12_init_38 ?_
  refine G_newL 41 hC (rfl) (by omega) ar_long (by decide) (by decide) dX12_init_41 ?_
  refine G_putR 43 hC (fp_X12_22_11) (r4.su) rfl rfl dX12_init_43 ?_
  show g 46 _ _ _ _ (mkN N4 (b + 0) 9 (13, 7200)) _ _
  have r5 : Rw shR rfR b N 5 (mkN N4 (b + 0) 9 (13, 7200)) := Rw.mk r4 9 rfl rfl (rfR_u (by decide))
  generalize mkN N4 (b + 0) 9 (13, 7200) = N5 at r5 ⊢
  refine G_aload_n 46 hC rfl dX12_init_46 ?_
  refine G_bipush 47 hC (nI 20) (by decide) dX12_init_47 ?_
  refine G_newI 49 hC (rfl) (by omega) ar_int (by decide) (by decide) dX12_init_49 ?_
  refine G_putR 51 hC (fp_X12_26_11) (r5.su) rfl rfl dX12_init_51 ?_
  show g 54 _ _ _ _ (mkN N5 (b + 0) 11 (12, 20)) _ _
  have r6 : Rw shR rfR b N 6 (mkN N5 (b + 0) 11 (12, 20)) := Rw.mk r5 11 rfl rfl (rfR_u (by decide))
  generalize mkN N5 (b + 0) 11 (12, 20) = N6 at r6 ⊢
  refine G_aload_n 54 hC rfl dX12_init_54 ?_
  refine G_bipush 55 hC (nI 20) (by decide) dX12_init_55 ?_
  refine G_newI 57 hC (rfl) (by omega) ar_int (by decide) (by decide) dX12_init_57 ?_
  refine G_putR 59 hC (fp_X12_29_11) (r6.su) rfl rfl dX12_init_59 ?_
  show g 62 _ _ _ _ (mkN N6 (b + 0) 12 (12, 20)) _ _
  have r7 : Rw shR rfR b N 7 (mkN N6 (b + 0) 12 (12, 20)) := Rw.mk r6 12 rfl rfl (rfR_u (by decide))
  generalize mkN N6 (b + 0) 12 (12, 20) = N7 at r7 ⊢
  refine G_aload_n 62 hC rfl dX12_init_62 ?_
  refine G_bipush 63 hC (nI 20) (by decide) dX12_init_63 ?_
  refine G_newL 65 hC (rfl) (by omega) ar_long (by decide) (by decide) dX12_init_65 ?_
  refine G_putR 67 hC (fp_X12_32_11) (r7.su) rfl rfl dX12_init_67 ?_
  show g 70 _ _ _ _ (mkN N7 (b + 0) 13 (13, 20)) _ _
  have r8 : Rw shR rfR b N 8 (mkN N7 (b + 0) 13 (13, 20)) := Rw.mk r7 13 rfl rfl (rfR_u (by decide))
  generalize mkN N7 (b + 0) 13 (13, 20) = N8 at r8 ⊢
  refine G_aload_n 70 hC rfl dX12_init_70 ?_
  refine G_bipush 71 hC (nI 20) (by decide) dX12_init_71 ?_
  refine G_newI 73 hC (rfl) (by omega) ar_int (by decide) (by decide) dX12_init_73 ?_
  refine G_putR 75 hC (fp_X12_35_11) (r8.su) rfl rfl dX12_init_75 ?_
  show g 78 _ _ _ _ (mkN N8 (b + 0) 14 (12, 20)) _ _
  have r9 : Rw shR rfR b N 9 (mkN N8 (b + 0) 14 (12, 20)) := Rw.mk r8 14 rfl rfl (rfR_u (by decide))
  generalize mkN N8 (b + 0) 14 (12, 20) = N9 at r9 ⊢
  refine G_aload_n 78 hC rfl dX12_init_78 ?_
  refine G_bipush 79 hC (nI 20) (by decide) dX12_init_79 ?_
  refine G_newI 81 hC (rfl) (by omega) ar_int (by decide) (by decide) dX12_init_81 ?_
  refine G_putR 83 hC (fp_X12_38_11) (r9.su) rfl rfl dX12_init_83 ?_
  show g 86 _ _ _ _ (mkN N9 (b + 0) 15 (12, 20)) _ _
  have r10 : Rw shR rfR b N 10 (mkN N9 (b + 0) 15 (12, 20)) := Rw.mk r9 15 rfl rfl (rfR_u (by decide))
  generalize mkN N9 (b + 0) 15 (12, 20) = N10 at r10 ⊢
  refine G_aload_n 86 hC rfl dX12_init_86 ?_
  refine G_bipush 87 hC (nI 20) (by decide) dX12_init_87 ?_
  refine G_newI 89 hC (rfl) (by omega) ar_int (by decide) (by decide) dX12_init_89 ?_
  refine G_putR 91 hC (fp_X12_41_11) (r10.su) rfl rfl dX12_init_91 ?_
  show g 94 _ _ _ _ (mkN N10 (b + 0) 16 (12, 20)) _ _
  have r11 : Rw shR rfR b N 11 (mkN N10 (b + 0) 16 (12, 20)) := Rw.mk r10 16 rfl rfl (rfR_u (by decide))
  generalize mkN N10 (b + 0) 16 (12, 20) = N11 at r11 ⊢
  refine G_aload_n 94 hC rfl dX12_init_94 ?_
  refine G_bipush 95 hC (nI 20) (by decide) dX12_init_95 ?_
  refine G_newI 97 hC (rfl) (by omega) ar_int (by decide) (by decide) dX12_init_97 ?_
  refine G_putR 99 hC (fp_X12_44_11) (r11.su) rfl rfl dX12_init_99 ?_
  show g 102 _ _ _ _ (mkN N11 (b + 0) 17 (12, 20)) _ _
  have r12 : Rw shR rfR b N 12 (mkN N11 (b + 0) 17 (12, 20)) := Rw.mk r11 17 rfl rfl (rfR_u (by decide))
  generalize mkN N11 (b + 0) 17 (12, 20) = N12 at r12 ⊢
  refine G_aload_n 102 hC rfl dX12_init_102 ?_
  refine G_bipush 103 hC (nI 20) (by decide) dX12_init_103 ?_
  refine G_newI 105 hC (rfl) (by omega) ar_int (by decide) (by decide) dX12_init_105 ?_
  refine G_putR 107 hC (fp_X12_47_11) (r12.su) rfl rfl dX12_init_107 ?_
  show g 110 _ _ _ _ (mkN N12 (b + 0) 18 (12, 20)) _ _
  have r13 : Rw shR rfR b N 13 (mkN N12 (b + 0) 18 (12, 20)) := Rw.mk r12 18 rfl rfl (rfR_u (by decide))
  generalize mkN N12 (b + 0) 18 (12, 20) = N13 at r13 ⊢
  refine G_aload_n 110 hC rfl dX12_init_110 ?_
  refine G_bipush 111 hC (nI 20) (by decide) dX12_init_111 ?_
  refine G_newI 113 hC (rfl) (by omega) ar_int (by decide) (by decide) dX12_init_113 ?_
  refine G_putR 115 hC (fp_X12_50_11) (r13.su) rfl rfl dX12_init_115 ?_
  show g 118 _ _ _ _ (mkN N13 (b + 0) 19 (12, 20)) _ _
  have r14 : Rw shR rfR b N 14 (mkN N13 (b + 0) 19 (12, 20)) := Rw.mk r13 19 rfl rfl (rfR_u (by decide))
  generalize mkN N13 (b + 0) 19 (12, 20) = N14 at r14 ⊢
  refine G_aload_n 118 hC rfl dX12_init_118 ?_
  refine G_bipush 119 hC (nI 8) (by decide) dX12_init_119 ?_
  refine G_newI 121 hC (rfl) (by omega) ar_int (by decide) (by decide) dX12_init_121 ?_
  refine G_putR 123 hC (fp_X12_53_11) (r14.su) rfl rfl dX12_init_123 ?_
  show g 126 _ _ _ _ (mkN N14 (b + 0) 21 (12, 8)) _ _
  have r15 : Rw shR rfR b N 15 (mkN N14 (b + 0) 21 (12, 8)) := Rw.mk r14 21 rfl rfl (rfR_u (by decide))
  generalize mkN N14 (b + 0) 21 (12, 8) = N15 at r15 ⊢
  refine G_aload_n 126 hC rfl dX12_init_126 ?_
  refine G_bipush 127 hC (nI 8) (by decide) dX12_init_127 ?_
  refine G_newI 129 hC (rfl) (by omega) ar_int (by decide) (by decide) dX12_init_129 ?_
  refine G_putR 131 hC (fp_X12_56_11) (r15.su) rfl rfl dX12_init_131 ?_
  show g 134 _ _ _ _ (mkN N15 (b + 0) 22 (12, 8)) _ _
  have r16 : Rw shR rfR b N 16 (mkN N15 (b + 0) 22 (12, 8)) := Rw.mk r15 22 rfl rfl (rfR_u (by decide))
  generalize mkN N15 (b + 0) 22 (12, 8) = N16 at r16 ⊢
  refine G_aload_n 134 hC rfl dX12_init_134 ?_
  refine G_bipush 135 hC (nI 8) (by decide) dX12_init_135 ?_
  refine G_newI 137 hC (rfl) (by omega) ar_int (by decide) (by decide) dX12_init_137 ?_
  refine G_putR 139 hC (fp_X12_59_11) (r16.su) rfl rfl dX12_init_139 ?_
  show g 142 _ _ _ _ (mkN N16 (b + 0) 23 (12, 8)) _ _
  have r17 : Rw shR rfR b N 17 (mkN N16 (b + 0) 23 (12, 8)) := Rw.mk r16 23 rfl rfl (rfR_u (by decide))
  generalize mkN N16 (b + 0) 23 (12, 8) = N17 at r17 ⊢
  refine G_aload_n 142 hC rfl dX12_init_142 ?_
  refine G_bipush 143 hC (nI 8) (by decide) dX12_init_143 ?_
  refine G_newL 145 hC (rfl) (by omega) ar_long (by decide) (by decide) dX12_init_145 ?_
  refine G_putR 147 hC (fp_X12_62_11) (r17.su) rfl rfl dX12_init_147 ?_
  show g 150 _ _ _ _ (mkN N17 (b + 0) 24 (13, 8)) _ _
  have r18 : Rw shR rfR b N 18 (mkN N17 (b + 0) 24 (13, 8)) := Rw.mk r17 24 rfl rfl (rfR_u (by decide))
  generalize mkN N17 (b + 0) 24 (13, 8) = N18 at r18 ⊢
  refine G_aload_n 150 hC rfl dX12_init_150 ?_
  refine G_sipush 151 hC (nI 400) (by decide) dX12_init_151 ?_
  refine G_newI 154 hC (rfl) (by omega) ar_int (by decide) (by decide) dX12_init_154 ?_
  refine G_putR 156 hC (fp_X12_65_11) (r18.su) rfl rfl dX12_init_156 ?_
  show g 159 _ _ _ _ (mkN N18 (b + 0) 26 (12, 400)) _ _
  have r19 : Rw shR rfR b N 19 (mkN N18 (b + 0) 26 (12, 400)) := Rw.mk r18 26 rfl rfl (rfR_u (by decide))
  generalize mkN N18 (b + 0) 26 (12, 400) = N19 at r19 ⊢
  refine G_aload_n 159 hC rfl dX12_init_159 ?_
  refine G_sipush 160 hC (nI 310) (by decide) dX12_init_160 ?_
  refine G_newI 163 hC (rfl) (by omega) ar_int (by decide) (by decide) dX12_init_163 ?_
  refine G_putR 165 hC (fp_X12_68_11) (r19.su) rfl rfl dX12_init_165 ?_
  show g 168 _ _ _ _ (mkN N19 (b + 0) 27 (12, 310)) _ _
  have r20 : Rw shR rfR b N 20 (mkN N19 (b + 0) 27 (12, 310)) := Rw.mk r19 27 rfl rfl (rfR_u (by decide))
  generalize mkN N19 (b + 0) 27 (12, 310) = N20 at r20 ⊢
  refine G_aload_n 168 hC rfl dX12_init_168 ?_
  refine G_sipush 169 hC (nI 310) (by decide) dX12_init_169 ?_
  refine G_newI 172 hC (rfl) (by omega) ar_int (by decide) (by decide) dX12_init_172 ?_
  refine G_putR 174 hC (fp_X12_71_11) (r20.su) rfl rfl dX12_init_174 ?_
  show g 177 _ _ _ _ (mkN N20 (b + 0) 28 (12, 310)) _ _
  have r21 : Rw shR rfR b N 21 (mkN N20 (b + 0) 28 (12, 310)) := Rw.mk r20 28 rfl rfl (rfR_u (by decide))
  generalize mkN N20 (b + 0) 28 (12, 310) = N21 at r21 ⊢
  refine G_aload_n 177 hC rfl dX12_init_177 ?_
  refine G_bipush 178 hC (nI 36) (by decide) dX12_init_178 ?_
  refine G_newL 180 hC (rfl) (by omega) ar_long (by decide) (by decide) dX12_init_180 ?_
  refine G_putR 182 hC (fp_X12_74_11) (r21.su) rfl rfl dX12_init_182 ?_
  show g 185 _ _ _ _ (mkN N21 (b + 0) 29 (13, 36)) _ _
  have r22 : Rw shR rfR b N 22 (mkN N21 (b + 0) 29 (13, 36)) := Rw.mk r21 29 rfl rfl (rfR_u (by decide))
  generalize mkN N21 (b + 0) 29 (13, 36) = N22 at r22 ⊢
  refine G_aload_n 185 hC rfl dX12_init_185 ?_
  refine G_bipush 186 hC (nI 36) (by decide) dX12_init_186 ?_
  refine G_newL 188 hC (rfl) (by omega) ar_long (by decide) (by decide) dX12_init_188 ?_
  refine G_putR 190 hC (fp_X12_77_11) (r22.su) rfl rfl dX12_init_190 ?_
  show g 193 _ _ _ _ (mkN N22 (b + 0) 30 (13, 36)) _ _
  have r23 : Rw shR rfR b N 23 (mkN N22 (b + 0) 30 (13, 36)) := Rw.mk r22 30 rfl rfl (rfR_u (by decide))
  generalize mkN N22 (b + 0) 30 (13, 36) = N23 at r23 ⊢
  refine G_aload_n 193 hC rfl dX12_init_193 ?_
  refine G_sipush 194 hC (nI 310) (by decide) dX12_init_194 ?_
  refine G_newI 197 hC (rfl) (by omega) ar_int (by decide) (by decide) dX12_init_197 ?_
  refine G_putR 199 hC (fp_X12_80_11) (r23.su) rfl rfl dX12_init_199 ?_
  show g 202 _ _ _ _ (mkN N23 (b + 0) 34 (12, 310)) _ _
  have r24 : Rw shR rfR b N 24 (mkN N23 (b + 0) 34 (12, 310)) := Rw.mk r23 34 rfl rfl (rfR_u (by decide))
  generalize mkN N23 (b + 0) 34 (12, 310) = N24 at r24 ⊢
  refine G_aload_n 202 hC rfl dX12_init_202 ?_
  refine G_bipush 203 hC (nI 36) (by decide) dX12_init_203 ?_
  refine G_newL 205 hC (rfl) (by omega) ar_long (by decide) (by decide) dX12_init_205 ?_
  refine G_putR 207 hC (fp_X12_83_11) (r24.su) rfl rfl dX12_init_207 ?_
  show g 210 _ _ _ _ (mkN N24 (b + 0) 35 (13, 36)) _ _
  have r25 : Rw shR rfR b N 25 (mkN N24 (b + 0) 35 (13, 36)) := Rw.mk r24 35 rfl rfl (rfR_u (by decide))
  generalize mkN N24 (b + 0) 35 (13, 36) = N25 at r25 ⊢
  refine G_aload_n 210 hC rfl dX12_init_210 ?_
  refine G_iload_n 211 hC rfl dX12_init_211 ?_
  refine G_iconst 212 hC (nI 1) (by decide) dX12_init_212 ?_
  refine G_icmp_ge 213 220 hC dX12_init_213 (by decide) (fun h213 => ?_) (fun h213 => ?_)
  · refine G_iload_n 220 hC rfl dX12_init_220 ?_
    refine G_bipush 221 hC (nI 6) (by decide) dX12_init_221 ?_
    refine G_icmp_le 223 231 hC dX12_init_223 (by decide) (fun h223 => ?_) (fun h223 => ?_)
    · refine G_iload_n 231 hC rfl dX12_init_231 ?_
      refine k1 _ _ r25 ?_
      first | (unfold thR; rw [if_pos h213, if_pos h223]; done) | (unfold thR; rw [if_pos h213, if_neg h223]; done) | (unfold thR; rw [if_neg h213]; done)
    · refine G_bipush 226 hC (nI 6) (by decide) dX12_init_226 ?_
      refine G_goto 228 232 hC dX12_init_228 (by decide) ?_
      refine k1 _ _ r25 ?_
      first | (unfold thR; rw [if_pos h213, if_pos h223]; done) | (unfold thR; rw [if_pos h213, if_neg h223]; done) | (unfold thR; rw [if_neg h213]; done)
  · refine G_iconst 216 hC (nI 1) (by decide) dX12_init_216 ?_
    refine G_goto 217 232 hC dX12_init_217 (by decide) ?_
    refine k1 _ _ r25 ?_
    first | (unfold thR; rw [if_pos h213, if_pos h223]; done) | (unfold thR; rw [if_pos h213, if_neg h223]; done) | (unfold thR; rw [if_neg h213]; done)
end G7

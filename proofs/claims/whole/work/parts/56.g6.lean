/-! ===== the constructors: plan, course ===== -/
/-- the rows 1 .. i of a block at b are made; what lay below is as it was -/
def Rw (sh : Nat → Nat × Nat) (rf : Nat → Option Nat) (b : Nat) (N0 : NT) (i : Nat) (N : NT) : Prop := N.2.2 = b + 1 + i ∧ (∀ o, o < 1 + i → N.2.1 (b + o) = sh o) ∧ (∀ j o, rf j = some o → o ≤ i → N.1 (b + 0) j = some (b + o)) ∧ ∀ a, a < b → N.2.1 a = N0.2.1 a ∧ N.1 a = N0.1 a
theorem getD_lt {L : List (Option Nat)} {j o : Nat} (h : L.getD j none = some o) : j < L.length := by
  rcases Nat.lt_or_ge j L.length with q | q
  · exact q
  · rw [List.getD_eq_getElem?_getD, List.getElem?_eq_none q] at h
    cases h
section RW
variable {sh : Nat → Nat × Nat} {rf : Nat → Option Nat} {b i j : Nat} {N0 N : NT} {s : Nat × Nat}
theorem Rw.o0 (h : Rw sh rf b N0 i N) : N.2.1 (b + 0) = sh 0 := h.2.1 0 (by omega)
theorem Rw.su (h : Rw sh rf b N0 i N) : up N.2.1 N.2.2 s (b + 0) = sh 0 := by rw [up_ne (by have := h.1; omega)]; exact h.o0
theorem Rw.mk (h : Rw sh rf b N0 i N) (j : Nat) (hs : sh (i + 1) = s) (hj : rf j = some (i + 1)) (hi : ∀ j', rf j' = some (i + 1) → j' = j) : Rw sh rf b N0 (i + 1) (mkN N (b + 0) j s) := by
  obtain ⟨h1, h2, h3, h4⟩ := h
  refine ⟨by show N.2.2 + 1 = _; omega, fun o ho => ?_, fun j' o hr ho => ?_, fun a ha => ⟨?_, ?_⟩⟩
  · show up N.2.1 N.2.2 s (b + o) = _
    by_cases e : o = i + 1
    · subst e
      rw [show b + (i + 1) = N.2.2 by omega, up_s, hs]
    · rw [up_ne (by omega)]; exact h2 o (by omega)
  · show upd2 N.1 (b + 0) j (some N.2.2) (b + 0) j' = _
    rw [upd2_row]
    by_cases e : o = i + 1
    · subst e
      have e2 := hi j' hr
      subst e2
      rw [up_s, h1, show b + 1 + i = b + (i + 1) by omega]
    · have e2 : j' ≠ j := fun q => by
        subst q
        rw [hj] at hr
        exact e (Option.some.inj hr).symm
      rw [up_ne e2]
      exact h3 j' o hr (by omega)
  · show up N.2.1 N.2.2 s a = _
    rw [up_ne (by omega)]; exact (h4 a ha).1
  · show upd2 N.1 (b + 0) j _ a = _
    rw [upd2_ne (by omega)]; exact (h4 a ha).2
end RW
def shP (o : Nat) : Nat × Nat := ([(4, 8), (14, 6), (18, 20), (17, 8), (12, 400)] : List (Nat × Nat)).getD o (21, 0)
def rfP (j : Nat) : Option Nat := ([some 1, some 2, some 3, some 4] : List (Option Nat)).getD j none
def rfC (j : Nat) : Option Nat := ([none, none, none, some 1, some 2, some 3, some 4, some 5, some 6] : List (Option Nat)).getD j none
theorem rfP_u {o j : Nat} (h : ∀ j', j' < 4 → rfP j' = some o → j' = j) : ∀ j', rfP j' = some o → j' = j := fun j' q => h j' (getD_lt q) q
theorem rfC_u {o j : Nat} (h : ∀ j', j' < 9 → rfC j' = some o → j' = j) : ∀ j', rfC j' = some o → j' = j := fun j' q => h j' (getD_lt q) q
theorem rfR_u {o j : Nat} (h : ∀ j', j' < 36 → rfR j' = some o → j' = j) : ∀ j', rfR j' = some o → j' = j := fun j' q => h j' (getD_lt q) q
/-- a course's rows, and j of its works -/
def RwW (c P : Nat) (N0 : NT) (j : Nat) (N : NT) : Prop := N.2.2 = c + 7 + j ∧ (∀ o, o < 7 + j → N.2.1 (c + o) = shC o) ∧ (N.1 (c + 0) 0 = some P ∧ ∀ j o, rfC j = some o → N.1 (c + 0) j = some (c + o)) ∧ (∀ t, t < j → N.1 (c + 1) t = some (c + (7 + t))) ∧ ∀ a, a < c → N.2.1 a = N0.2.1 a ∧ N.1 a = N0.1 a
/-- and j of its hunts -/
def RwH (c P : Nat) (N0 : NT) (j : Nat) (N : NT) : Prop := N.2.2 = c + 27 + j ∧ (∀ o, o < 27 + j → N.2.1 (c + o) = shC o) ∧ (N.1 (c + 0) 0 = some P ∧ ∀ j o, rfC j = some o → N.1 (c + 0) j = some (c + o)) ∧ ((∀ t, t < 20 → N.1 (c + 1) t = some (c + (7 + t))) ∧ ∀ t, t < j → N.1 (c + 2) t = some (c + (27 + t))) ∧ ∀ a, a < c → N.2.1 a = N0.2.1 a ∧ N.1 a = N0.1 a
section RWC
variable {c P j : Nat} {N0 N : NT}
theorem RwW.of (h : Rw shC rfC c N0 6 N) : RwW c P N0 0 (upd2 N.1 (c + 0) 0 (some P), N.2) := by
  obtain ⟨h1, h2, h3, h4⟩ := h
  refine ⟨by show N.2.2 = _; omega, h2, ⟨?_, fun j o hr => ?_⟩, fun t ht => absurd ht (Nat.not_lt_zero t), fun a ha => ⟨(h4 a ha).1, ?_⟩⟩
  · show upd2 N.1 (c + 0) 0 (some P) (c + 0) 0 = _
    rw [upd2_row, up_s]
  · show upd2 N.1 (c + 0) 0 (some P) (c + 0) j = _
    have hj : j ≠ 0 := fun q => by subst q; cases hr
    have ho : o ≤ 6 := by
      have q2 : ∀ j', j' < 9 → (rfC j').getD 0 ≤ 6 := by decide
      have q3 := q2 j (getD_lt hr)
      rw [hr] at q3
      exact q3
    rw [upd2_row, up_ne hj]
    exact h3 j o hr ho
  · show upd2 N.1 (c + 0) 0 (some P) a = _
    rw [upd2_ne (by omega)]; exact (h4 a ha).2
theorem RwW.mk (h : RwW c P N0 j N) (hj : j < 20) : RwW c P N0 (j + 1) (mkN N (c + 1) j (9, 13)) := by
  obtain ⟨h1, h2, ⟨h3, h3'⟩, h4, h5⟩ := h
  refine ⟨by show N.2.2 + 1 = _; omega, fun o ho => ?_, ⟨?_, fun i o hr => ?_⟩, fun t ht => ?_, fun a ha => ⟨?_, ?_⟩⟩
  · show up N.2.1 N.2.2 (9, 13) (c + o) = _
    by_cases e : o = 7 + j
    · subst e
      rw [show c + (7 + j) = N.2.2 by omega, up_s, shC_w hj]
    · rw [up_ne (by omega)]; exact h2 o (by omega)
  · show upd2 N.1 (c + 1) j _ (c + 0) 0 = _
    rw [upd2_ne (by omega)]; exact h3
  · show upd2 N.1 (c + 1) j _ (c + 0) i = _
    rw [upd2_ne (by omega)]; exact h3' i o hr
  · show upd2 N.1 (c + 1) j (some N.2.2) (c + 1) t = _
    rw [upd2_row]
    by_cases e : t = j
    · subst e
      rw [up_s, h1, show c + 7 + t = c + (7 + t) by omega]
    · rw [up_ne e]; exact h4 t (by omega)
  · show up N.2.1 N.2.2 (9, 13) a = _
    rw [up_ne (by omega)]; exact (h5 a ha).1
  · show upd2 N.1 (c + 1) j _ a = _
    rw [upd2_ne (by omega)]; exact (h5 a ha).2
theorem RwH.of (h : RwW c P N0 20 N) : RwH c P N0 0 N := by
  obtain ⟨h1, h2, h3, h4, h5⟩ := h
  exact ⟨by omega, h2, h3, ⟨h4, fun t ht => absurd ht (Nat.not_lt_zero t)⟩, h5⟩
theorem RwH.mk (h : RwH c P N0 j N) (hj : j < 8) : RwH c P N0 (j + 1) (mkN N (c + 2) j (2, 3)) := by
  obtain ⟨h1, h2, ⟨h3, h3'⟩, ⟨h4, h4'⟩, h5⟩ := h
  refine ⟨by show N.2.2 + 1 = _; omega, fun o ho => ?_, ⟨?_, fun i o hr => ?_⟩, ⟨fun t ht => ?_, fun t ht => ?_⟩, fun a ha => ⟨?_, ?_⟩⟩
  · show up N.2.1 N.2.2 (2, 3) (c + o) = _
    by_cases e : o = 27 + j
    · subst e
      rw [show c + (27 + j) = N.2.2 by omega, up_s, shC_h hj]
    · rw [up_ne (by omega)]; exact h2 o (by omega)
  · show upd2 N.1 (c + 2) j _ (c + 0) 0 = _
    rw [upd2_ne (by omega)]; exact h3
  · show upd2 N.1 (c + 2) j _ (c + 0) i = _
    rw [upd2_ne (by omega)]; exact h3' i o hr
  · show upd2 N.1 (c + 2) j _ (c + 1) t = _
    rw [upd2_ne (by omega)]; exact h4 t ht
  · show upd2 N.1 (c + 2) j (some N.2.2) (c + 2) t = _
    rw [upd2_row]
    by_cases e : t = j
    · subst e
      rw [up_s, h1, show c + 27 + t = c + (27 + t) by omega]
    · rw [up_ne e]; exact h4' t (by omega)
  · show up N.2.1 N.2.2 (2, 3) a = _
    rw [up_ne (by omega)]; exact (h5 a ha).1
  · show upd2 N.1 (c + 2) j _ a = _
    rw [upd2_ne (by omega)]; exact (h5 a ha).2
theorem RwH.fix (h : RwH c P N0 8 N) : FixC c P N := by
  obtain ⟨h1, h2, ⟨h3, h3'⟩, ⟨h4, h4'⟩, h5⟩ := h
  refine ⟨fun o s hs h21 => ?_, h3, h3' 3 1 rfl, h3' 4 2 rfl, h3' 5 3 rfl, h3' 6 4 rfl, h3' 7 5 rfl, h3' 8 6 rfl, h4, h4'⟩
  rw [← hs]
  exact h2 o (shC_lt (show shC o = (s.1, s.2) from hs) h21)
end RWC
section G6
variable {l : Launch} {D : va_G} {B P c X : Nat} {I : MI} {L : ML} {Nr : MR} {Ns : Nat → Nat × Nat}
theorem g_Plan_init (hs : Ns (P + 0) = (4, 8)) : Ct l D B mX4_init [vr (some (P + 0))] I L (Nr, (Ns, P + 1)) 4 434 (fun v I' L' N' => v = none ∧ I' = I ∧ L' = L ∧ Rw shP rfP P (Nr, (Ns, P + 1)) 4 N') := by
  have r0 : Rw shP rfP P (Nr, (Ns, P + 1)) 0 (Nr, (Ns, P + 1)) := ⟨rfl, fun o ho => by
    have e : o = 0 := by omega
    subst e
    exact hs, fun j o hr ho => by
      have q2 : ∀ j', j' < 4 → 1 ≤ (rfP j').getD 1 := by decide
      have q3 := q2 j (getD_lt hr)
      rw [hr] at q3
      have q4 : 1 ≤ o := q3
      omega, fun a ha => ⟨rfl, rfl⟩⟩
  generalize hN0 : ((Nr, (Ns, P + 1)) : NT) = N at r0 ⊢
  have rN := r0
  refine Ct.of (M := mX4_init) (by decide) (Nat.le_of_ble_eq_true rfl) (fun g (hR : Cr l D B RX4 cX4_init 1 "<init>" { frames := 1, cells := 4, slots := 434, locals := 20 } none 4 434 _ g) => ?_)
  have hC := hR.cx
  show g 0 [some (vr (some (P + 0)))] [] _ _ N 0 0
  refine G_aload_n 0 hC rfl dX4_init_0 ?_
  refine G_objInit 1 hC lk_X4_3 im_obj cd_obj (by decide) (by decide) dX4_init_1 ?_
  refine G_aload_n 4 hC rfl dX4_init_4 ?_
  refine G_bipush 5 hC (nI 6) (by decide) dX4_init_5 ?_
  refine G_anew 7 hC 14 (by decide) (by decide) (rfl) (by omega) cl_X4_9 (by decide) (by decide) (by decide) dX4_init_7 ?_
  refine G_putR 10 hC (fp_X4_11_4) (r0.su) rfl rfl dX4_init_10 ?_
  show g 13 _ _ _ _ (mkN N (P + 0) 0 (14, 6)) _ _
  have r1 : Rw shP rfP P N 1 (mkN N (P + 0) 0 (14, 6)) := Rw.mk r0 0 rfl rfl (rfP_u (by decide))
  generalize mkN N (P + 0) 0 (14, 6) = N1 at r1 ⊢
  refine G_aload_n 13 hC rfl dX4_init_13 ?_
  refine G_bipush 14 hC (nI 20) (by decide) dX4_init_14 ?_
  refine G_anew 16 hC 18 (by decide) (by decide) (rfl) (by omega) cl_X4_17 (by decide) (by decide) (by decide) dX4_init_16 ?_
  refine G_putR 19 hC (fp_X4_19_4) (r1.su) rfl rfl dX4_init_19 ?_
  show g 22 _ _ _ _ (mkN N1 (P + 0) 1 (18, 20)) _ _
  have r2 : Rw shP rfP P N 2 (mkN N1 (P + 0) 1 (18, 20)) := Rw.mk r1 1 rfl rfl (rfP_u (by decide))
  generalize mkN N1 (P + 0) 1 (18, 20) = N2 at r2 ⊢
  refine G_aload_n 22 hC rfl dX4_init_22 ?_
  refine G_bipush 23 hC (nI 8) (by decide) dX4_init_23 ?_
  refine G_anew 25 hC 17 (by decide) (by decide) (rfl) (by omega) cl_X4_23 (by decide) (by decide) (by decide) dX4_init_25 ?_
  refine G_putR 28 hC (fp_X4_25_4) (r2.su) rfl rfl dX4_init_28 ?_
  show g 31 _ _ _ _ (mkN N2 (P + 0) 2 (17, 8)) _ _
  have r3 : Rw shP rfP P N 3 (mkN N2 (P + 0) 2 (17, 8)) := Rw.mk r2 2 rfl rfl (rfP_u (by decide))
  generalize mkN N2 (P + 0) 2 (17, 8) = N3 at r3 ⊢
  refine G_aload_n 31 hC rfl dX4_init_31 ?_
  refine G_sipush 32 hC (nI 400) (by decide) dX4_init_32 ?_
  refine G_newI 35 hC (rfl) (by omega) ar_int (by decide) (by decide) dX4_init_35 ?_
  refine G_putR 37 hC (fp_X4_29_4) (r3.su) rfl rfl dX4_init_37 ?_
  show g 40 _ _ _ _ (mkN N3 (P + 0) 3 (12, 400)) _ _
  have r4 : Rw shP rfP P N 4 (mkN N3 (P + 0) 3 (12, 400)) := Rw.mk r3 3 rfl rfl (rfP_u (by decide))
  generalize mkN N3 (P + 0) 3 (12, 400) = N4 at r4 ⊢
  refine R_v 40 hR dX4_init_40 (Nat.le_refl _) (Nat.le_refl _) ?_
  exact ⟨rfl, rfl, rfl, r4⟩
theorem g_Course_init {mem bs : Int32} (hs : Ns (c + 0) = (0, 19)) (hbs : bs = nI 0 ∨ bs = nI 1) : Ct l D B mX0_init [vr (some (c + 0)), vr (some P), vi mem, vi bs] I L (Nr, (Ns, c + 1)) 34 377 (fun v I' L' N' => v = none ∧ I' = upd2 (upd2 (upd2 I (c + 0) 10 (nI 1)) (c + 0) 1 mem) (c + 0) 2 bs ∧ L' = L ∧ RwH c P (Nr, (Ns, c + 1)) 8 N') := by
  have r0 : Rw shC rfC c (Nr, (Ns, c + 1)) 0 (Nr, (Ns, c + 1)) := ⟨rfl, fun o ho => by
    have e : o = 0 := by omega
    subst e
    exact hs, fun j o hr ho => by
      have q2 : ∀ j', j' < 9 → 1 ≤ (rfC j').getD 1 := by decide
      have q3 := q2 j (getD_lt hr)
      rw [hr] at q3
      have q4 : 1 ≤ o := q3
      omega, fun a ha => ⟨rfl, rfl⟩⟩
  generalize hN0 : ((Nr, (Ns, c + 1)) : NT) = N at r0 ⊢
  have rN := r0
  refine Ct.of (M := mX0_init) (by decide) (Nat.le_of_ble_eq_true rfl) (fun g (hR : Cr l D B RX0 cX0_init 5 "<init>" { frames := 2, cells := 34, slots := 377, locals := 40 } none 34 377 _ g) => ?_)
  have hC := hR.cx
  have loop2 : ∀ (f j : Nat) (M : NT), 8 - j = f → j ≤ 8 → RwH c P N j M → g 110 [some (vr (some (c + 0))), some (vr (some P)), some (vi mem), some (vi bs), some (vi (nI j))] [] (upd2 (upd2 (upd2 I (c + 0) 10 (nI 1)) (c + 0) 1 mem) (c + 0) 2 bs) L M (26 + j) (353 + 3 * j) := by
    intro f
    induction f using Nat.strongRecOn with
    | _ f ih =>
      intro j M hf hj hM
      refine G_iload 110 hC rfl dX0_init_110 ?_
      refine G_bipush 112 hC (nI 8) (by decide) dX0_init_112 ?_
      refine G_icmp_ge 114 137 hC dX0_init_114 (by decide) (fun h114 => ?_) (fun h114 => ?_)
      · refine R_v 137 hR dX0_init_137 (by omega) (by omega) ?_
        have q := (nI_leI (by omega) (by omega)).mp h114
        have ej : j = 8 := by omega
        subst ej
        exact ⟨rfl, rfl, rfl, hM⟩
      · have ai : j < 8 := by
          rcases Nat.lt_or_ge j 8 with q | q
          · exact q
          · exact absurd ((nI_leI (by omega) (by omega)).mpr q) h114
        refine G_aload_n 117 hC rfl dX0_init_117 ?_
        refine G_getR 118 hC fl_X0_19_0 (hM.2.1 0 (by omega)) (hM.2.2.1.2 4 2 rfl) rfl dX0_init_118 ?_
        refine G_iload 121 hC rfl dX0_init_121 ?_
        refine G_new 123 hC (ci := 2) (RX2, TX2, 3) rfl cl_X0_17 it_X2 in_X2 (by show 26 + j + 1 ≤ 34; omega) (by show 353 + 3 * j + 3 ≤ 377; omega) dX0_init_123 ?_
        refine G_dup 126 hC rfl dX0_init_126 ?_
        refine G_callIN0 127 hC (g_Hunt_init) okX2_init ln_X0_53 rfl rfl (Nat.le_of_ble_eq_true rfl) (by decide) (⟨by show 26 + j + 1 + 0 ≤ 34; omega, by show 353 + 3 * j + 3 + 0 ≤ 377; omega⟩) dX0_init_127 ?_
        refine G_aast 130 hC ((RX2, TX2, 3)) ((up_ne (by have q := hM.1; omega)).trans (hM.2.1 2 (by omega))) (by decide) (by decide) (up_s _ _ _) rfl (Or.inl rfl) (rfl) (by omega) (by omega) dX0_init_130 ?_
        first | refine G_iincN 131 hC (by decide) rfl (ls' := [_, _, _, _, _]) rfl dX0_init_131 ?_ | refine G_iinc 131 hC _ rfl (by decide) rfl (ls' := [_, _, _, _, _]) rfl dX0_init_131 ?_
        refine G_goto 134 110 hC dX0_init_134 (by decide) ?_
        exact G_wide hC (by omega) (by show 353 + 3 * j + 3 + 0 ≤ 353 + 3 * (j + 1); omega) (ih (8 - (j + 1)) (by omega) (j + 1) _ rfl (by omega) (RwH.mk hM ai))
  have loop1 : ∀ (f j : Nat) (M : NT), 20 - j = f → j ≤ 20 → RwW c P N j M → g 80 [some (vr (some (c + 0))), some (vr (some P)), some (vi mem), some (vi bs), some (vi (nI j))] [] (upd2 (upd2 (upd2 I (c + 0) 10 (nI 1)) (c + 0) 1 mem) (c + 0) 2 bs) L M (6 + j) (93 + 13 * j) := by
    intro f
    induction f using Nat.strongRecOn with
    | _ f ih =>
      intro j M hf hj hM
      refine G_iload 80 hC rfl dX0_init_80 ?_
      refine G_bipush 82 hC (nI 20) (by decide) dX0_init_82 ?_
      refine G_icmp_ge 84 107 hC dX0_init_84 (by decide) (fun h84 => ?_) (fun h84 => ?_)
      · refine G_iconst 107 hC (nI 0) (by decide) dX0_init_107 ?_
        refine G_istore 108 hC (by decide) (ls' := [_, _, _, _, _]) rfl dX0_init_108 ?_
        have q := (nI_leI (by omega) (by omega)).mp h84
        have ej : j = 20 := by omega
        subst ej
        exact G_wide hC (by decide) (by decide) (loop2 _ 0 _ rfl (Nat.zero_le _) (RwH.of hM))
      · have ai : j < 20 := by
          rcases Nat.lt_or_ge j 20 with q | q
          · exact q
          · exact absurd ((nI_leI (by omega) (by omega)).mpr q) h84
        refine G_aload_n 87 hC rfl dX0_init_87 ?_
        refine G_getR 88 hC fl_X0_11_0 (hM.2.1 0 (by omega)) (hM.2.2.1.2 3 1 rfl) rfl dX0_init_88 ?_
        refine G_iload 91 hC rfl dX0_init_91 ?_
        refine G_new 93 hC (ci := 9) (RX10, TX10, 13) rfl cl_X0_9 it_X10 in_X10 (by show 6 + j + 1 ≤ 34; omega) (by show 93 + 13 * j + 13 ≤ 377; omega) dX0_init_93 ?_
        refine G_dup 96 hC rfl dX0_init_96 ?_
        refine G_callIN0 97 hC (g_Work_init) okX10_init ln_X0_23 rfl rfl (Nat.le_of_ble_eq_true rfl) (by decide) (⟨by show 6 + j + 1 + 0 ≤ 34; omega, by show 93 + 13 * j + 13 + 0 ≤ 377; omega⟩) dX0_init_97 ?_
        refine G_aast 100 hC ((RX10, TX10, 13)) ((up_ne (by have q := hM.1; omega)).trans (hM.2.1 1 (by omega))) (by decide) (by decide) (up_s _ _ _) rfl (Or.inl rfl) (rfl) (by omega) (by omega) dX0_init_100 ?_
        first | refine G_iincN 101 hC (by decide) rfl (ls' := [_, _, _, _, _]) rfl dX0_init_101 ?_ | refine G_iinc 101 hC _ rfl (by decide) rfl (ls' := [_, _, _, _, _]) rfl dX0_init_101 ?_
        refine G_goto 104 80 hC dX0_init_104 (by decide) ?_
        exact G_wide hC (by omega) (by show 93 + 13 * j + 13 + 0 ≤ 93 + 13 * (j + 1); omega) (ih (20 - (j + 1)) (by omega) (j + 1) _ rfl (by omega) (RwW.mk hM ai))
  show g 0 [some (vr (some (c + 0))), some (vr (some P)), some (vi mem), some (vi bs), none] [] _ _ N 0 0
  refine G_aload_n 0 hC rfl dX0_init_0 ?_
  refine G_objInit 1 hC lk_X0_3 im_obj cd_obj (by decide) (by decide) dX0_init_1 ?_
  refine G_aload_n 4 hC rfl dX0_init_4 ?_
  refine G_bipush 5 hC (nI 20) (by decide) dX0_init_5 ?_
  refine G_anew 7 hC 19 (by decide) (by decide) (rfl) (by omega) cl_X0_9 (by decide) (by decide) (by decide) dX0_init_7 ?_
  refine G_putR 10 hC (fp_X0_11_0) (r0.su) rfl rfl dX0_init_10 ?_
  show g 13 _ _ _ _ (mkN N (c + 0) 3 (19, 20)) _ _
  have r1 : Rw shC rfC c N 1 (mkN N (c + 0) 3 (19, 20)) := Rw.mk r0 3 rfl rfl (rfC_u (by decide))
  generalize mkN N (c + 0) 3 (19, 20) = N1 at r1 ⊢
  refine G_aload_n 13 hC rfl dX0_init_13 ?_
  refine G_bipush 14 hC (nI 8) (by decide) dX0_init_14 ?_
  refine G_anew 16 hC 15 (by decide) (by decide) (rfl) (by omega) cl_X0_17 (by decide) (by decide) (by decide) dX0_init_16 ?_
  refine G_putR 19 hC (fp_X0_19_0) (r1.su) rfl rfl dX0_init_19 ?_
  show g 22 _ _ _ _ (mkN N1 (c + 0) 4 (15, 8)) _ _
  have r2 : Rw shC rfC c N 2 (mkN N1 (c + 0) 4 (15, 8)) := Rw.mk r1 4 rfl rfl (rfC_u (by decide))
  generalize mkN N1 (c + 0) 4 (15, 8) = N2 at r2 ⊢
  refine G_aload_n 22 hC rfl dX0_init_22 ?_
  refine G_new 23 hC (ci := 9) (RX10, TX10, 13) rfl cl_X0_9 it_X10 in_X10 (by decide) (by decide) dX0_init_23 ?_
  refine G_dup 26 hC rfl dX0_init_26 ?_
  refine G_callIN0 27 hC (g_Work_init) okX10_init ln_X0_23 rfl rfl (Nat.le_of_ble_eq_true rfl) (by decide) (by decide) dX0_init_27 ?_
  refine G_putR 30 hC (fp_X0_24_0) (r2.su) rfl rfl dX0_init_30 ?_
  show g 33 _ _ _ _ (mkN N2 (c + 0) 5 (9, 13)) _ _
  have r3 : Rw shC rfC c N 3 (mkN N2 (c + 0) 5 (9, 13)) := Rw.mk r2 5 rfl rfl (rfC_u (by decide))
  generalize mkN N2 (c + 0) 5 (9, 13) = N3 at r3 ⊢
  refine G_aload_n 33 hC rfl dX0_init_33 ?_
  refine G_bipush 34 hC (nI 6) (by decide) dX0_init_34 ?_
  refine G_newI 36 hC (rfl) (by omega) ar_int (by decide) (by decide) dX0_init_36 ?_
  refine G_putR 38 hC (fp_X0_28_0) (r3.su) rfl rfl dX0_init_38 ?_
  show g 41 _ _ _ _ (mkN N3 (c + 0) 6 (12, 6)) _ _
  have r4 : Rw shC rfC c N 4 (mkN N3 (c + 0) 6 (12, 6)) := Rw.mk r3 6 rfl rfl (rfC_u (by decide))
  generalize mkN N3 (c + 0) 6 (12, 6) = N4 at r4 ⊢
  refine G_aload_n 41 hC rfl dX0_init_41 ?_
  refine G_bipush 42 hC (nI 6) (by decide) dX0_init_42 ?_
  refine G_newI 44 hC (rfl) (by omega) ar_int (by decide) (by decide) dX0_init_44 ?_
  refine G_putR 46 hC (fp_X0_32_0) (r4.su) rfl rfl dX0_init_46 ?_
  show g 49 _ _ _ _ (mkN N4 (c + 0) 7 (12, 6)) _ _
  have r5 : Rw shC rfC c N 5 (mkN N4 (c + 0) 7 (12, 6)) := Rw.mk r4 7 rfl rfl (rfC_u (by decide))
  generalize mkN N4 (c + 0) 7 (12, 6) = N5 at r5 ⊢
  refine G_aload_n 49 hC rfl dX0_init_49 ?_
  refine G_bipush 50 hC (nI 40) (by decide) dX0_init_50 ?_
  refine G_newI 52 hC (rfl) (by omega) ar_int (by decide) (by decide) dX0_init_52 ?_
  refine G_putR 54 hC (fp_X0_35_0) (r5.su) rfl rfl dX0_init_54 ?_
  show g 57 _ _ _ _ (mkN N5 (c + 0) 8 (12, 40)) _ _
  have r6 : Rw shC rfC c N 6 (mkN N5 (c + 0) 8 (12, 40)) := Rw.mk r5 8 rfl rfl (rfC_u (by decide))
  generalize mkN N5 (c + 0) 8 (12, 40) = N6 at r6 ⊢
  refine G_aload_n 57 hC rfl dX0_init_57 ?_
  refine G_iconst 58 hC (nI 1) (by decide) dX0_init_58 ?_
  refine G_putI 59 hC (fp_X0_38_0 _) (r6.o0) rfl rfl rfl dX0_init_59 ?_
  refine G_aload_n 62 hC rfl dX0_init_62 ?_
  refine G_aload_n 63 hC rfl dX0_init_63 ?_
  refine G_putR 64 hC (fp_X0_42_0) (r6.o0) rfl rfl dX0_init_64 ?_
  refine G_aload_n 67 hC rfl dX0_init_67 ?_
  refine G_iload_n 68 hC rfl dX0_init_68 ?_
  refine G_putI 69 hC (fp_X0_46_0) (r6.o0) rfl rfl rfl dX0_init_69 ?_
  refine G_aload_n 72 hC rfl dX0_init_72 ?_
  refine G_iload_n 73 hC rfl dX0_init_73 ?_
  refine G_putI 74 hC (fp_X0_49_0) (r6.o0) rfl (by rcases hbs with h | h <;> rw [h] <;> rfl) (by rcases hbs with h | h <;> rw [h] <;> rfl) dX0_init_74 ?_
  refine G_iconst 77 hC (nI 0) (by decide) dX0_init_77 ?_
  refine G_istore 78 hC (by decide) (ls' := [_, _, _, _, _]) rfl dX0_init_78 ?_
  exact G_wide hC (by decide) (by decide) (loop1 _ 0 _ rfl (Nat.zero_le _) (RwW.of r6))
end G6

/-! ===== the law, from its entry to its end ===== -/
section LAW3
variable {mn : String} {l : Launch} {D : va_G} {B b len : Nat} {g : GT} {N : NT} {I : MI} {L : ML}
theorem law_go (hC : Cx l D B RL cL_law 4 mn RR g) (hs : N.2.1 b = (20, len)) (hb : b < N.2.2) (hln : len ≤ 4098) (hend : ∀ ls I L N kc ks, kc ≤ 600000 → ks ≤ 7302250 → g 1115 ls [vi (nI 1)] I L N kc ks) : g 0 [some (vr (some b)), none, none, none] [] I L N 0 0 := by
  have hln2 : len < 2 ^ 31 := by omega
  refine G_zero hC (fun hZ => ?_)
  obtain ⟨Nr, Ns, X⟩ := N
  have hbX : b < X := hb
  refine G_new 0 hC (ci := 10) (RX11, TX11, 6) rfl cl_L_7 it_X11 in_X11 (by decide) (by decide) dL_law_0 ?_
  have hs1 : up Ns X (10, 6) b = (20, len) := by rw [up_ne (by omega)]; exact hs
  refine G_dup 3 hC rfl dL_law_3 ?_
  refine G_aload_n 4 hC rfl dL_law_4 ?_
  refine G_iconst 5 hC (nI 0) (by decide) dL_law_5 ?_
  refine G_callS1 6 hC (c_cell (j := 0) hs1 hln2 (by omega)) okL_cell lk_L_9 rfl rfl rfl (Nat.le_of_ble_eq_true rfl) ⟨by decide, by decide⟩ ⟨by decide, by decide⟩ dL_law_6 ?_
  refine G_aload_n 9 hC rfl dL_law_9 ?_
  refine G_iconst 10 hC (nI 1) (by decide) dL_law_10 ?_
  refine G_callS1 11 hC (c_cell (j := 1) hs1 hln2 (by omega)) okL_cell lk_L_9 rfl rfl rfl (Nat.le_of_ble_eq_true rfl) ⟨by decide, by decide⟩ ⟨by decide, by decide⟩ dL_law_11 ?_
  obtain ⟨x, hx⟩ : ∃ x, (if 0 < len then I b 0 else nI 0) = x := ⟨_, rfl⟩
  obtain ⟨y, hy⟩ : ∃ y, (if 1 < len then I b 1 else nI 0) = y := ⟨_, rfl⟩
  rw [hx, hy]
  refine G_callI 14 hC (g_X_init (X := X) (x := x) (y := y) (up_s _ _ _)) okX11_init lk_L_15 rfl rfl (Nat.le_of_ble_eq_true rfl) ⟨by decide, by decide⟩ ⟨by decide, by decide⟩ dL_law_14 (fun v1 I1 L1 N1 q1 => ?_)
  obtain ⟨ev, eI, eL, hA, hz1, hlow⟩ := q1
  rw [ev]
  clear ev
  refine G_astore_n (ls' := [_, _, _, _]) 17 hC 1 rfl (by decide) rfl dL_law_17 ?_
  obtain ⟨Nr1, Ns1, Z1⟩ := N1
  have hz2 : Z1 = X + 111 := hz1
  subst hz2
  have e1 : I1 b = I b := by
    rw [eI, pt_out (by omega)]
    unfold IX0
    rw [co3_ne (by omega), co3_ne (by omega), co3_ne (by omega), upd2_ne (by omega), upd2_ne (by omega)]
  have hs2 : Ns1 b = (20, len) := ((hlow b hbX).1).trans hs1
  refine G_new 18 hC (ci := 11) (RX12, TX12, 36) rfl cl_L_18 it_X12 in_X12 (by decide) (by decide) dL_law_18 ?_
  have hs3 : up Ns1 (X + 111) (11, 36) b = (20, len) := by rw [up_ne (by omega)]; exact hs2
  refine G_dup 21 hC rfl dL_law_21 ?_
  refine G_aload_n 22 hC rfl dL_law_22 ?_
  refine G_iconst 23 hC (nI 0) (by decide) dL_law_23 ?_
  refine G_callS1 24 hC (c_cell (j := 0) hs3 hln2 (by omega)) okL_cell lk_L_9 rfl rfl rfl (Nat.le_of_ble_eq_true rfl) ⟨by decide, by decide⟩ ⟨by decide, by decide⟩ dL_law_24 ?_
  refine G_aload_n 27 hC rfl dL_law_27 ?_
  refine G_iconst 28 hC (nI 1) (by decide) dL_law_28 ?_
  refine G_callS1 29 hC (c_cell (j := 1) hs3 hln2 (by omega)) okL_cell lk_L_9 rfl rfl rfl (Nat.le_of_ble_eq_true rfl) ⟨by decide, by decide⟩ ⟨by decide, by decide⟩ dL_law_29 ?_
  rw [e1, hx, hy]
  refine G_callI 32 hC (g_ref_init (b := X + 111) (x := x) (y := y) (up_s _ _ _)) okX12_init lk_L_20 rfl rfl (Nat.le_of_ble_eq_true rfl) ⟨by decide, by decide⟩ ⟨by decide, by decide⟩ dL_law_32 (fun v2 I2 L2 N2 q2 => ?_)
  obtain ⟨ev, eI2, eL2, hRw⟩ := q2
  rw [ev]
  clear ev
  refine G_astore_n (ls' := [_, _, _, _]) 35 hC 2 rfl (by decide) rfl dL_law_35 ?_
  refine G_iconst 36 hC (nI 2) (by decide) dL_law_36 ?_
  refine G_istore_n (ls' := [_, _, _, _]) 37 hC 3 rfl (by decide) rfl dL_law_37 ?_
  have hF := hRw.fixR
  obtain ⟨w1, -, -, w4⟩ := hRw
  have hA2 : FixA X N2 := FixA.keep hA (fun a h1 h2 => by
    obtain ⟨c1, c2⟩ := w4 a (by omega)
    refine ⟨c1.trans ?_, c2⟩
    show up Ns1 (X + 111) (11, 36) a = Ns1 a
    exact up_ne (by omega))
  have hG := start_inv (X := X) (I := I) (I1 := I1) (L := L) (L1 := L1) (N := N2) (x := x) (y := y) (fun a ha j => ⟨((hZ a ha).2 j).1, ((hZ a ha).2 j).2.1⟩) hA2 hF (by omega) eI eL
  rw [← eI2, ← eL2] at hG
  have hs4 : N2.2.1 b = (20, len) := ((w4 b (by omega)).1).trans hs3
  exact law_loop hC hbX hln hend (len + 1) 0 I2 L2 N2 _ _ (by omega) (by omega) hG hs4 (by decide) (by decide)
end LAW3

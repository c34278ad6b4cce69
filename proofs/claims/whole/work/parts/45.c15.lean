/-! ===== the class: lost lines ===== -/
section TI
variable {l : Launch} {D : va_G} {B : Nat} {cc : ByteArray} {nL : Nat} {mn : String} {R : Room} {g : GT} {ls : List (Option MV)} {st : List MV} {N : NT} {kc ks : Nat} {I : MI} {L : ML}
theorem T_instIf (pc tgt : Nat) (hC : Cx l D B RX0 cc nL mn R g) {a : Nat} (hT : TkS N a) {off : Int} (hd : decode cc pc = .ok (.instanceof 197, 3)) (hd2 : decode cc (pc + 3) = .ok (.ifCond .eq off, 3)) (ht : ((pc + 3 : Nat) : Int) + off = (tgt : Int)) (kY : N.2.1 a = (7, 7) → g (pc + 3 + 3) ls st I L N kc ks) (kN : ¬ N.2.1 a = (7, 7) → g tgt ls st I L N kc ks) : g pc ls (vr (some a) :: st) I L N kc ks := by
  rcases hT with h | h | h
  · exact G_instNo pc hC (q := (RX9, TX9, 6)) h rfl (Or.inl rfl) cl_X0_197 hd (G_if_eq (pc + 3) tgt hC hd2 ht (fun _ => kN (by rw [h]; decide)) (fun q => absurd rfl q))
  · exact G_instNo pc hC (q := (RX5, TX5, 5)) h rfl (Or.inr rfl) cl_X0_197 hd (G_if_eq (pc + 3) tgt hC hd2 ht (fun _ => kN (by rw [h]; decide)) (fun q => absurd rfl q))
  · exact G_instY pc hC (q := (RX7, TX7, 7)) h rfl cl_X0_197 hd (G_if_eq (pc + 3) tgt hC hd2 ht (fun q => absurd q (by decide)) (fun _ => kY h))
end TI
def F_ls (k G : MI) (N : NT) (P : Nat) (y : Int32) : Nat → Nat → Int32 → Int32
  | 0, _, x => x
  | f + 1, i, x => F_ls k G N P y f (i + 1) (if N.2.1 (tkA N P i) = (7, 7) ∧ G (tkA N P i) 4 = y then x + k (7 + i) 6 else x)
section C15
variable {l : Launch} {D : va_G} {B c P : Nat} {N : NT} {k G k2 : MI} {kl GL kl2 : ML} {L : ML}
theorem c_lostOf (hX : FixC c P N) (hP : FixP c P N) {nt : Nat} {y : Int32} (hnt : G P 5 = nI nt) (hnt2 : nt ≤ 20) (hT : TkOk c P N nt) : Cq l D B mX0_lostOf [vr (some (c + 0)), vi y] (pt c 35 k G) L N (some (vi (F_ls k G N P y nt 0 (nI 0)))) (pt c 35 k G) L := by
  have hB := hX.b
  obtain ⟨Z, hE0⟩ : ∃ Z, F_ls k G N P y nt 0 (nI 0) = Z := ⟨_, rfl⟩
  rw [hE0]
  refine Ct.of (M := mX0_lostOf) (by decide) (Nat.le_of_ble_eq_true rfl) (fun g (hR : Cr l D B RX0 cX0_lostOf 6 "lostOf" { frames := 0, cells := 0, slots := 0, locals := 0 } (some .int) 0 0 _ g) => ?_)
  have hC := hR.cx
  have loop : ∀ (f i : Nat) (x : Int32) (x4 x5 : Option MV), (x4 = none ∨ ∃ p, x4 = some (vr p)) → nt - i = f → i ≤ nt → F_ls k G N P y f i x = Z → g 4 [some (vr (some (c + 0))), some (vi y), some (vi x), some (vi (nI i)), x4, x5] [] (pt c 35 k G) L N 0 0 := by
    intro f
    induction f using Nat.strongRecOn with
    | _ f ih =>
      intro i x x4 x5 hx4 hf hi hE
      refine G_iload_n 4 hC rfl dX0_lostOf_4 ?_
      refine G_aload_n 5 hC rfl dX0_lostOf_5 ?_
      refine G_getR 6 hC fl_X0_42_0 (hB _ _ (rfl) (by decide)) (hX.plan) rfl dX0_lostOf_6 ?_
      refine O_getI 9 hC (hP.sh) (hP.out) fl_X0_102_4 rfl dX0_lostOf_9 ?_
      rw [hnt]
      refine G_icmp_ge 12 68 hC dX0_lostOf_12 (by decide) (fun h12 => ?_) (fun h12 => ?_)
      · refine G_iload_n 68 hC rfl dX0_lostOf_68 ?_
        refine R_i 69 hR (by first | rfl | exact narrow_bI _) dX0_lostOf_69 (Nat.le_refl _) (Nat.le_refl _) ?_
        have q := (nI_leI (by omega) (by omega)).mp h12
        have q2 : f = 0 := by omega
        subst q2
        rw [← hE]
        exact ⟨rfl, rfl, rfl, rfl⟩
      · have a12 : i < nt := by
          rcases Nat.lt_or_ge i nt with q | q
          · exact q
          · exact absurd ((nI_leI (by omega) (by omega)).mpr q) h12
        obtain ⟨a, hTr, hTs, hTo⟩ := hT i a12
        obtain ⟨f, rfl⟩ : ∃ f1, f = f1 + 1 := ⟨f - 1, by omega⟩
        refine G_aload_n 15 hC rfl dX0_lostOf_15 ?_
        refine G_getR 16 hC fl_X0_42_0 (hB _ _ (rfl) (by decide)) (hX.plan) rfl dX0_lostOf_16 ?_
        refine G_getR 19 hC fl_X0_142_4 (hP.sh) (hP.rtk) rfl dX0_lostOf_19 ?_
        refine G_iload_n 22 hC rfl dX0_lostOf_22 ?_
        refine G_aald 23 hC (hP.tk) (by decide) (by decide) (rfl) (by omega) (by omega) (hTr) dX0_lostOf_23 ?_
        rcases hx4 with rfl | ⟨p4, rfl⟩
        · refine G_astore 24 hC (by decide) (ls' := [_, _, _, _, _, _]) rfl dX0_lostOf_24 ?_
          refine G_aload 26 hC rfl dX0_lostOf_26 ?_
          refine T_instIf 28 62 hC hTs dX0_lostOf_28 dX0_lostOf_31 (by decide) (fun hk => ?_) (fun hk => ?_)
          · refine G_aload 34 hC rfl dX0_lostOf_34 ?_
            refine G_castY 36 hC (q := (RX7, TX7, 7)) hk rfl cl_X0_197 dX0_lostOf_36 ?_
            refine G_astore 39 hC (by decide) (ls' := [_, _, _, _, _, _]) rfl dX0_lostOf_39 ?_
            refine G_aload 41 hC rfl dX0_lostOf_41 ?_
            refine O_getI 43 hC hk hTo fl_X0_199_7 rfl dX0_lostOf_43 ?_
            refine G_iload_n 46 hC rfl dX0_lostOf_46 ?_
            refine G_icmp_ne 47 62 hC dX0_lostOf_47 (by decide) (fun h47 => ?_) (fun h47 => ?_)
            · first | refine G_iincN 62 hC (by decide) rfl (ls' := [_, _, _, _, _, _]) rfl dX0_lostOf_62 ?_ | refine G_iinc 62 hC _ rfl (by decide) rfl (ls' := [_, _, _, _, _, _]) rfl dX0_lostOf_62 ?_
              refine G_goto 65 4 hC dX0_lostOf_65 (by decide) ?_
              refine ih f (Nat.lt_succ_self f) (i + 1) _ _ _ (by first | exact Or.inl rfl | exact Or.inr ⟨_, rfl⟩) (by omega) (by omega) ?_
              rw [← hE]
              show F_ls k G N P y f (i + 1) _ = F_ls k G N P y f (i + 1) _
              refine congrArg (F_ls k G N P y f (i + 1)) ?_
              rw [tkA_of hTr]
              first | (rw [if_neg (fun q => hk q.1)]; done) | (rw [if_neg (fun q => h47 q.2)]; done) | (rw [if_pos (And.intro hk h47)]; done)
            · refine G_iload_n 50 hC rfl dX0_lostOf_50 ?_
              refine G_aload_n 51 hC rfl dX0_lostOf_51 ?_
              refine G_getR 52 hC fl_X0_11_0 (hB _ _ (rfl) (by decide)) (hX.works) rfl dX0_lostOf_52 ?_
              refine G_iload_n 55 hC rfl dX0_lostOf_55 ?_
              refine G_aald 56 hC (hB _ _ (rfl) (by decide)) (by decide) (by decide) (rfl) (by omega) (by omega) (hX.wk (by omega)) dX0_lostOf_56 ?_
              refine B_getI 57 hC hB (shC_w (by omega)) fl_X0_206_9 rfl dX0_lostOf_57 ?_
              refine G_iadd 60 hC dX0_lostOf_60 ?_
              refine G_istore_n 61 hC 2 rfl (by decide) (ls' := [_, _, _, _, _, _]) rfl dX0_lostOf_61 ?_
              first | refine G_iincN 62 hC (by decide) rfl (ls' := [_, _, _, _, _, _]) rfl dX0_lostOf_62 ?_ | refine G_iinc 62 hC _ rfl (by decide) rfl (ls' := [_, _, _, _, _, _]) rfl dX0_lostOf_62 ?_
              refine G_goto 65 4 hC dX0_lostOf_65 (by decide) ?_
              refine ih f (Nat.lt_succ_self f) (i + 1) _ _ _ (by first | exact Or.inl rfl | exact Or.inr ⟨_, rfl⟩) (by omega) (by omega) ?_
              rw [← hE]
              show F_ls k G N P y f (i + 1) _ = F_ls k G N P y f (i + 1) _
              refine congrArg (F_ls k G N P y f (i + 1)) ?_
              rw [tkA_of hTr]
              first | (rw [if_neg (fun q => hk q.1)]; done) | (rw [if_neg (fun q => h47 q.2)]; done) | (rw [if_pos (And.intro hk h47)]; done)
          · first | refine G_iincN 62 hC (by decide) rfl (ls' := [_, _, _, _, _, _]) rfl dX0_lostOf_62 ?_ | refine G_iinc 62 hC _ rfl (by decide) rfl (ls' := [_, _, _, _, _, _]) rfl dX0_lostOf_62 ?_
            refine G_goto 65 4 hC dX0_lostOf_65 (by decide) ?_
            refine ih f (Nat.lt_succ_self f) (i + 1) _ _ _ (by first | exact Or.inl rfl | exact Or.inr ⟨_, rfl⟩) (by omega) (by omega) ?_
            rw [← hE]
            show F_ls k G N P y f (i + 1) _ = F_ls k G N P y f (i + 1) _
            refine congrArg (F_ls k G N P y f (i + 1)) ?_
            rw [tkA_of hTr]
            first | (rw [if_neg (fun q => hk q.1)]; done) | (rw [if_neg (fun q => h47 q.2)]; done) | (rw [if_pos (And.intro hk h47)]; done)
        · refine G_astore 24 hC (by decide) (ls' := [_, _, _, _, _, _]) rfl dX0_lostOf_24 ?_
          refine G_aload 26 hC rfl dX0_lostOf_26 ?_
          refine T_instIf 28 62 hC hTs dX0_lostOf_28 dX0_lostOf_31 (by decide) (fun hk => ?_) (fun hk => ?_)
          · refine G_aload 34 hC rfl dX0_lostOf_34 ?_
            refine G_castY 36 hC (q := (RX7, TX7, 7)) hk rfl cl_X0_197 dX0_lostOf_36 ?_
            refine G_astore 39 hC (by decide) (ls' := [_, _, _, _, _, _]) rfl dX0_lostOf_39 ?_
            refine G_aload 41 hC rfl dX0_lostOf_41 ?_
            refine O_getI 43 hC hk hTo fl_X0_199_7 rfl dX0_lostOf_43 ?_
            refine G_iload_n 46 hC rfl dX0_lostOf_46 ?_
            refine G_icmp_ne 47 62 hC dX0_lostOf_47 (by decide) (fun h47 => ?_) (fun h47 => ?_)
            · first | refine G_iincN 62 hC (by decide) rfl (ls' := [_, _, _, _, _, _]) rfl dX0_lostOf_62 ?_ | refine G_iinc 62 hC _ rfl (by decide) rfl (ls' := [_, _, _, _, _, _]) rfl dX0_lostOf_62 ?_
              refine G_goto 65 4 hC dX0_lostOf_65 (by decide) ?_
              refine ih f (Nat.lt_succ_self f) (i + 1) _ _ _ (by first | exact Or.inl rfl | exact Or.inr ⟨_, rfl⟩) (by omega) (by omega) ?_
              rw [← hE]
              show F_ls k G N P y f (i + 1) _ = F_ls k G N P y f (i + 1) _
              refine congrArg (F_ls k G N P y f (i + 1)) ?_
              rw [tkA_of hTr]
              first | (rw [if_neg (fun q => hk q.1)]; done) | (rw [if_neg (fun q => h47 q.2)]; done) | (rw [if_pos (And.intro hk h47)]; done)
            · refine G_iload_n 50 hC rfl dX0_lostOf_50 ?_
              refine G_aload_n 51 hC rfl dX0_lostOf_51 ?_
              refine G_getR 52 hC fl_X0_11_0 (hB _ _ (rfl) (by decide)) (hX.works) rfl dX0_lostOf_52 ?_
              refine G_iload_n 55 hC rfl dX0_lostOf_55 ?_
              refine G_aald 56 hC (hB _ _ (rfl) (by decide)) (by decide) (by decide) (rfl) (by omega) (by omega) (hX.wk (by omega)) dX0_lostOf_56 ?_
              refine B_getI 57 hC hB (shC_w (by omega)) fl_X0_206_9 rfl dX0_lostOf_57 ?_
              refine G_iadd 60 hC dX0_lostOf_60 ?_
              refine G_istore_n 61 hC 2 rfl (by decide) (ls' := [_, _, _, _, _, _]) rfl dX0_lostOf_61 ?_
              first | refine G_iincN 62 hC (by decide) rfl (ls' := [_, _, _, _, _, _]) rfl dX0_lostOf_62 ?_ | refine G_iinc 62 hC _ rfl (by decide) rfl (ls' := [_, _, _, _, _, _]) rfl dX0_lostOf_62 ?_
              refine G_goto 65 4 hC dX0_lostOf_65 (by decide) ?_
              refine ih f (Nat.lt_succ_self f) (i + 1) _ _ _ (by first | exact Or.inl rfl | exact Or.inr ⟨_, rfl⟩) (by omega) (by omega) ?_
              rw [← hE]
              show F_ls k G N P y f (i + 1) _ = F_ls k G N P y f (i + 1) _
              refine congrArg (F_ls k G N P y f (i + 1)) ?_
              rw [tkA_of hTr]
              first | (rw [if_neg (fun q => hk q.1)]; done) | (rw [if_neg (fun q => h47 q.2)]; done) | (rw [if_pos (And.intro hk h47)]; done)
          · first | refine G_iincN 62 hC (by decide) rfl (ls' := [_, _, _, _, _, _]) rfl dX0_lostOf_62 ?_ | refine G_iinc 62 hC _ rfl (by decide) rfl (ls' := [_, _, _, _, _, _]) rfl dX0_lostOf_62 ?_
            refine G_goto 65 4 hC dX0_lostOf_65 (by decide) ?_
            refine ih f (Nat.lt_succ_self f) (i + 1) _ _ _ (by first | exact Or.inl rfl | exact Or.inr ⟨_, rfl⟩) (by omega) (by omega) ?_
            rw [← hE]
            show F_ls k G N P y f (i + 1) _ = F_ls k G N P y f (i + 1) _
            refine congrArg (F_ls k G N P y f (i + 1)) ?_
            rw [tkA_of hTr]
            first | (rw [if_neg (fun q => hk q.1)]; done) | (rw [if_neg (fun q => h47 q.2)]; done) | (rw [if_pos (And.intro hk h47)]; done)
  show g 0 [some (vr (some (c + 0))), some (vi y), none, none, none, none] [] _ _ N 0 0
  refine G_iconst 0 hC (nI 0) (by decide) dX0_lostOf_0 ?_
  refine G_istore_n 1 hC 2 rfl (by decide) (ls' := [_, _, _, _, _, _]) rfl dX0_lostOf_1 ?_
  refine G_iconst 2 hC (nI 0) (by decide) dX0_lostOf_2 ?_
  refine G_istore_n 3 hC 3 rfl (by decide) (ls' := [_, _, _, _, _, _]) rfl dX0_lostOf_3 ?_
  exact loop _ 0 _ none none (Or.inl rfl) rfl (Nat.zero_le _) hE0
end C15

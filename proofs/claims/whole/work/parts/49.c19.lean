/-! ===== the class: two courses found the same ===== -/
theorem OutD {c d o : Nat} (h : d + 35 ≤ c ∨ c + 35 ≤ d) (ho : o < 35) : OutC c (d + o) := h.elim (fun q => Or.inl (by omega)) (fun q => Or.inr (by omega))
abbrev EA (k G : MI) (a d t : Nat) : Prop := (G a 0 = nI 4 → (k (7 + t) 0 = nI 4 ↔ G (d + (7 + t)) 0 = nI 4)) ∧ (¬ G a 0 = nI 4 → (¬ k 0 15 = -9 ∧ k 0 15 < nI t) ∨ (k (7 + t) 0 = G (d + (7 + t)) 0 ∧ k (7 + t) 1 = G (d + (7 + t)) 1))
section C19
variable {l : Launch} {D : va_G} {B c d P : Nat} {N : NT} {k G : MI} {kl GL : ML} {L : ML}
theorem c_endedAs (hX : FixC c P N) (hY : FixC d P N) (hP : FixP c P N) (hcd : d + 35 ≤ c ∨ c + 35 ≤ d) {t a : Nat} (ht : t < 20) (hTr : N.1 (P + 2) t = some a) (hTs : TkS N a) (hTo : OutC c a) : Cq l D B mX0_endedAs [vr (some (c + 0)), vr (some (d + 0)), vi (nI t)] (pt c 35 k G) L N (some (vi (bI (EA k G a d t)))) (pt c 35 k G) L := by
  have hB := hX.b
  have hD := hY.b
  refine Ct.of (M := mX0_endedAs) (by decide) (Nat.le_of_ble_eq_true rfl) (fun g (hR : Cr l D B RX0 cX0_endedAs 5 "endedAs" { frames := 1, cells := 0, slots := 0, locals := 20 } (some .boolean) 0 0 _ g) => ?_)
  have hC := hR.cx
  show g 0 [some (vr (some (c + 0))), some (vr (some (d + 0))), some (vi (nI t)), none, none] [] _ _ N 0 0
  refine G_aload_n 0 hC rfl dX0_endedAs_0 ?_
  refine G_getR 1 hC fl_X0_11_0 (hB _ _ (rfl) (by decide)) (hX.works) rfl dX0_endedAs_1 ?_
  refine G_iload_n 4 hC rfl dX0_endedAs_4 ?_
  refine G_aald 5 hC (hB _ _ (rfl) (by decide)) (by decide) (by decide) (rfl) (by omega) (by omega) (hX.wk (by omega)) dX0_endedAs_5 ?_
  refine G_astore_n 6 hC 3 rfl (by decide) (ls' := [_, _, _, _, _]) rfl dX0_endedAs_6 ?_
  refine G_aload_n 7 hC rfl dX0_endedAs_7 ?_
  refine G_getR 8 hC fl_X0_11_0 (hD 0 _ rfl (by decide)) (hY.works) rfl dX0_endedAs_8 ?_
  refine G_iload_n 11 hC rfl dX0_endedAs_11 ?_
  refine G_aald 12 hC (hD 1 _ rfl (by decide)) (by decide) (by decide) (rfl) (by omega) (by omega) (hY.wk (by omega)) dX0_endedAs_12 ?_
  refine G_astore 13 hC (by decide) (ls' := [_, _, _, _, _]) rfl dX0_endedAs_13 ?_
  refine G_aload_n 15 hC rfl dX0_endedAs_15 ?_
  refine G_getR 16 hC fl_X0_42_0 (hB _ _ (rfl) (by decide)) (hX.plan) rfl dX0_endedAs_16 ?_
  refine G_getR 19 hC fl_X0_142_4 (hP.sh) (hP.rtk) rfl dX0_endedAs_19 ?_
  refine G_iload_n 22 hC rfl dX0_endedAs_22 ?_
  refine G_aald 23 hC (hP.tk) (by decide) (by decide) (rfl) (by omega) (by omega) (hTr) dX0_endedAs_23 ?_
  refine T_isWay 24 hC hTs hTo (by decide) (by decide) (by decide) dX0_endedAs_24 ?_
  first | refine G_if_ne_b 27 66 hC dX0_endedAs_27 (by decide) (fun h27 => ?_) (fun h27 => ?_) | refine G_if_ne 27 66 hC dX0_endedAs_27 (by decide) (fun h27 => ?_) (fun h27 => ?_)
  · refine G_aload_n 66 hC rfl dX0_endedAs_66 ?_
    refine B_getI 67 hC hB (rfl) fl_X0_90_0 rfl dX0_endedAs_67 ?_
    refine G_bipush 70 hC (-9) (by decide) dX0_endedAs_70 ?_
    refine G_icmp_eq 72 85 hC dX0_endedAs_72 (by decide) (fun h72 => ?_) (fun h72 => ?_)
    · refine G_aload_n 85 hC rfl dX0_endedAs_85 ?_
      refine B_getI 86 hC hB (shC_w (by omega)) fl_X0_135_9 rfl dX0_endedAs_86 ?_
      refine G_aload 89 hC rfl dX0_endedAs_89 ?_
      refine O_getI 91 hC (hD _ _ (shC_w (by omega)) (by decide)) (OutD hcd (by omega)) fl_X0_135_9 rfl dX0_endedAs_91 ?_
      refine G_icmp_ne 94 113 hC dX0_endedAs_94 (by decide) (fun h94 => ?_) (fun h94 => ?_)
      · refine G_iconst 113 hC (nI 0) (by decide) dX0_endedAs_113 ?_
        refine R_i 114 hR (by first | rfl | exact narrow_bI _) dX0_endedAs_114 (Nat.le_refl _) (Nat.le_refl _) ?_
        refine ⟨?_, rfl, rfl, rfl⟩
        clear hR hC
        first | (exfalso; revert h57; decide; done) | (refine congrArg (fun z => some (vi z)) (bI_t ?_); unfold EA; grind) | (refine congrArg (fun z => some (vi z)) (bI_f ?_); unfold EA; grind)
      · refine G_aload_n 97 hC rfl dX0_endedAs_97 ?_
        refine B_getI 98 hC hB (shC_w (by omega)) fl_X0_229_9 rfl dX0_endedAs_98 ?_
        refine G_aload 101 hC rfl dX0_endedAs_101 ?_
        refine O_getI 103 hC (hD _ _ (shC_w (by omega)) (by decide)) (OutD hcd (by omega)) fl_X0_229_9 rfl dX0_endedAs_103 ?_
        refine G_icmp_ne 106 113 hC dX0_endedAs_106 (by decide) (fun h106 => ?_) (fun h106 => ?_)
        · refine G_iconst 113 hC (nI 0) (by decide) dX0_endedAs_113 ?_
          refine R_i 114 hR (by first | rfl | exact narrow_bI _) dX0_endedAs_114 (Nat.le_refl _) (Nat.le_refl _) ?_
          refine ⟨?_, rfl, rfl, rfl⟩
          clear hR hC
          first | (exfalso; revert h57; decide; done) | (refine congrArg (fun z => some (vi z)) (bI_t ?_); unfold EA; grind) | (refine congrArg (fun z => some (vi z)) (bI_f ?_); unfold EA; grind)
        · refine G_iconst 109 hC (nI 1) (by decide) dX0_endedAs_109 ?_
          refine G_goto 110 114 hC dX0_endedAs_110 (by decide) ?_
          refine R_i 114 hR (by first | rfl | exact narrow_bI _) dX0_endedAs_114 (Nat.le_refl _) (Nat.le_refl _) ?_
          refine ⟨?_, rfl, rfl, rfl⟩
          clear hR hC
          first | (exfalso; revert h57; decide; done) | (refine congrArg (fun z => some (vi z)) (bI_t ?_); unfold EA; grind) | (refine congrArg (fun z => some (vi z)) (bI_f ?_); unfold EA; grind)
    · refine G_iload_n 75 hC rfl dX0_endedAs_75 ?_
      refine G_aload_n 76 hC rfl dX0_endedAs_76 ?_
      refine B_getI 77 hC hB (rfl) fl_X0_90_0 rfl dX0_endedAs_77 ?_
      refine G_icmp_le 80 85 hC dX0_endedAs_80 (by decide) (fun h80 => ?_) (fun h80 => ?_)
      · refine G_aload_n 85 hC rfl dX0_endedAs_85 ?_
        refine B_getI 86 hC hB (shC_w (by omega)) fl_X0_135_9 rfl dX0_endedAs_86 ?_
        refine G_aload 89 hC rfl dX0_endedAs_89 ?_
        refine O_getI 91 hC (hD _ _ (shC_w (by omega)) (by decide)) (OutD hcd (by omega)) fl_X0_135_9 rfl dX0_endedAs_91 ?_
        refine G_icmp_ne 94 113 hC dX0_endedAs_94 (by decide) (fun h94 => ?_) (fun h94 => ?_)
        · refine G_iconst 113 hC (nI 0) (by decide) dX0_endedAs_113 ?_
          refine R_i 114 hR (by first | rfl | exact narrow_bI _) dX0_endedAs_114 (Nat.le_refl _) (Nat.le_refl _) ?_
          refine ⟨?_, rfl, rfl, rfl⟩
          clear hR hC
          first | (exfalso; revert h57; decide; done) | (refine congrArg (fun z => some (vi z)) (bI_t ?_); unfold EA; grind) | (refine congrArg (fun z => some (vi z)) (bI_f ?_); unfold EA; grind)
        · refine G_aload_n 97 hC rfl dX0_endedAs_97 ?_
          refine B_getI 98 hC hB (shC_w (by omega)) fl_X0_229_9 rfl dX0_endedAs_98 ?_
          refine G_aload 101 hC rfl dX0_endedAs_101 ?_
          refine O_getI 103 hC (hD _ _ (shC_w (by omega)) (by decide)) (OutD hcd (by omega)) fl_X0_229_9 rfl dX0_endedAs_103 ?_
          refine G_icmp_ne 106 113 hC dX0_endedAs_106 (by decide) (fun h106 => ?_) (fun h106 => ?_)
          · refine G_iconst 113 hC (nI 0) (by decide) dX0_endedAs_113 ?_
            refine R_i 114 hR (by first | rfl | exact narrow_bI _) dX0_endedAs_114 (Nat.le_refl _) (Nat.le_refl _) ?_
            refine ⟨?_, rfl, rfl, rfl⟩
            clear hR hC
            first | (exfalso; revert h57; decide; done) | (refine congrArg (fun z => some (vi z)) (bI_t ?_); unfold EA; grind) | (refine congrArg (fun z => some (vi z)) (bI_f ?_); unfold EA; grind)
          · refine G_iconst 109 hC (nI 1) (by decide) dX0_endedAs_109 ?_
            refine G_goto 110 114 hC dX0_endedAs_110 (by decide) ?_
            refine R_i 114 hR (by first | rfl | exact narrow_bI _) dX0_endedAs_114 (Nat.le_refl _) (Nat.le_refl _) ?_
            refine ⟨?_, rfl, rfl, rfl⟩
            clear hR hC
            first | (exfalso; revert h57; decide; done) | (refine congrArg (fun z => some (vi z)) (bI_t ?_); unfold EA; grind) | (refine congrArg (fun z => some (vi z)) (bI_f ?_); unfold EA; grind)
      · have h80b := Int32.not_le.mp h80
        refine G_iconst 83 hC (nI 1) (by decide) dX0_endedAs_83 ?_
        refine R_i 84 hR (by first | rfl | exact narrow_bI _) dX0_endedAs_84 (Nat.le_refl _) (Nat.le_refl _) ?_
        exact ⟨congrArg (fun z => some (vi z)) (bI_t ⟨fun q => absurd q h27, fun _ => Or.inl ⟨h72, h80b⟩⟩), rfl, rfl, rfl⟩
  · refine G_aload_n 30 hC rfl dX0_endedAs_30 ?_
    refine B_getI 31 hC hB (shC_w (by omega)) fl_X0_135_9 rfl dX0_endedAs_31 ?_
    refine G_iconst 34 hC (nI 4) (by decide) dX0_endedAs_34 ?_
    refine G_icmp_ne 35 42 hC dX0_endedAs_35 (by decide) (fun h35 => ?_) (fun h35 => ?_)
    · refine G_iconst 42 hC (nI 0) (by decide) dX0_endedAs_42 ?_
      refine G_aload 43 hC rfl dX0_endedAs_43 ?_
      refine O_getI 45 hC (hD _ _ (shC_w (by omega)) (by decide)) (OutD hcd (by omega)) fl_X0_135_9 rfl dX0_endedAs_45 ?_
      refine G_iconst 48 hC (nI 4) (by decide) dX0_endedAs_48 ?_
      refine G_icmp_ne 49 56 hC dX0_endedAs_49 (by decide) (fun h49 => ?_) (fun h49 => ?_)
      · refine G_iconst 56 hC (nI 0) (by decide) dX0_endedAs_56 ?_
        refine G_icmp_ne 57 64 hC dX0_endedAs_57 (by decide) (fun h57 => ?_) (fun h57 => ?_)
        · refine G_iconst 64 hC (nI 0) (by decide) dX0_endedAs_64 ?_
          refine R_i 65 hR (by first | rfl | exact narrow_bI _) dX0_endedAs_65 (Nat.le_refl _) (Nat.le_refl _) ?_
          refine ⟨?_, rfl, rfl, rfl⟩
          clear hR hC
          first | (exfalso; revert h57; decide; done) | (refine congrArg (fun z => some (vi z)) (bI_t ?_); unfold EA; grind) | (refine congrArg (fun z => some (vi z)) (bI_f ?_); unfold EA; grind)
        · refine G_iconst 60 hC (nI 1) (by decide) dX0_endedAs_60 ?_
          refine G_goto 61 65 hC dX0_endedAs_61 (by decide) ?_
          refine R_i 65 hR (by first | rfl | exact narrow_bI _) dX0_endedAs_65 (Nat.le_refl _) (Nat.le_refl _) ?_
          refine ⟨?_, rfl, rfl, rfl⟩
          clear hR hC
          first | (exfalso; revert h57; decide; done) | (refine congrArg (fun z => some (vi z)) (bI_t ?_); unfold EA; grind) | (refine congrArg (fun z => some (vi z)) (bI_f ?_); unfold EA; grind)
      · refine G_iconst 52 hC (nI 1) (by decide) dX0_endedAs_52 ?_
        refine G_goto 53 57 hC dX0_endedAs_53 (by decide) ?_
        refine G_icmp_ne 57 64 hC dX0_endedAs_57 (by decide) (fun h57 => ?_) (fun h57 => ?_)
        · refine G_iconst 64 hC (nI 0) (by decide) dX0_endedAs_64 ?_
          refine R_i 65 hR (by first | rfl | exact narrow_bI _) dX0_endedAs_65 (Nat.le_refl _) (Nat.le_refl _) ?_
          refine ⟨?_, rfl, rfl, rfl⟩
          clear hR hC
          first | (exfalso; revert h57; decide; done) | (refine congrArg (fun z => some (vi z)) (bI_t ?_); unfold EA; grind) | (refine congrArg (fun z => some (vi z)) (bI_f ?_); unfold EA; grind)
        · refine G_iconst 60 hC (nI 1) (by decide) dX0_endedAs_60 ?_
          refine G_goto 61 65 hC dX0_endedAs_61 (by decide) ?_
          refine R_i 65 hR (by first | rfl | exact narrow_bI _) dX0_endedAs_65 (Nat.le_refl _) (Nat.le_refl _) ?_
          refine ⟨?_, rfl, rfl, rfl⟩
          clear hR hC
          first | (exfalso; revert h57; decide; done) | (refine congrArg (fun z => some (vi z)) (bI_t ?_); unfold EA; grind) | (refine congrArg (fun z => some (vi z)) (bI_f ?_); unfold EA; grind)
    · refine G_iconst 38 hC (nI 1) (by decide) dX0_endedAs_38 ?_
      refine G_goto 39 43 hC dX0_endedAs_39 (by decide) ?_
      refine G_aload 43 hC rfl dX0_endedAs_43 ?_
      refine O_getI 45 hC (hD _ _ (shC_w (by omega)) (by decide)) (OutD hcd (by omega)) fl_X0_135_9 rfl dX0_endedAs_45 ?_
      refine G_iconst 48 hC (nI 4) (by decide) dX0_endedAs_48 ?_
      refine G_icmp_ne 49 56 hC dX0_endedAs_49 (by decide) (fun h49 => ?_) (fun h49 => ?_)
      · refine G_iconst 56 hC (nI 0) (by decide) dX0_endedAs_56 ?_
        refine G_icmp_ne 57 64 hC dX0_endedAs_57 (by decide) (fun h57 => ?_) (fun h57 => ?_)
        · refine G_iconst 64 hC (nI 0) (by decide) dX0_endedAs_64 ?_
          refine R_i 65 hR (by first | rfl | exact narrow_bI _) dX0_endedAs_65 (Nat.le_refl _) (Nat.le_refl _) ?_
          refine ⟨?_, rfl, rfl, rfl⟩
          clear hR hC
          first | (exfalso; revert h57; decide; done) | (refine congrArg (fun z => some (vi z)) (bI_t ?_); unfold EA; grind) | (refine congrArg (fun z => some (vi z)) (bI_f ?_); unfold EA; grind)
        · refine G_iconst 60 hC (nI 1) (by decide) dX0_endedAs_60 ?_
          refine G_goto 61 65 hC dX0_endedAs_61 (by decide) ?_
          refine R_i 65 hR (by first | rfl | exact narrow_bI _) dX0_endedAs_65 (Nat.le_refl _) (Nat.le_refl _) ?_
          refine ⟨?_, rfl, rfl, rfl⟩
          clear hR hC
          first | (exfalso; revert h57; decide; done) | (refine congrArg (fun z => some (vi z)) (bI_t ?_); unfold EA; grind) | (refine congrArg (fun z => some (vi z)) (bI_f ?_); unfold EA; grind)
      · refine G_iconst 52 hC (nI 1) (by decide) dX0_endedAs_52 ?_
        refine G_goto 53 57 hC dX0_endedAs_53 (by decide) ?_
        refine G_icmp_ne 57 64 hC dX0_endedAs_57 (by decide) (fun h57 => ?_) (fun h57 => ?_)
        · refine G_iconst 64 hC (nI 0) (by decide) dX0_endedAs_64 ?_
          refine R_i 65 hR (by first | rfl | exact narrow_bI _) dX0_endedAs_65 (Nat.le_refl _) (Nat.le_refl _) ?_
          refine ⟨?_, rfl, rfl, rfl⟩
          clear hR hC
          first | (exfalso; revert h57; decide; done) | (refine congrArg (fun z => some (vi z)) (bI_t ?_); unfold EA; grind) | (refine congrArg (fun z => some (vi z)) (bI_f ?_); unfold EA; grind)
        · refine G_iconst 60 hC (nI 1) (by decide) dX0_endedAs_60 ?_
          refine G_goto 61 65 hC dX0_endedAs_61 (by decide) ?_
          refine R_i 65 hR (by first | rfl | exact narrow_bI _) dX0_endedAs_65 (Nat.le_refl _) (Nat.le_refl _) ?_
          refine ⟨?_, rfl, rfl, rfl⟩
          clear hR hC
          first | (exfalso; revert h57; decide; done) | (refine congrArg (fun z => some (vi z)) (bI_t ?_); unfold EA; grind) | (refine congrArg (fun z => some (vi z)) (bI_f ?_); unfold EA; grind)
end C19

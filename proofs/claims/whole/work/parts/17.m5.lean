/-! ===== a reader's step of the reference ===== -/
def F_read (r : MI) (rl : ML) (t g0 : Nat) : Nat → Nat → Nat → (Nat → Int32) → (Nat → Int64) → Int32 × ((Nat → Int32) × (Nat → Int64))
  | 0, _, _, n, q => (nI 2, (n, q))
  | k + 1, ln, it, n, q =>
    if r 3 (20 * g0 + ln) < 0 then
      if r 6 t = nI 2 then (nI 3, (up n (12 * t + 1) (nI 1), q))
      else (nI 1, (up (up n (12 * t + 6) (n (12 * t + 6) + nI 1)) (12 * t + 7) (nI (ln + 1)), q))
    else if nI it < r 4 (r 3 (20 * g0 + ln)).toNatClampNeg then
      (nI 1, (up (up n (12 * t + 8) (nI (it + 1))) (12 * t + 4) (n (12 * t + 4) + nI 1), up q t (q t + F_worth (rl 5 (12 * (r 3 (20 * g0 + ln)).toNatClampNeg + it)))))
    else F_read r rl t g0 k (ln + 1) 0 (up (up n (12 * t + 7) (nI (ln + 1))) (12 * t + 8) (nI 0)) q
section FR
variable {r : MI} {rl : ML} {n : Nat → Int32} {q : Nat → Int64} {t g0 k ln it p z : Nat}
theorem F_read_m1 (hp : r 3 (20 * g0 + ln) = -1) (hs : r 6 t = nI 2) : F_read r rl t g0 (k + 1) ln it n q = (nI 3, (up n (12 * t + 1) (nI 1), q)) := by
  unfold F_read; rw [if_pos (by rw [hp]; decide), if_pos hs]
theorem F_read_m2 (hp : r 3 (20 * g0 + ln) = -1) (hs : ¬ r 6 t = nI 2) : F_read r rl t g0 (k + 1) ln it n q = (nI 1, (up (up n (12 * t + 6) (n (12 * t + 6) + nI 1)) (12 * t + 7) (nI (ln + 1)), q)) := by
  unfold F_read; rw [if_pos (by rw [hp]; decide), if_neg hs]
theorem F_read_i (hp : r 3 (20 * g0 + ln) = nI p) (hp0 : p < 600) (hz : r 4 p = nI z) (hz0 : z ≤ 12) (hi : it < z) : F_read r rl t g0 (k + 1) ln it n q = (nI 1, (up (up n (12 * t + 8) (nI (it + 1))) (12 * t + 4) (n (12 * t + 4) + nI 1), up q t (q t + F_worth (rl 5 (12 * p + it))))) := by
  unfold F_read; rw [hp, if_neg (nI_pos (by omega)), nI_clamp (by omega), hz, if_pos ((nI_ltI (by omega) (by omega)).mpr hi)]
theorem F_read_n (hp : r 3 (20 * g0 + ln) = nI p) (hp0 : p < 600) (hz : r 4 p = nI z) (hz0 : z ≤ 12) (hit : it ≤ 12) (hi : z ≤ it) : F_read r rl t g0 (k + 1) ln it n q = F_read r rl t g0 k (ln + 1) 0 (up (up n (12 * t + 7) (nI (ln + 1))) (12 * t + 8) (nI 0)) q := by
  conv => lhs; unfold F_read
  rw [hp, if_neg (nI_pos (by omega)), nI_clamp (by omega), hz, if_neg (nI_nlt hi (by omega))]
end FR
section M5
variable {l : Launch} {D : va_G} {B b : Nat} {N : NT} {r G : MI} {rl GL : ML} {n : Nat → Int32} {q : Nat → Int64} {S : Int64} {I : MI} {L : ML}
theorem n_read_cast (hF : FixR b N) {t g0 : Nat} (ht : t < 20) (hg : r 12 t = nI g0) (hg2 : g0 < 6) (hk : ¬ r 1 g0 = r 13 t) : Cq l D B mX12_read [vr (some (b + 0)), vi (nI t)] (RI b r n G) L N (some (vi (nI 3))) (RI b r (up n (12 * t + 1) (nI 3)) G) L := by
  refine Ct.of (M := mX12_read) (by decide) (Nat.le_of_ble_eq_true rfl) (fun g (hR : Cr l D B RX12 cX12_read 4 "read" { frames := 2, cells := 0, slots := 0, locals := 45 } (some .int) 0 0 _ g) => ?_)
  have hC := hR.cx
  show g 0 [some (vr (some (b + 0))), some (vi (nI t)), none, none] [] _ _ N 0 0
  refine G_aload_n 0 hC rfl dX12_read_0 ?_
  refine M_getR 1 hC hF fl_X12_44_11 rfl rfl dX12_read_1 ?_
  refine G_iload_n 4 hC rfl dX12_read_4 ?_
  refine N_ialdO 5 hC hF rfl (by decide) (by decide) rfl (by omega) dX12_read_5 ?_
  rw [hg]
  refine G_istore_n 6 hC 2 rfl (by decide) (ls' := [_, _, _, _]) rfl dX12_read_6 ?_
  refine G_aload_n 7 hC rfl dX12_read_7 ?_
  refine M_getR 8 hC hF fl_X12_7_11 rfl rfl dX12_read_8 ?_
  refine G_iload_n 11 hC rfl dX12_read_11 ?_
  refine N_ialdO 12 hC hF rfl (by decide) (by decide) rfl (by omega) dX12_read_12 ?_
  refine G_aload_n 13 hC rfl dX12_read_13 ?_
  refine M_getR 14 hC hF fl_X12_47_11 rfl rfl dX12_read_14 ?_
  refine G_iload_n 17 hC rfl dX12_read_17 ?_
  refine N_ialdO 18 hC hF rfl (by decide) (by decide) rfl (by omega) dX12_read_18 ?_
  refine G_icmp_eq 19 29 hC dX12_read_19 (by decide) (fun h19 => ?_) (fun h19 => ?_)
  · exact absurd h19 hk
  · refine G_aload_n 22 hC rfl dX12_read_22 ?_
    refine G_iload_n 23 hC rfl dX12_read_23 ?_
    refine G_iconst 24 hC (nI 3) (by decide) dX12_read_24 ?_
    refine G_callV1 25 hC (n_failed hF (by omega)) okX12_failed lk_X12_177 ((hF.sh (o := 0) rfl (by decide)).1) rfl rfl rfl rfl (Nat.le_of_ble_eq_true rfl) (by decide) (by decide) dX12_read_25 ?_
    refine R_i 28 hR (by first | rfl | exact narrow_bI _) dX12_read_28 (Nat.le_refl _) (Nat.le_refl _) ?_
    exact ⟨rfl, rfl, rfl, rfl⟩
theorem n_read (hF : FixR b N) {t g0 sz ln it : Nat} (ht : t < 20) (hg : r 12 t = nI g0) (hg2 : g0 < 6) (hk : r 1 g0 = r 13 t) (h2 : r 2 g0 = nI sz) (hsz : sz ≤ 12) (hpl : PlOk r g0 sz) (hl : n (12 * t + 7) = nI ln) (hi : n (12 * t + 8) = nI it) (hln : ln ≤ sz) (hit : it ≤ 12) : Cq l D B mX12_read [vr (some (b + 0)), vi (nI t)] (RI b r n G) (RLg b rl S q GL) N (some (vi (F_read r rl t g0 (sz - ln) ln it n q).1)) (RI b r (F_read r rl t g0 (sz - ln) ln it n q).2.1 G) (RLg b rl S (F_read r rl t g0 (sz - ln) ln it n q).2.2 GL) := by
  obtain ⟨W, hW⟩ : ∃ W, F_read r rl t g0 (sz - ln) ln it n q = W := ⟨_, rfl⟩
  rw [hW]
  refine Ct.of (M := mX12_read) (by decide) (Nat.le_of_ble_eq_true rfl) (fun g (hR : Cr l D B RX12 cX12_read 4 "read" { frames := 2, cells := 0, slots := 0, locals := 45 } (some .int) 0 0 _ g) => ?_)
  have hC := hR.cx
  have loop : ∀ (k ln it : Nat) (n1 : Nat → Int32) (q1 : Nat → Int64) (x3 : Option MV), sz - ln = k → ln ≤ sz → it ≤ 12 → n1 (12 * t + 7) = nI ln → n1 (12 * t + 8) = nI it → F_read r rl t g0 k ln it n1 q1 = W → g 29 [some (vr (some (b + 0))), some (vi (nI t)), some (vi (nI g0)), x3] [] (RI b r n1 G) (RLg b rl S q1 GL) N 0 0 := by
    intro k
    induction k using Nat.strongRecOn with
    | _ k ih =>
      intro ln it n1 q1 x3 hk1 hln hit hl hi hE
      refine G_aload_n 29 hC rfl dX12_read_29 ?_
      refine G_iload_n 30 hC rfl dX12_read_30 ?_
      refine G_bipush 31 hC (nI 7) (by decide) dX12_read_31 ?_
      refine G_callV1 33 hC (n_at hF (by omega) (by omega)) okX12_at lk_X12_173 ((hF.sh (o := 0) rfl (by decide)).1) rfl rfl rfl rfl (Nat.le_of_ble_eq_true rfl) (by decide) (by decide) dX12_read_33 ?_
      rw [hl]
      refine G_aload_n 36 hC rfl dX12_read_36 ?_
      refine M_getR 37 hC hF fl_X12_13_11 rfl rfl dX12_read_37 ?_
      refine G_iload_n 40 hC rfl dX12_read_40 ?_
      refine N_ialdO 41 hC hF rfl (by decide) (by decide) rfl (by omega) dX12_read_41 ?_
      rw [h2]
      refine G_icmp_ge 42 182 hC dX12_read_42 (by decide) (fun h42 => ?_) (fun h42 => ?_)
      · refine G_iconst 182 hC (nI 2) (by decide) dX12_read_182 ?_
        refine R_i 183 hR (by first | rfl | exact narrow_bI _) dX12_read_183 (Nat.le_refl _) (Nat.le_refl _) ?_
        have z := (nI_leI (by omega) (by omega)).mp h42
        have hk0 : k = 0 := by omega
        subst hk0
        rw [← hE]
        exact ⟨rfl, rfl, rfl, rfl⟩
      · have a42 : ln < sz := by
          rcases Nat.lt_or_ge ln sz with z | z
          · exact z
          · exact absurd ((nI_leI (by omega) (by omega)).mpr z) h42
        obtain ⟨k, rfl⟩ : ∃ k1, k = k1 + 1 := ⟨k - 1, by omega⟩
        rcases hpl ln a42 with hp | ⟨p, hp0, hp, z, hz0, hz⟩
        · refine G_aload_n 45 hC rfl dX12_read_45 ?_
          refine M_getR 46 hC hF fl_X12_16_11 rfl rfl dX12_read_46 ?_
          refine G_bipush 49 hC (nI 20) (by decide) dX12_read_49 ?_
          refine G_iload_n 51 hC rfl dX12_read_51 ?_
          refine G_imulN 52 hC dX12_read_52 ?_
          refine G_aload_n 53 hC rfl dX12_read_53 ?_
          refine G_iload_n 54 hC rfl dX12_read_54 ?_
          refine G_bipush 55 hC (nI 7) (by decide) dX12_read_55 ?_
          refine G_callV1 57 hC (n_at hF (by omega) (by omega)) okX12_at lk_X12_173 ((hF.sh (o := 0) rfl (by decide)).1) rfl rfl rfl rfl (Nat.le_of_ble_eq_true rfl) (by decide) (by decide) dX12_read_57 ?_
          rw [hl]
          refine G_iaddN 60 hC dX12_read_60 ?_
          refine N_ialdO 61 hC hF rfl (by decide) (by decide) rfl (by omega) dX12_read_61 ?_
          rw [hp]
          refine G_istore_n 62 hC 3 rfl (by decide) (ls' := [_, _, _, _]) rfl dX12_read_62 ?_
          refine G_iload_n 63 hC rfl dX12_read_63 ?_
          refine G_if_ge 64 84 hC dX12_read_64 (by decide) (fun h64 => ?_) (fun h64 => ?_)
          · exact absurd h64 (by decide)
          · refine G_aload_n 67 hC rfl dX12_read_67 ?_
            refine M_getR 68 hC hF fl_X12_26_11 rfl rfl dX12_read_68 ?_
            refine G_iload_n 71 hC rfl dX12_read_71 ?_
            refine N_ialdO 72 hC hF rfl (by decide) (by decide) rfl (by omega) dX12_read_72 ?_
            refine G_iconst 73 hC (nI 2) (by decide) dX12_read_73 ?_
            refine G_icmp_ne 74 84 hC dX12_read_74 (by decide) (fun h74 => ?_) (fun h74 => ?_)
            · refine G_iload_n 84 hC rfl dX12_read_84 ?_
              refine G_if_ge 85 104 hC dX12_read_85 (by decide) (fun h85 => ?_) (fun h85 => ?_)
              · exact absurd h85 (by decide)
              · refine G_aload_n 88 hC rfl dX12_read_88 ?_
                refine G_iload_n 89 hC rfl dX12_read_89 ?_
                refine G_bipush 90 hC (nI 6) (by decide) dX12_read_90 ?_
                refine G_callV0 92 hC (n_more hF (by omega) (by omega)) okX12_more lk_X12_160 ((hF.sh (o := 0) rfl (by decide)).1) rfl rfl rfl rfl (Nat.le_of_ble_eq_true rfl) (by decide) (by decide) dX12_read_92 ?_
                refine G_aload_n 95 hC rfl dX12_read_95 ?_
                refine G_iload_n 96 hC rfl dX12_read_96 ?_
                refine G_bipush 97 hC (nI 7) (by decide) dX12_read_97 ?_
                refine G_callV0 99 hC (n_more hF (by omega) (by omega)) okX12_more lk_X12_160 ((hF.sh (o := 0) rfl (by decide)).1) rfl rfl rfl rfl (Nat.le_of_ble_eq_true rfl) (by decide) (by decide) dX12_read_99 ?_
                rw [up_ne (show 12 * t + 7 ≠ 12 * t + 6 by omega), hl, nI_add]
                refine G_iconst 102 hC (nI 1) (by decide) dX12_read_102 ?_
                refine R_i 103 hR (by first | rfl | exact narrow_bI _) dX12_read_103 (Nat.le_refl _) (Nat.le_refl _) ?_
                rw [← hE, F_read_m2 hp h74]
                exact ⟨rfl, rfl, rfl, rfl⟩
            · refine G_aload_n 77 hC rfl dX12_read_77 ?_
              refine G_iload_n 78 hC rfl dX12_read_78 ?_
              refine G_iconst 79 hC (nI 1) (by decide) dX12_read_79 ?_
              refine G_callV1 80 hC (n_failed hF (by omega)) okX12_failed lk_X12_177 ((hF.sh (o := 0) rfl (by decide)).1) rfl rfl rfl rfl (Nat.le_of_ble_eq_true rfl) (by decide) (by decide) dX12_read_80 ?_
              refine R_i 83 hR (by first | rfl | exact narrow_bI _) dX12_read_83 (Nat.le_refl _) (Nat.le_refl _) ?_
              rw [← hE, F_read_m1 hp h74]
              exact ⟨rfl, rfl, rfl, rfl⟩
        · refine G_aload_n 45 hC rfl dX12_read_45 ?_
          refine M_getR 46 hC hF fl_X12_16_11 rfl rfl dX12_read_46 ?_
          refine G_bipush 49 hC (nI 20) (by decide) dX12_read_49 ?_
          refine G_iload_n 51 hC rfl dX12_read_51 ?_
          refine G_imulN 52 hC dX12_read_52 ?_
          refine G_aload_n 53 hC rfl dX12_read_53 ?_
          refine G_iload_n 54 hC rfl dX12_read_54 ?_
          refine G_bipush 55 hC (nI 7) (by decide) dX12_read_55 ?_
          refine G_callV1 57 hC (n_at hF (by omega) (by omega)) okX12_at lk_X12_173 ((hF.sh (o := 0) rfl (by decide)).1) rfl rfl rfl rfl (Nat.le_of_ble_eq_true rfl) (by decide) (by decide) dX12_read_57 ?_
          rw [hl]
          refine G_iaddN 60 hC dX12_read_60 ?_
          refine N_ialdO 61 hC hF rfl (by decide) (by decide) rfl (by omega) dX12_read_61 ?_
          rw [hp]
          refine G_istore_n 62 hC 3 rfl (by decide) (ls' := [_, _, _, _]) rfl dX12_read_62 ?_
          refine G_iload_n 63 hC rfl dX12_read_63 ?_
          refine G_if_ge 64 84 hC dX12_read_64 (by decide) (fun h64 => ?_) (fun h64 => ?_)
          · refine G_iload_n 84 hC rfl dX12_read_84 ?_
            refine G_if_ge 85 104 hC dX12_read_85 (by decide) (fun h85 => ?_) (fun h85 => ?_)
            · refine G_aload_n 104 hC rfl dX12_read_104 ?_
              refine G_iload_n 105 hC rfl dX12_read_105 ?_
              refine G_bipush 106 hC (nI 8) (by decide) dX12_read_106 ?_
              refine G_callV1 108 hC (n_at hF (by omega) (by omega)) okX12_at lk_X12_173 ((hF.sh (o := 0) rfl (by decide)).1) rfl rfl rfl rfl (Nat.le_of_ble_eq_true rfl) (by decide) (by decide) dX12_read_108 ?_
              rw [hi]
              refine G_aload_n 111 hC rfl dX12_read_111 ?_
              refine M_getR 112 hC hF fl_X12_19_11 rfl rfl dX12_read_112 ?_
              refine G_iload_n 115 hC rfl dX12_read_115 ?_
              refine N_ialdO 116 hC hF rfl (by decide) (by decide) rfl (by omega) dX12_read_116 ?_
              refine G_icmp_ge 117 164 hC dX12_read_117 (by decide) (fun h117 => ?_) (fun h117 => ?_)
              · refine G_aload_n 164 hC rfl dX12_read_164 ?_
                refine G_iload_n 165 hC rfl dX12_read_165 ?_
                refine G_bipush 166 hC (nI 7) (by decide) dX12_read_166 ?_
                refine G_callV0 168 hC (n_more hF (by omega) (by omega)) okX12_more lk_X12_160 ((hF.sh (o := 0) rfl (by decide)).1) rfl rfl rfl rfl (Nat.le_of_ble_eq_true rfl) (by decide) (by decide) dX12_read_168 ?_
                rw [hl, nI_add]
                refine G_aload_n 171 hC rfl dX12_read_171 ?_
                refine G_iload_n 172 hC rfl dX12_read_172 ?_
                refine G_bipush 173 hC (nI 8) (by decide) dX12_read_173 ?_
                refine G_iconst 175 hC (nI 0) (by decide) dX12_read_175 ?_
                refine G_callV0 176 hC (n_set hF (by omega) (by omega)) okX12_set lk_X12_154 ((hF.sh (o := 0) rfl (by decide)).1) rfl rfl rfl rfl (Nat.le_of_ble_eq_true rfl) (by decide) (by decide) dX12_read_176 ?_
                refine G_goto 179 29 hC dX12_read_179 (by decide) ?_
                refine ih k (Nat.lt_succ_self k) (ln + 1) 0 _ _ _ (by omega) (by omega) (by omega) (by simp (disch := omega) only [up_ne, up_s]) (by simp only [up_s]) ?_
                rw [← hE, F_read_n hp hp0 hz hz0 hit ((nI_leI (by omega) (by omega)).mp (hz ▸ h117))]
              · have a117 : it < z := by
                  rcases Nat.lt_or_ge it z with y | y
                  · exact y
                  · exact absurd (by rw [hz]; exact (nI_leI (by omega) (by omega)).mpr y) h117
                refine G_aload_n 120 hC rfl dX12_read_120 ?_
                refine M_getR 121 hC hF fl_X12_74_11 rfl rfl dX12_read_121 ?_
                refine G_iload_n 124 hC rfl dX12_read_124 ?_
                first | refine G_dup2 125 hC rfl rfl dX12_read_125 ?_ | refine G_dup2L 125 hC dX12_read_125 ?_
                refine Q_lald 126 hC hF rfl (by omega) dX12_read_126 ?_
                refine G_aload_n 127 hC rfl dX12_read_127 ?_
                refine M_getR 128 hC hF fl_X12_22_11 rfl rfl dX12_read_128 ?_
                refine G_bipush 131 hC (nI 12) (by decide) dX12_read_131 ?_
                refine G_iload_n 133 hC rfl dX12_read_133 ?_
                refine G_imulN 134 hC dX12_read_134 ?_
                refine G_aload_n 135 hC rfl dX12_read_135 ?_
                refine G_iload_n 136 hC rfl dX12_read_136 ?_
                refine G_bipush 137 hC (nI 8) (by decide) dX12_read_137 ?_
                refine G_callV1 139 hC (n_at hF (by omega) (by omega)) okX12_at lk_X12_173 ((hF.sh (o := 0) rfl (by decide)).1) rfl rfl rfl rfl (Nat.le_of_ble_eq_true rfl) (by decide) (by decide) dX12_read_139 ?_
                rw [hi]
                refine G_iaddN 142 hC dX12_read_142 ?_
                refine Q_laldO 143 hC hF rfl (by decide) (by decide) (by decide) rfl (by omega) dX12_read_143 ?_
                refine G_callS1 144 hC (ref_worth) okX12_worth lk_X12_180 rfl rfl rfl (Nat.le_of_ble_eq_true rfl) (by decide) (by decide) dX12_read_144 ?_
                refine G_ladd 147 hC dX12_read_147 ?_
                refine Q_last 148 hC hF rfl (by omega) dX12_read_148 ?_
                refine G_aload_n 149 hC rfl dX12_read_149 ?_
                refine G_iload_n 150 hC rfl dX12_read_150 ?_
                refine G_bipush 151 hC (nI 8) (by decide) dX12_read_151 ?_
                refine G_callV0 153 hC (n_more hF (by omega) (by omega)) okX12_more lk_X12_160 ((hF.sh (o := 0) rfl (by decide)).1) rfl rfl rfl rfl (Nat.le_of_ble_eq_true rfl) (by decide) (by decide) dX12_read_153 ?_
                refine G_aload_n 156 hC rfl dX12_read_156 ?_
                refine G_iload_n 157 hC rfl dX12_read_157 ?_
                refine G_iconst 158 hC (nI 4) (by decide) dX12_read_158 ?_
                refine G_callV0 159 hC (n_more hF (by omega) (by omega)) okX12_more lk_X12_160 ((hF.sh (o := 0) rfl (by decide)).1) rfl rfl rfl rfl (Nat.le_of_ble_eq_true rfl) (by decide) (by decide) dX12_read_159 ?_
                rw [up_ne (show 12 * t + 4 ≠ 12 * t + 8 by omega), hi, nI_add]
                refine G_iconst 162 hC (nI 1) (by decide) dX12_read_162 ?_
                refine R_i 163 hR (by first | rfl | exact narrow_bI _) dX12_read_163 (Nat.le_refl _) (Nat.le_refl _) ?_
                rw [← hE, F_read_i hp hp0 hz hz0 a117]
                exact ⟨rfl, rfl, rfl, rfl⟩
            · exact absurd (nI_pos' (by omega)) h85
          · exact absurd (nI_pos' (by omega)) h64
  show g 0 [some (vr (some (b + 0))), some (vi (nI t)), none, none] [] _ _ N 0 0
  refine G_aload_n 0 hC rfl dX12_read_0 ?_
  refine M_getR 1 hC hF fl_X12_44_11 rfl rfl dX12_read_1 ?_
  refine G_iload_n 4 hC rfl dX12_read_4 ?_
  refine N_ialdO 5 hC hF rfl (by decide) (by decide) rfl (by omega) dX12_read_5 ?_
  rw [hg]
  refine G_istore_n 6 hC 2 rfl (by decide) (ls' := [_, _, _, _]) rfl dX12_read_6 ?_
  refine G_aload_n 7 hC rfl dX12_read_7 ?_
  refine M_getR 8 hC hF fl_X12_7_11 rfl rfl dX12_read_8 ?_
  refine G_iload_n 11 hC rfl dX12_read_11 ?_
  refine N_ialdO 12 hC hF rfl (by decide) (by decide) rfl (by omega) dX12_read_12 ?_
  refine G_aload_n 13 hC rfl dX12_read_13 ?_
  refine M_getR 14 hC hF fl_X12_47_11 rfl rfl dX12_read_14 ?_
  refine G_iload_n 17 hC rfl dX12_read_17 ?_
  refine N_ialdO 18 hC hF rfl (by decide) (by decide) rfl (by omega) dX12_read_18 ?_
  refine G_icmp_eq 19 29 hC dX12_read_19 (by decide) (fun h19 => ?_) (fun h19 => ?_)
  · exact loop _ ln it n q none rfl hln hit hl hi hW
  · exact absurd hk h19
end M5

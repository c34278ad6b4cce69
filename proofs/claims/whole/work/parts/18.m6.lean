/-! ===== a share's step of the reference ===== -/
theorem F_goes_n {r : MI} {n : Nat → Int32} {q : Nat → Int64} {S : Int64} {s i p j : Nat} {rd : Int32} (hj : j < 302) : (F_goes r n q S s i rd p).2.1 j = n j := by
  unfold F_goes
  split
  · rfl
  · split
    · rfl
    · split
      · rfl
      · unfold F_finds
        split
        · exact up_ne (by omega)
        · rfl
theorem F_lf_0 {r : MI} {s g0 sz i p : Nat} (hk : r 1 g0 = r 16 s) (h2 : r 2 g0 = nI sz) (hsz : sz ≤ 12) (hi : i < sz) (hp : r 3 (20 * g0 + i) = nI p) (hp2 : p < 600) : F_lf r s g0 (nI i) = nI 0 := by
  unfold F_lf
  rw [if_neg (by rw [hk]; exact fun h => h rfl), h2, nI_clamp (by omega), if_neg (fun h => h (inR_nI hi (by omega))), nI_clamp (by omega), hp, if_neg (nI_pos (by omega))]
noncomputable def F_sh3 (r : MI) (n1 : Nat → Int32) (q1 : Nat → Int64) (t s i it1 p ln to : Nat) : Int32 × ((Nat → Int32) × (Nat → Int64)) :=
  if 0 < (F_goes r n1 q1 (q1 t) s i (nI it1) p).1 then (nI 3, (up (F_goes r n1 q1 (q1 t) s i (nI it1) p).2.1 (12 * t + 1) (F_goes r n1 q1 (q1 t) s i (nI it1) p).1, (F_goes r n1 q1 (q1 t) s i (nI it1) p).2.2))
  else if (F_goes r n1 q1 (q1 t) s i (nI it1) p).1 < 0 then (if i + 1 = to then nI 2 else nI 1, (up (up (up (F_goes r n1 q1 (q1 t) s i (nI it1) p).2.1 (12 * t + 9) ((F_goes r n1 q1 (q1 t) s i (nI it1) p).2.1 (12 * t + 9) + nI 1)) (12 * t + 7) (nI (ln + 1))) (12 * t + 8) (nI 0), (F_goes r n1 q1 (q1 t) s i (nI it1) p).2.2))
  else (nI 1, (F_goes r n1 q1 (q1 t) s i (nI it1) p).2)
section F3
variable {r : MI} {n1 : Nat → Int32} {q1 : Nat → Int64} {t s i it1 p ln to : Nat}
theorem F_sh3_f (h : 0 < (F_goes r n1 q1 (q1 t) s i (nI it1) p).1) : F_sh3 r n1 q1 t s i it1 p ln to = (nI 3, (up (F_goes r n1 q1 (q1 t) s i (nI it1) p).2.1 (12 * t + 1) (F_goes r n1 q1 (q1 t) s i (nI it1) p).1, (F_goes r n1 q1 (q1 t) s i (nI it1) p).2.2)) := by unfold F_sh3; rw [if_pos h]
theorem F_sh3_o (h : (F_goes r n1 q1 (q1 t) s i (nI it1) p).1 ≤ 0) (h2 : ¬ 0 ≤ (F_goes r n1 q1 (q1 t) s i (nI it1) p).1) : F_sh3 r n1 q1 t s i it1 p ln to = (if i + 1 = to then nI 2 else nI 1, (up (up (up (F_goes r n1 q1 (q1 t) s i (nI it1) p).2.1 (12 * t + 9) ((F_goes r n1 q1 (q1 t) s i (nI it1) p).2.1 (12 * t + 9) + nI 1)) (12 * t + 7) (nI (ln + 1))) (12 * t + 8) (nI 0), (F_goes r n1 q1 (q1 t) s i (nI it1) p).2.2)) := by unfold F_sh3; rw [if_neg (Int32.not_lt.mpr h), if_pos (Int32.not_le.mp h2)]
theorem F_sh3_g (h : (F_goes r n1 q1 (q1 t) s i (nI it1) p).1 ≤ 0) (h2 : 0 ≤ (F_goes r n1 q1 (q1 t) s i (nI it1) p).1) : F_sh3 r n1 q1 t s i it1 p ln to = (nI 1, (F_goes r n1 q1 (q1 t) s i (nI it1) p).2) := by unfold F_sh3; rw [if_neg (Int32.not_lt.mpr h), if_neg (Int32.not_lt.mpr h2)]
end F3
def F_shN (n : Nat → Int32) (t it li : Nat) : Nat → Int32 := if it < li then up (up n (12 * t + 8) (nI (it + 1))) (12 * t + 4) (n (12 * t + 4) + nI 1) else n
def F_shQ (rl : ML) (q0 : Nat → Int64) (t it li p : Nat) : Nat → Int64 := if it < li then up q0 t (q0 t + F_worth (rl 5 (12 * p + it))) else q0
def F_shI (it li : Nat) : Nat := if it < li then it + 1 else it
section M6
variable {l : Launch} {D : va_G} {B b : Nat} {N : NT} {r G : MI} {rl GL : ML} {n : Nat → Int32} {q q0 : Nat → Int64} {S : Int64} {I : MI} {L : ML}
theorem n_lineFault (hF : FixR b N) {s0 g0 sz : Nat} {i : Int32} (hs : s0 < 8) (hsg : r 15 s0 = nI g0) (hg : g0 < 6) (h2 : r 2 g0 = nI sz) (hz : sz ≤ 12) (hpl : PlOk r g0 sz) : Cq l D B mX12_lineFault [vr (some (b + 0)), vi (nI s0), vi i] (RI b r n G) L N (some (vi (F_lf r s0 g0 i))) (RI b r n G) L := ref_lineFault (r := up r 20 n) hF hs hsg hg h2 hz hpl
theorem n_shared_A (hF : FixR b N) {t s fr to ln : Nat} (ht : t < 20) (hs : r 12 t = nI s) (hs2 : s < 8) (h13 : r 13 t = nI fr) (h14 : r 14 t = nI to) (hl : n (12 * t + 7) = nI ln) (hfl : fr + ln < 100) (hto : to ≤ fr + ln) : Cq l D B mX12_shared [vr (some (b + 0)), vi (nI t)] (RI b r n G) L N (some (vi (nI 2))) (RI b r n G) L := by
  refine Ct.of (M := mX12_shared) (by decide) (Nat.le_of_ble_eq_true rfl) (fun g (hR : Cr l D B RX12 cX12_shared 6 "shared" { frames := 3, cells := 0, slots := 0, locals := 67 } (some .int) 0 0 _ g) => ?_)
  have hC := hR.cx
  show g 0 [some (vr (some (b + 0))), some (vi (nI t)), none, none, none, none] [] _ _ N 0 0
  refine G_aload_n 0 hC rfl dX12_shared_0 ?_
  refine M_getR 1 hC hF fl_X12_44_11 rfl rfl dX12_shared_1 ?_
  refine G_iload_n 4 hC rfl dX12_shared_4 ?_
  refine N_ialdO 5 hC hF rfl (by decide) (by decide) rfl (by omega) dX12_shared_5 ?_
  rw [hs]
  refine G_istore_n 6 hC 2 rfl (by decide) (ls' := [_, _, _, _, _, _]) rfl dX12_shared_6 ?_
  refine G_aload_n 7 hC rfl dX12_shared_7 ?_
  refine M_getR 8 hC hF fl_X12_47_11 rfl rfl dX12_shared_8 ?_
  refine G_iload_n 11 hC rfl dX12_shared_11 ?_
  refine N_ialdO 12 hC hF rfl (by decide) (by decide) rfl (by omega) dX12_shared_12 ?_
  rw [h13]
  refine G_aload_n 13 hC rfl dX12_shared_13 ?_
  refine G_iload_n 14 hC rfl dX12_shared_14 ?_
  refine G_bipush 15 hC (nI 7) (by decide) dX12_shared_15 ?_
  refine G_callV1 17 hC (n_at hF (by omega) (by omega)) okX12_at lk_X12_173 ((hF.sh (o := 0) rfl (by decide)).1) rfl rfl rfl rfl (Nat.le_of_ble_eq_true rfl) (by decide) (by decide) dX12_shared_17 ?_
  rw [hl]
  refine G_iaddN 20 hC dX12_shared_20 ?_
  refine G_istore_n 21 hC 3 rfl (by decide) (ls' := [_, _, _, _, _, _]) rfl dX12_shared_21 ?_
  refine G_iload_n 22 hC rfl dX12_shared_22 ?_
  refine G_aload_n 23 hC rfl dX12_shared_23 ?_
  refine M_getR 24 hC hF fl_X12_50_11 rfl rfl dX12_shared_24 ?_
  refine G_iload_n 27 hC rfl dX12_shared_27 ?_
  refine N_ialdO 28 hC hF rfl (by decide) (by decide) rfl (by omega) dX12_shared_28 ?_
  rw [h14]
  refine G_icmp_lt 29 34 hC dX12_shared_29 (by decide) (fun h29 => ?_) (fun h29 => ?_)
  · exact absurd ((nI_ltI (by omega) (by omega)).mp h29) (by omega)
  · refine G_iconst 32 hC (nI 2) (by decide) dX12_shared_32 ?_
    refine R_i 33 hR (by first | rfl | exact narrow_bI _) dX12_shared_33 (Nat.le_refl _) (Nat.le_refl _) ?_
    exact ⟨rfl, rfl, rfl, rfl⟩
theorem n_shared_B (hF : FixR b N) {t s fr to ln g0 sz : Nat} (ht : t < 20) (hs : r 12 t = nI s) (hs2 : s < 8) (h13 : r 13 t = nI fr) (h14 : r 14 t = nI to) (hl : n (12 * t + 7) = nI ln) (hi : n (12 * t + 8) = nI 0) (hto2 : to ≤ 20) (hto : fr + ln < to) (hsg : r 15 s = nI g0) (hg2 : g0 < 6) (h2 : r 2 g0 = nI sz) (hsz : sz ≤ 12) (hpl : PlOk r g0 sz) (hlf : ¬ F_lf r s g0 (nI (fr + ln)) = 0) : Cq l D B mX12_shared [vr (some (b + 0)), vi (nI t)] (RI b r n G) L N (some (vi (nI 3))) (RI b r (up n (12 * t + 1) (F_lf r s g0 (nI (fr + ln)))) G) L := by
  refine Ct.of (M := mX12_shared) (by decide) (Nat.le_of_ble_eq_true rfl) (fun g (hR : Cr l D B RX12 cX12_shared 6 "shared" { frames := 3, cells := 0, slots := 0, locals := 67 } (some .int) 0 0 _ g) => ?_)
  have hC := hR.cx
  show g 0 [some (vr (some (b + 0))), some (vi (nI t)), none, none, none, none] [] _ _ N 0 0
  refine G_aload_n 0 hC rfl dX12_shared_0 ?_
  refine M_getR 1 hC hF fl_X12_44_11 rfl rfl dX12_shared_1 ?_
  refine G_iload_n 4 hC rfl dX12_shared_4 ?_
  refine N_ialdO 5 hC hF rfl (by decide) (by decide) rfl (by omega) dX12_shared_5 ?_
  rw [hs]
  refine G_istore_n 6 hC 2 rfl (by decide) (ls' := [_, _, _, _, _, _]) rfl dX12_shared_6 ?_
  refine G_aload_n 7 hC rfl dX12_shared_7 ?_
  refine M_getR 8 hC hF fl_X12_47_11 rfl rfl dX12_shared_8 ?_
  refine G_iload_n 11 hC rfl dX12_shared_11 ?_
  refine N_ialdO 12 hC hF rfl (by decide) (by decide) rfl (by omega) dX12_shared_12 ?_
  rw [h13]
  refine G_aload_n 13 hC rfl dX12_shared_13 ?_
  refine G_iload_n 14 hC rfl dX12_shared_14 ?_
  refine G_bipush 15 hC (nI 7) (by decide) dX12_shared_15 ?_
  refine G_callV1 17 hC (n_at hF (by omega) (by omega)) okX12_at lk_X12_173 ((hF.sh (o := 0) rfl (by decide)).1) rfl rfl rfl rfl (Nat.le_of_ble_eq_true rfl) (by decide) (by decide) dX12_shared_17 ?_
  rw [hl]
  refine G_iaddN 20 hC dX12_shared_20 ?_
  refine G_istore_n 21 hC 3 rfl (by decide) (ls' := [_, _, _, _, _, _]) rfl dX12_shared_21 ?_
  refine G_iload_n 22 hC rfl dX12_shared_22 ?_
  refine G_aload_n 23 hC rfl dX12_shared_23 ?_
  refine M_getR 24 hC hF fl_X12_50_11 rfl rfl dX12_shared_24 ?_
  refine G_iload_n 27 hC rfl dX12_shared_27 ?_
  refine N_ialdO 28 hC hF rfl (by decide) (by decide) rfl (by omega) dX12_shared_28 ?_
  rw [h14]
  refine G_icmp_lt 29 34 hC dX12_shared_29 (by decide) (fun h29 => ?_) (fun h29 => ?_)
  · refine G_aload_n 34 hC rfl dX12_shared_34 ?_
    refine G_iload_n 35 hC rfl dX12_shared_35 ?_
    refine G_bipush 36 hC (nI 8) (by decide) dX12_shared_36 ?_
    refine G_callV1 38 hC (n_at hF (by omega) (by omega)) okX12_at lk_X12_173 ((hF.sh (o := 0) rfl (by decide)).1) rfl rfl rfl rfl (Nat.le_of_ble_eq_true rfl) (by decide) (by decide) dX12_shared_38 ?_
    rw [hi]
    first | refine G_if_ne_b 41 72 hC dX12_shared_41 (by decide) (fun h41 => ?_) (fun h41 => ?_) | refine G_if_ne 41 72 hC dX12_shared_41 (by decide) (fun h41 => ?_) (fun h41 => ?_)
    · exact absurd rfl h41
    · refine G_aload_n 44 hC rfl dX12_shared_44 ?_
      refine G_iload_n 45 hC rfl dX12_shared_45 ?_
      refine G_iload_n 46 hC rfl dX12_shared_46 ?_
      refine G_callV1 47 hC (n_lineFault hF hs2 hsg hg2 h2 hsz hpl) okX12_lineFault lk_X12_192 ((hF.sh (o := 0) rfl (by decide)).1) rfl rfl rfl rfl (Nat.le_of_ble_eq_true rfl) (by decide) (by decide) dX12_shared_47 ?_
      refine G_istore 50 hC (by decide) (ls' := [_, _, _, _, _, _]) rfl dX12_shared_50 ?_
      refine G_iload 52 hC rfl dX12_shared_52 ?_
      first | refine G_if_eq_b 54 65 hC dX12_shared_54 (by decide) (fun h54 => ?_) (fun h54 => ?_) | refine G_if_eq 54 65 hC dX12_shared_54 (by decide) (fun h54 => ?_) (fun h54 => ?_)
      · exact absurd h54 hlf
      · refine G_aload_n 57 hC rfl dX12_shared_57 ?_
        refine G_iload_n 58 hC rfl dX12_shared_58 ?_
        refine G_iload 59 hC rfl dX12_shared_59 ?_
        refine G_callV1 61 hC (n_failed hF (by omega)) okX12_failed lk_X12_177 ((hF.sh (o := 0) rfl (by decide)).1) rfl rfl rfl rfl (Nat.le_of_ble_eq_true rfl) (by decide) (by decide) dX12_shared_61 ?_
        refine R_i 64 hR (by first | rfl | exact narrow_bI _) dX12_shared_64 (Nat.le_refl _) (Nat.le_refl _) ?_
        exact ⟨rfl, rfl, rfl, rfl⟩
  · exact absurd ((nI_ltI (by omega) (by omega)).mpr (by omega)) h29
theorem n_shared_C (hF : FixR b N) {t s fr to ln g0 sz it p li : Nat} (ht : t < 20) (hs : r 12 t = nI s) (hs2 : s < 8) (h13 : r 13 t = nI fr) (h14 : r 14 t = nI to) (hl : n (12 * t + 7) = nI ln) (hi : n (12 * t + 8) = nI it) (hto2 : to ≤ 20) (hto : fr + ln < to) (hsg : r 15 s = nI g0) (hg2 : g0 < 6) (h2 : r 2 g0 = nI sz) (hsz : sz ≤ 12) (hpl : PlOk r g0 sz) (hkd : r 1 g0 = r 16 s) (hsz2 : fr + ln < sz) (hp : r 3 (20 * g0 + (fr + ln)) = nI p) (hp2 : p < 600) (hli : r 4 p = nI li) (hli2 : li ≤ 12) (hit : it ≤ 12) (hq0 : (it = 0 ∧ q0 = up q t 0) ∨ (0 < it ∧ q0 = q)) :
    Cq l D B mX12_shared [vr (some (b + 0)), vi (nI t)] (RI b r n G) (RLg b rl S q GL) N (some (vi (F_sh3 r (F_shN n t it li) (F_shQ rl q0 t it li p) t s (fr + ln) (F_shI it li) p ln to).1)) (RI b r (F_sh3 r (F_shN n t it li) (F_shQ rl q0 t it li p) t s (fr + ln) (F_shI it li) p ln to).2.1 G) (RLg b rl (F_shQ rl q0 t it li p t) (F_sh3 r (F_shN n t it li) (F_shQ rl q0 t it li p) t s (fr + ln) (F_shI it li) p ln to).2.2 GL) := by
  obtain ⟨W, hW⟩ : ∃ W, (F_sh3 r (F_shN n t it li) (F_shQ rl q0 t it li p) t s (fr + ln) (F_shI it li) p ln to, F_shQ rl q0 t it li p t) = W := ⟨_, rfl⟩
  rw [show F_sh3 r (F_shN n t it li) (F_shQ rl q0 t it li p) t s (fr + ln) (F_shI it li) p ln to = W.1 from congrArg Prod.fst hW, show F_shQ rl q0 t it li p t = W.2 from congrArg Prod.snd hW]
  refine Ct.of (M := mX12_shared) (by decide) (Nat.le_of_ble_eq_true rfl) (fun g (hR : Cr l D B RX12 cX12_shared 6 "shared" { frames := 3, cells := 0, slots := 0, locals := 67 } (some .int) 0 0 _ g) => ?_)
  have hC := hR.cx
  have fin : ∀ (n1 : Nat → Int32) (q1 : Nat → Int64) (it1 : Nat) (x5 : Option MV), n1 (12 * t + 7) = nI ln → n1 (12 * t + 8) = nI it1 → (F_sh3 r n1 q1 t s (fr + ln) it1 p ln to, q1 t) = W → g 150 [some (vr (some (b + 0))), some (vi (nI t)), some (vi (nI s)), some (vi (nI (fr + ln))), some (vi (nI p)), x5] [] (RI b r n1 G) (RLg b rl S q1 GL) N 0 0 := by
    intro n1 q1 it1 x5 hl1 hi1 hE
    refine G_aload_n 150 hC rfl dX12_shared_150 ?_
    refine G_aload_n 151 hC rfl dX12_shared_151 ?_
    refine M_getR 152 hC hF fl_X12_74_11 rfl rfl dX12_shared_152 ?_
    refine G_iload_n 155 hC rfl dX12_shared_155 ?_
    refine Q_lald 156 hC hF rfl (by omega) dX12_shared_156 ?_
    refine Q_putL 157 hC hF (fp_X12_184_11 _) dX12_shared_157 ?_
    refine G_aload_n 160 hC rfl dX12_shared_160 ?_
    refine G_iload_n 161 hC rfl dX12_shared_161 ?_
    refine G_iload_n 162 hC rfl dX12_shared_162 ?_
    refine G_aload_n 163 hC rfl dX12_shared_163 ?_
    refine G_iload_n 164 hC rfl dX12_shared_164 ?_
    refine G_bipush 165 hC (nI 8) (by decide) dX12_shared_165 ?_
    refine G_callV1 167 hC (n_at hF (by omega) (by omega)) okX12_at lk_X12_173 ((hF.sh (o := 0) rfl (by decide)).1) rfl rfl rfl rfl (Nat.le_of_ble_eq_true rfl) (by decide) (by decide) dX12_shared_167 ?_
    rw [hi1]
    refine G_callV1 170 hC (n_goes hF hs2 hsg hg2 (by omega) hp hp2) okX12_goes lk_X12_195 ((hF.sh (o := 0) rfl (by decide)).1) rfl rfl rfl rfl (Nat.le_of_ble_eq_true rfl) (by decide) (by decide) dX12_shared_170 ?_
    refine G_istore 173 hC (by decide) (ls' := [_, _, _, _, _, _]) rfl dX12_shared_173 ?_
    refine G_iload 175 hC rfl dX12_shared_175 ?_
    refine G_if_le 177 188 hC dX12_shared_177 (by decide) (fun h177 => ?_) (fun h177 => ?_)
    · refine G_iload 188 hC rfl dX12_shared_188 ?_
      refine G_if_ge 190 215 hC dX12_shared_190 (by decide) (fun h190 => ?_) (fun h190 => ?_)
      · refine G_aload_n 215 hC rfl dX12_shared_215 ?_
        refine M_getR 216 hC hF fl_X12_47_11 rfl rfl dX12_shared_216 ?_
        refine G_iload_n 219 hC rfl dX12_shared_219 ?_
        refine N_ialdO 220 hC hF rfl (by decide) (by decide) rfl (by omega) dX12_shared_220 ?_
        rw [h13]
        refine G_aload_n 221 hC rfl dX12_shared_221 ?_
        refine G_iload_n 222 hC rfl dX12_shared_222 ?_
        refine G_bipush 223 hC (nI 7) (by decide) dX12_shared_223 ?_
        refine G_callV1 225 hC (n_at hF (by omega) (by omega)) okX12_at lk_X12_173 ((hF.sh (o := 0) rfl (by decide)).1) rfl rfl rfl rfl (Nat.le_of_ble_eq_true rfl) (by decide) (by decide) dX12_shared_225 ?_
        first | rw [up_ne (show 12 * t + 7 ≠ 12 * t + 8 by omega), up_s] | rw [F_goes_n (j := 12 * t + 7) (by omega), hl1]
        refine G_iaddN 228 hC dX12_shared_228 ?_
        refine G_aload_n 229 hC rfl dX12_shared_229 ?_
        refine M_getR 230 hC hF fl_X12_50_11 rfl rfl dX12_shared_230 ?_
        refine G_iload_n 233 hC rfl dX12_shared_233 ?_
        refine N_ialdO 234 hC hF rfl (by decide) (by decide) rfl (by omega) dX12_shared_234 ?_
        rw [h14]
        refine G_icmp_ne 235 242 hC dX12_shared_235 (by decide) (fun h235 => ?_) (fun h235 => ?_)
        · refine G_iconst 242 hC (nI 1) (by decide) dX12_shared_242 ?_
          refine R_i 243 hR (by first | rfl | exact narrow_bI _) dX12_shared_243 (Nat.le_refl _) (Nat.le_refl _) ?_
          first
            | (rw [← hE, F_sh3_o h177 h190]
               first
                 | (rw [if_pos (show fr + ln + 1 = to by have z := nI_eq_of h235 (by omega) (by omega); omega)]; exact ⟨rfl, rfl, rfl, rfl⟩)
                 | (rw [if_neg (show ¬ fr + ln + 1 = to from fun z => h235 (by rw [← z, Nat.add_assoc]))]; exact ⟨rfl, rfl, rfl, rfl⟩))
            | (rw [← hE, F_sh3_g h177 h190]
               first
                 | (exact absurd (nI_eq_of h235 (by omega) (by omega)) (by omega))
                 | exact ⟨rfl, rfl, rfl, rfl⟩)
        · refine G_iconst 238 hC (nI 2) (by decide) dX12_shared_238 ?_
          refine G_goto 239 243 hC dX12_shared_239 (by decide) ?_
          refine R_i 243 hR (by first | rfl | exact narrow_bI _) dX12_shared_243 (Nat.le_refl _) (Nat.le_refl _) ?_
          first
            | (rw [← hE, F_sh3_o h177 h190]
               first
                 | (rw [if_pos (show fr + ln + 1 = to by have z := nI_eq_of h235 (by omega) (by omega); omega)]; exact ⟨rfl, rfl, rfl, rfl⟩)
                 | (rw [if_neg (show ¬ fr + ln + 1 = to from fun z => h235 (by rw [← z, Nat.add_assoc]))]; exact ⟨rfl, rfl, rfl, rfl⟩))
            | (rw [← hE, F_sh3_g h177 h190]
               first
                 | (exact absurd (nI_eq_of h235 (by omega) (by omega)) (by omega))
                 | exact ⟨rfl, rfl, rfl, rfl⟩)
      · refine G_aload_n 193 hC rfl dX12_shared_193 ?_
        refine G_iload_n 194 hC rfl dX12_shared_194 ?_
        refine G_bipush 195 hC (nI 9) (by decide) dX12_shared_195 ?_
        refine G_callV0 197 hC (n_more hF (by omega) (by omega)) okX12_more lk_X12_160 ((hF.sh (o := 0) rfl (by decide)).1) rfl rfl rfl rfl (Nat.le_of_ble_eq_true rfl) (by decide) (by decide) dX12_shared_197 ?_
        refine G_aload_n 200 hC rfl dX12_shared_200 ?_
        refine G_iload_n 201 hC rfl dX12_shared_201 ?_
        refine G_bipush 202 hC (nI 7) (by decide) dX12_shared_202 ?_
        refine G_callV0 204 hC (n_more hF (by omega) (by omega)) okX12_more lk_X12_160 ((hF.sh (o := 0) rfl (by decide)).1) rfl rfl rfl rfl (Nat.le_of_ble_eq_true rfl) (by decide) (by decide) dX12_shared_204 ?_
        rw [up_ne (show 12 * t + 7 ≠ 12 * t + 9 by omega), F_goes_n (j := 12 * t + 7) (by omega), hl1, nI_add]
        refine G_aload_n 207 hC rfl dX12_shared_207 ?_
        refine G_iload_n 208 hC rfl dX12_shared_208 ?_
        refine G_bipush 209 hC (nI 8) (by decide) dX12_shared_209 ?_
        refine G_iconst 211 hC (nI 0) (by decide) dX12_shared_211 ?_
        refine G_callV0 212 hC (n_set hF (by omega) (by omega)) okX12_set lk_X12_154 ((hF.sh (o := 0) rfl (by decide)).1) rfl rfl rfl rfl (Nat.le_of_ble_eq_true rfl) (by decide) (by decide) dX12_shared_212 ?_
        refine G_aload_n 215 hC rfl dX12_shared_215 ?_
        refine M_getR 216 hC hF fl_X12_47_11 rfl rfl dX12_shared_216 ?_
        refine G_iload_n 219 hC rfl dX12_shared_219 ?_
        refine N_ialdO 220 hC hF rfl (by decide) (by decide) rfl (by omega) dX12_shared_220 ?_
        rw [h13]
        refine G_aload_n 221 hC rfl dX12_shared_221 ?_
        refine G_iload_n 222 hC rfl dX12_shared_222 ?_
        refine G_bipush 223 hC (nI 7) (by decide) dX12_shared_223 ?_
        refine G_callV1 225 hC (n_at hF (by omega) (by omega)) okX12_at lk_X12_173 ((hF.sh (o := 0) rfl (by decide)).1) rfl rfl rfl rfl (Nat.le_of_ble_eq_true rfl) (by decide) (by decide) dX12_shared_225 ?_
        first | rw [up_ne (show 12 * t + 7 ≠ 12 * t + 8 by omega), up_s] | rw [F_goes_n (j := 12 * t + 7) (by omega), hl1]
        refine G_iaddN 228 hC dX12_shared_228 ?_
        refine G_aload_n 229 hC rfl dX12_shared_229 ?_
        refine M_getR 230 hC hF fl_X12_50_11 rfl rfl dX12_shared_230 ?_
        refine G_iload_n 233 hC rfl dX12_shared_233 ?_
        refine N_ialdO 234 hC hF rfl (by decide) (by decide) rfl (by omega) dX12_shared_234 ?_
        rw [h14]
        refine G_icmp_ne 235 242 hC dX12_shared_235 (by decide) (fun h235 => ?_) (fun h235 => ?_)
        · refine G_iconst 242 hC (nI 1) (by decide) dX12_shared_242 ?_
          refine R_i 243 hR (by first | rfl | exact narrow_bI _) dX12_shared_243 (Nat.le_refl _) (Nat.le_refl _) ?_
          first
            | (rw [← hE, F_sh3_o h177 h190]
               first
                 | (rw [if_pos (show fr + ln + 1 = to by have z := nI_eq_of h235 (by omega) (by omega); omega)]; exact ⟨rfl, rfl, rfl, rfl⟩)
                 | (rw [if_neg (show ¬ fr + ln + 1 = to from fun z => h235 (by rw [← z, Nat.add_assoc]))]; exact ⟨rfl, rfl, rfl, rfl⟩))
            | (rw [← hE, F_sh3_g h177 h190]
               first
                 | (exact absurd (nI_eq_of h235 (by omega) (by omega)) (by omega))
                 | exact ⟨rfl, rfl, rfl, rfl⟩)
        · refine G_iconst 238 hC (nI 2) (by decide) dX12_shared_238 ?_
          refine G_goto 239 243 hC dX12_shared_239 (by decide) ?_
          refine R_i 243 hR (by first | rfl | exact narrow_bI _) dX12_shared_243 (Nat.le_refl _) (Nat.le_refl _) ?_
          first
            | (rw [← hE, F_sh3_o h177 h190]
               first
                 | (rw [if_pos (show fr + ln + 1 = to by have z := nI_eq_of h235 (by omega) (by omega); omega)]; exact ⟨rfl, rfl, rfl, rfl⟩)
                 | (rw [if_neg (show ¬ fr + ln + 1 = to from fun z => h235 (by rw [← z, Nat.add_assoc]))]; exact ⟨rfl, rfl, rfl, rfl⟩))
            | (rw [← hE, F_sh3_g h177 h190]
               first
                 | (exact absurd (nI_eq_of h235 (by omega) (by omega)) (by omega))
                 | exact ⟨rfl, rfl, rfl, rfl⟩)
    · refine G_aload_n 180 hC rfl dX12_shared_180 ?_
      refine G_iload_n 181 hC rfl dX12_shared_181 ?_
      refine G_iload 182 hC rfl dX12_shared_182 ?_
      refine G_callV1 184 hC (n_failed hF (by omega)) okX12_failed lk_X12_177 ((hF.sh (o := 0) rfl (by decide)).1) rfl rfl rfl rfl (Nat.le_of_ble_eq_true rfl) (by decide) (by decide) dX12_shared_184 ?_
      refine R_i 187 hR (by first | rfl | exact narrow_bI _) dX12_shared_187 (Nat.le_refl _) (Nat.le_refl _) ?_
      rw [← hE, F_sh3_f (Int32.not_le.mp h177)]
      exact ⟨rfl, rfl, rfl, rfl⟩
  show g 0 [some (vr (some (b + 0))), some (vi (nI t)), none, none, none, none] [] _ _ N 0 0
  refine G_aload_n 0 hC rfl dX12_shared_0 ?_
  refine M_getR 1 hC hF fl_X12_44_11 rfl rfl dX12_shared_1 ?_
  refine G_iload_n 4 hC rfl dX12_shared_4 ?_
  refine N_ialdO 5 hC hF rfl (by decide) (by decide) rfl (by omega) dX12_shared_5 ?_
  rw [hs]
  refine G_istore_n 6 hC 2 rfl (by decide) (ls' := [_, _, _, _, _, _]) rfl dX12_shared_6 ?_
  refine G_aload_n 7 hC rfl dX12_shared_7 ?_
  refine M_getR 8 hC hF fl_X12_47_11 rfl rfl dX12_shared_8 ?_
  refine G_iload_n 11 hC rfl dX12_shared_11 ?_
  refine N_ialdO 12 hC hF rfl (by decide) (by decide) rfl (by omega) dX12_shared_12 ?_
  rw [h13]
  refine G_aload_n 13 hC rfl dX12_shared_13 ?_
  refine G_iload_n 14 hC rfl dX12_shared_14 ?_
  refine G_bipush 15 hC (nI 7) (by decide) dX12_shared_15 ?_
  refine G_callV1 17 hC (n_at hF (by omega) (by omega)) okX12_at lk_X12_173 ((hF.sh (o := 0) rfl (by decide)).1) rfl rfl rfl rfl (Nat.le_of_ble_eq_true rfl) (by decide) (by decide) dX12_shared_17 ?_
  rw [hl]
  refine G_iaddN 20 hC dX12_shared_20 ?_
  refine G_istore_n 21 hC 3 rfl (by decide) (ls' := [_, _, _, _, _, _]) rfl dX12_shared_21 ?_
  refine G_iload_n 22 hC rfl dX12_shared_22 ?_
  refine G_aload_n 23 hC rfl dX12_shared_23 ?_
  refine M_getR 24 hC hF fl_X12_50_11 rfl rfl dX12_shared_24 ?_
  refine G_iload_n 27 hC rfl dX12_shared_27 ?_
  refine N_ialdO 28 hC hF rfl (by decide) (by decide) rfl (by omega) dX12_shared_28 ?_
  rw [h14]
  refine G_icmp_lt 29 34 hC dX12_shared_29 (by decide) (fun h29 => ?_) (fun h29 => ?_)
  · rcases hq0 with ⟨hit0, rfl⟩ | ⟨h0i, rfl⟩
    · refine G_aload_n 34 hC rfl dX12_shared_34 ?_
      refine G_iload_n 35 hC rfl dX12_shared_35 ?_
      refine G_bipush 36 hC (nI 8) (by decide) dX12_shared_36 ?_
      refine G_callV1 38 hC (n_at hF (by omega) (by omega)) okX12_at lk_X12_173 ((hF.sh (o := 0) rfl (by decide)).1) rfl rfl rfl rfl (Nat.le_of_ble_eq_true rfl) (by decide) (by decide) dX12_shared_38 ?_
      rw [hi]
      first | refine G_if_ne_b 41 72 hC dX12_shared_41 (by decide) (fun h41 => ?_) (fun h41 => ?_) | refine G_if_ne 41 72 hC dX12_shared_41 (by decide) (fun h41 => ?_) (fun h41 => ?_)
      · exact absurd (show nI it = 0 by rw [hit0]; rfl) h41
      · refine G_aload_n 44 hC rfl dX12_shared_44 ?_
        refine G_iload_n 45 hC rfl dX12_shared_45 ?_
        refine G_iload_n 46 hC rfl dX12_shared_46 ?_
        refine G_callV1 47 hC (n_lineFault hF hs2 hsg hg2 h2 hsz hpl) okX12_lineFault lk_X12_192 ((hF.sh (o := 0) rfl (by decide)).1) rfl rfl rfl rfl (Nat.le_of_ble_eq_true rfl) (by decide) (by decide) dX12_shared_47 ?_
        refine G_istore 50 hC (by decide) (ls' := [_, _, _, _, _, _]) rfl dX12_shared_50 ?_
        refine G_iload 52 hC rfl dX12_shared_52 ?_
        first | refine G_if_eq_b 54 65 hC dX12_shared_54 (by decide) (fun h54 => ?_) (fun h54 => ?_) | refine G_if_eq 54 65 hC dX12_shared_54 (by decide) (fun h54 => ?_) (fun h54 => ?_)
        · refine G_aload_n 65 hC rfl dX12_shared_65 ?_
          refine M_getR 66 hC hF fl_X12_74_11 rfl rfl dX12_shared_66 ?_
          refine G_iload_n 69 hC rfl dX12_shared_69 ?_
          refine G_lconst 70 hC 0 (by decide) dX12_shared_70 ?_
          refine Q_last 71 hC hF rfl (by omega) dX12_shared_71 ?_
          refine G_aload_n 72 hC rfl dX12_shared_72 ?_
          refine M_getR 73 hC hF fl_X12_16_11 rfl rfl dX12_shared_73 ?_
          refine G_bipush 76 hC (nI 20) (by decide) dX12_shared_76 ?_
          refine G_aload_n 78 hC rfl dX12_shared_78 ?_
          refine M_getR 79 hC hF fl_X12_53_11 rfl rfl dX12_shared_79 ?_
          refine G_iload_n 82 hC rfl dX12_shared_82 ?_
          refine N_ialdO 83 hC hF rfl (by decide) (by decide) rfl (by omega) dX12_shared_83 ?_
          rw [hsg]
          refine G_imulN 84 hC dX12_shared_84 ?_
          refine G_iload_n 85 hC rfl dX12_shared_85 ?_
          refine G_iaddN 86 hC dX12_shared_86 ?_
          refine N_ialdO 87 hC hF rfl (by decide) (by decide) rfl (by omega) dX12_shared_87 ?_
          rw [hp]
          refine G_istore 88 hC (by decide) (ls' := [_, _, _, _, _, _]) rfl dX12_shared_88 ?_
          refine G_aload_n 90 hC rfl dX12_shared_90 ?_
          refine G_iload_n 91 hC rfl dX12_shared_91 ?_
          refine G_bipush 92 hC (nI 8) (by decide) dX12_shared_92 ?_
          refine G_callV1 94 hC (n_at hF (by omega) (by omega)) okX12_at lk_X12_173 ((hF.sh (o := 0) rfl (by decide)).1) rfl rfl rfl rfl (Nat.le_of_ble_eq_true rfl) (by decide) (by decide) dX12_shared_94 ?_
          rw [hi]
          refine G_aload_n 97 hC rfl dX12_shared_97 ?_
          refine M_getR 98 hC hF fl_X12_19_11 rfl rfl dX12_shared_98 ?_
          refine G_iload 101 hC rfl dX12_shared_101 ?_
          refine N_ialdO 103 hC hF rfl (by decide) (by decide) rfl (by omega) dX12_shared_103 ?_
          rw [hli]
          refine G_icmp_ge 104 150 hC dX12_shared_104 (by decide) (fun h104 => ?_) (fun h104 => ?_)
          · first
              | (refine fin _ _ (it + 1) _ (by simp (disch := omega) only [up_ne, up_s]; exact hl) (by rw [up_ne (show 12 * t + 8 ≠ 12 * t + 4 by omega), up_s, hi, nI_add]) ?_
                 rw [← hW]; unfold F_shN F_shQ F_shI; rw [if_pos a104, if_pos a104, if_pos a104, up_ne (show 12 * t + 4 ≠ 12 * t + 8 by omega), hi, nI_add])
              | (have a104 : ¬ it < li := Nat.not_lt.mpr ((nI_leI (by omega) (by omega)).mp h104)
                 refine fin _ _ it _ hl hi ?_
                 rw [← hW]; unfold F_shN F_shQ F_shI; rw [if_neg a104, if_neg a104, if_neg a104])
          · have a104 : it < li := by
              rcases Nat.lt_or_ge it li with y | y
              · exact y
              · exact absurd ((nI_leI (by omega) (by omega)).mpr y) h104
            refine G_aload_n 107 hC rfl dX12_shared_107 ?_
            refine M_getR 108 hC hF fl_X12_74_11 rfl rfl dX12_shared_108 ?_
            refine G_iload_n 111 hC rfl dX12_shared_111 ?_
            first | refine G_dup2 112 hC rfl rfl dX12_shared_112 ?_ | refine G_dup2L 112 hC dX12_shared_112 ?_
            refine Q_lald 113 hC hF rfl (by omega) dX12_shared_113 ?_
            refine G_aload_n 114 hC rfl dX12_shared_114 ?_
            refine M_getR 115 hC hF fl_X12_22_11 rfl rfl dX12_shared_115 ?_
            refine G_bipush 118 hC (nI 12) (by decide) dX12_shared_118 ?_
            refine G_iload 120 hC rfl dX12_shared_120 ?_
            refine G_imulN 122 hC dX12_shared_122 ?_
            refine G_aload_n 123 hC rfl dX12_shared_123 ?_
            refine G_iload_n 124 hC rfl dX12_shared_124 ?_
            refine G_bipush 125 hC (nI 8) (by decide) dX12_shared_125 ?_
            refine G_callV1 127 hC (n_at hF (by omega) (by omega)) okX12_at lk_X12_173 ((hF.sh (o := 0) rfl (by decide)).1) rfl rfl rfl rfl (Nat.le_of_ble_eq_true rfl) (by decide) (by decide) dX12_shared_127 ?_
            rw [hi]
            refine G_iaddN 130 hC dX12_shared_130 ?_
            refine Q_laldO 131 hC hF rfl (by decide) (by decide) (by decide) rfl (by omega) dX12_shared_131 ?_
            refine G_callS1 132 hC (ref_worth) okX12_worth lk_X12_180 rfl rfl rfl (Nat.le_of_ble_eq_true rfl) (by decide) (by decide) dX12_shared_132 ?_
            refine G_ladd 135 hC dX12_shared_135 ?_
            refine Q_last 136 hC hF rfl (by omega) dX12_shared_136 ?_
            refine G_aload_n 137 hC rfl dX12_shared_137 ?_
            refine G_iload_n 138 hC rfl dX12_shared_138 ?_
            refine G_bipush 139 hC (nI 8) (by decide) dX12_shared_139 ?_
            refine G_callV0 141 hC (n_more hF (by omega) (by omega)) okX12_more lk_X12_160 ((hF.sh (o := 0) rfl (by decide)).1) rfl rfl rfl rfl (Nat.le_of_ble_eq_true rfl) (by decide) (by decide) dX12_shared_141 ?_
            refine G_aload_n 144 hC rfl dX12_shared_144 ?_
            refine G_iload_n 145 hC rfl dX12_shared_145 ?_
            refine G_iconst 146 hC (nI 4) (by decide) dX12_shared_146 ?_
            refine G_callV0 147 hC (n_more hF (by omega) (by omega)) okX12_more lk_X12_160 ((hF.sh (o := 0) rfl (by decide)).1) rfl rfl rfl rfl (Nat.le_of_ble_eq_true rfl) (by decide) (by decide) dX12_shared_147 ?_
            first
              | (refine fin _ _ (it + 1) _ (by simp (disch := omega) only [up_ne, up_s]; exact hl) (by rw [up_ne (show 12 * t + 8 ≠ 12 * t + 4 by omega), up_s, hi, nI_add]) ?_
                 rw [← hW]; unfold F_shN F_shQ F_shI; rw [if_pos a104, if_pos a104, if_pos a104, up_ne (show 12 * t + 4 ≠ 12 * t + 8 by omega), hi, nI_add])
              | (have a104 : ¬ it < li := Nat.not_lt.mpr ((nI_leI (by omega) (by omega)).mp h104)
                 refine fin _ _ it _ hl hi ?_
                 rw [← hW]; unfold F_shN F_shQ F_shI; rw [if_neg a104, if_neg a104, if_neg a104])
        · exact absurd (F_lf_0 hkd h2 hsz hsz2 hp hp2) h54
    · refine G_aload_n 34 hC rfl dX12_shared_34 ?_
      refine G_iload_n 35 hC rfl dX12_shared_35 ?_
      refine G_bipush 36 hC (nI 8) (by decide) dX12_shared_36 ?_
      refine G_callV1 38 hC (n_at hF (by omega) (by omega)) okX12_at lk_X12_173 ((hF.sh (o := 0) rfl (by decide)).1) rfl rfl rfl rfl (Nat.le_of_ble_eq_true rfl) (by decide) (by decide) dX12_shared_38 ?_
      rw [hi]
      first | refine G_if_ne_b 41 72 hC dX12_shared_41 (by decide) (fun h41 => ?_) (fun h41 => ?_) | refine G_if_ne 41 72 hC dX12_shared_41 (by decide) (fun h41 => ?_) (fun h41 => ?_)
      · refine G_aload_n 72 hC rfl dX12_shared_72 ?_
        refine M_getR 73 hC hF fl_X12_16_11 rfl rfl dX12_shared_73 ?_
        refine G_bipush 76 hC (nI 20) (by decide) dX12_shared_76 ?_
        refine G_aload_n 78 hC rfl dX12_shared_78 ?_
        refine M_getR 79 hC hF fl_X12_53_11 rfl rfl dX12_shared_79 ?_
        refine G_iload_n 82 hC rfl dX12_shared_82 ?_
        refine N_ialdO 83 hC hF rfl (by decide) (by decide) rfl (by omega) dX12_shared_83 ?_
        rw [hsg]
        refine G_imulN 84 hC dX12_shared_84 ?_
        refine G_iload_n 85 hC rfl dX12_shared_85 ?_
        refine G_iaddN 86 hC dX12_shared_86 ?_
        refine N_ialdO 87 hC hF rfl (by decide) (by decide) rfl (by omega) dX12_shared_87 ?_
        rw [hp]
        refine G_istore 88 hC (by decide) (ls' := [_, _, _, _, _, _]) rfl dX12_shared_88 ?_
        refine G_aload_n 90 hC rfl dX12_shared_90 ?_
        refine G_iload_n 91 hC rfl dX12_shared_91 ?_
        refine G_bipush 92 hC (nI 8) (by decide) dX12_shared_92 ?_
        refine G_callV1 94 hC (n_at hF (by omega) (by omega)) okX12_at lk_X12_173 ((hF.sh (o := 0) rfl (by decide)).1) rfl rfl rfl rfl (Nat.le_of_ble_eq_true rfl) (by decide) (by decide) dX12_shared_94 ?_
        rw [hi]
        refine G_aload_n 97 hC rfl dX12_shared_97 ?_
        refine M_getR 98 hC hF fl_X12_19_11 rfl rfl dX12_shared_98 ?_
        refine G_iload 101 hC rfl dX12_shared_101 ?_
        refine N_ialdO 103 hC hF rfl (by decide) (by decide) rfl (by omega) dX12_shared_103 ?_
        rw [hli]
        refine G_icmp_ge 104 150 hC dX12_shared_104 (by decide) (fun h104 => ?_) (fun h104 => ?_)
        · first
            | (refine fin _ _ (it + 1) _ (by simp (disch := omega) only [up_ne, up_s]; exact hl) (by rw [up_ne (show 12 * t + 8 ≠ 12 * t + 4 by omega), up_s, hi, nI_add]) ?_
               rw [← hW]; unfold F_shN F_shQ F_shI; rw [if_pos a104, if_pos a104, if_pos a104, up_ne (show 12 * t + 4 ≠ 12 * t + 8 by omega), hi, nI_add])
            | (have a104 : ¬ it < li := Nat.not_lt.mpr ((nI_leI (by omega) (by omega)).mp h104)
               refine fin _ _ it _ hl hi ?_
               rw [← hW]; unfold F_shN F_shQ F_shI; rw [if_neg a104, if_neg a104, if_neg a104])
        · have a104 : it < li := by
            rcases Nat.lt_or_ge it li with y | y
            · exact y
            · exact absurd ((nI_leI (by omega) (by omega)).mpr y) h104
          refine G_aload_n 107 hC rfl dX12_shared_107 ?_
          refine M_getR 108 hC hF fl_X12_74_11 rfl rfl dX12_shared_108 ?_
          refine G_iload_n 111 hC rfl dX12_shared_111 ?_
          first | refine G_dup2 112 hC rfl rfl dX12_shared_112 ?_ | refine G_dup2L 112 hC dX12_shared_112 ?_
          refine Q_lald 113 hC hF rfl (by omega) dX12_shared_113 ?_
          refine G_aload_n 114 hC rfl dX12_shared_114 ?_
          refine M_getR 115 hC hF fl_X12_22_11 rfl rfl dX12_shared_115 ?_
          refine G_bipush 118 hC (nI 12) (by decide) dX12_shared_118 ?_
          refine G_iload 120 hC rfl dX12_shared_120 ?_
          refine G_imulN 122 hC dX12_shared_122 ?_
          refine G_aload_n 123 hC rfl dX12_shared_123 ?_
          refine G_iload_n 124 hC rfl dX12_shared_124 ?_
          refine G_bipush 125 hC (nI 8) (by decide) dX12_shared_125 ?_
          refine G_callV1 127 hC (n_at hF (by omega) (by omega)) okX12_at lk_X12_173 ((hF.sh (o := 0) rfl (by decide)).1) rfl rfl rfl rfl (Nat.le_of_ble_eq_true rfl) (by decide) (by decide) dX12_shared_127 ?_
          rw [hi]
          refine G_iaddN 130 hC dX12_shared_130 ?_
          refine Q_laldO 131 hC hF rfl (by decide) (by decide) (by decide) rfl (by omega) dX12_shared_131 ?_
          refine G_callS1 132 hC (ref_worth) okX12_worth lk_X12_180 rfl rfl rfl (Nat.le_of_ble_eq_true rfl) (by decide) (by decide) dX12_shared_132 ?_
          refine G_ladd 135 hC dX12_shared_135 ?_
          refine Q_last 136 hC hF rfl (by omega) dX12_shared_136 ?_
          refine G_aload_n 137 hC rfl dX12_shared_137 ?_
          refine G_iload_n 138 hC rfl dX12_shared_138 ?_
          refine G_bipush 139 hC (nI 8) (by decide) dX12_shared_139 ?_
          refine G_callV0 141 hC (n_more hF (by omega) (by omega)) okX12_more lk_X12_160 ((hF.sh (o := 0) rfl (by decide)).1) rfl rfl rfl rfl (Nat.le_of_ble_eq_true rfl) (by decide) (by decide) dX12_shared_141 ?_
          refine G_aload_n 144 hC rfl dX12_shared_144 ?_
          refine G_iload_n 145 hC rfl dX12_shared_145 ?_
          refine G_iconst 146 hC (nI 4) (by decide) dX12_shared_146 ?_
          refine G_callV0 147 hC (n_more hF (by omega) (by omega)) okX12_more lk_X12_160 ((hF.sh (o := 0) rfl (by decide)).1) rfl rfl rfl rfl (Nat.le_of_ble_eq_true rfl) (by decide) (by decide) dX12_shared_147 ?_
          first
            | (refine fin _ _ (it + 1) _ (by simp (disch := omega) only [up_ne, up_s]; exact hl) (by rw [up_ne (show 12 * t + 8 ≠ 12 * t + 4 by omega), up_s, hi, nI_add]) ?_
               rw [← hW]; unfold F_shN F_shQ F_shI; rw [if_pos a104, if_pos a104, if_pos a104, up_ne (show 12 * t + 4 ≠ 12 * t + 8 by omega), hi, nI_add])
            | (have a104 : ¬ it < li := Nat.not_lt.mpr ((nI_leI (by omega) (by omega)).mp h104)
               refine fin _ _ it _ hl hi ?_
               rw [← hW]; unfold F_shN F_shQ F_shI; rw [if_neg a104, if_neg a104, if_neg a104])
      · exact absurd h41 (nI_ne0 h0i (by omega))
  · exact absurd ((nI_ltI (by omega) (by omega)).mpr (by omega)) h29
end M6

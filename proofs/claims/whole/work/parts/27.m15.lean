/-! ===== isLikeFirst ===== -/
def L_tk (r : MI) (rl : ML) (n : Nat → Int32) (q : Nat → Int64) : Prop := n 245 = r 24 245 ∧ (n 245 = -9 ∨ r 6 (n 245).toNatClampNeg < nI 2 ∨ q (n 245).toNatClampNeg = rl 25 (n 245).toNatClampNeg)
def L_tc (r : MI) (n : Nat → Int32) (t : Nat) : Prop := ((¬ r 6 t = nI 4 ∧ (n 245 = -9 ∨ nI t < n 245)) → n (12 * t + 0) = r 24 (12 * t + 0)) ∧ (r 6 t = nI 4 → (n (12 * t + 0) = nI 4 ↔ r 24 (12 * t + 0) = nI 4))
def L_sc (r : MI) (rl : ML) (n : Nat → Int32) (q : Nat → Int64) (s : Nat) : Prop := n (302 + s) = r 24 (302 + s) ∧ q (20 + s) = rl 25 (20 + s)
section M15
variable {l : Launch} {D : va_G} {B b : Nat} {N : NT} {r G : MI} {rl GL : ML} {n n1 n2 n3 : Nat → Int32} {q q1 q2 : Nat → Int64} {S S1 S2 : Int64}
theorem n_like (hF : FixR b N) {nt ns : Nat} {c : Prop} [Decidable c] (hnt : r 0 10 = nI nt) (hnt2 : nt ≤ 20) (hns : r 0 20 = nI ns) (hns2 : ns ≤ 8) (htk : n 245 = -9 ∨ ∃ k, k < 20 ∧ n 245 = nI k) (hc : c ↔ (L_tk r rl n q ∧ ∀ t, t < nt → L_tc r n t) ∧ ∀ s, s < ns → L_sc r rl n q s) : Cq l D B mX12_isLikeFirst [vr (some (b + 0))] (RI b r n G) (RLg b rl S q GL) N (some (vi (bI c))) (RI b r n G) (RLg b rl S q GL) := by
  refine Ct.of (M := mX12_isLikeFirst) (by decide) (Nat.le_of_ble_eq_true rfl) (fun g (hR : Cr l D B RX12 cX12_isLikeFirst 7 "isLikeFirst" { frames := 1, cells := 0, slots := 0, locals := 22 } (some .boolean) 0 0 _ g) => ?_)
  have hC := hR.cx
  have loop2 : ∀ (k j : Nat) (x : Int32) {x4 x5 x6 : Option MV}, ns - j < k → j ≤ ns → (x = nI 1 ∧ ((L_tk r rl n q ∧ ∀ t, t < nt → L_tc r n t) ∧ ∀ s, s < j → L_sc r rl n q s) ∨ x = nI 0 ∧ ¬ ((L_tk r rl n q ∧ ∀ t, t < nt → L_tc r n t) ∧ ∀ s, s < j → L_sc r rl n q s)) → g 183 [some (vr (some (b + 0))), some (vi (n 245)), some (vi x), some (vi (nI j)), x4, x5, x6] [] (RI b r n G) (RLg b rl S q GL) N 0 0 := by
    intro k
    induction k with
    | zero => intro j x x4 x5 x6 h1; omega
    | succ k ih =>
      intro j x x4 x5 x6 hk1 hj hx
      rcases hx with ⟨rfl, hP⟩ | ⟨rfl, hP⟩
      · refine G_iload_n 183 hC rfl dX12_isLikeFirst_183 ?_
        refine G_aload_n 184 hC rfl dX12_isLikeFirst_184 ?_
        refine N_getI 185 hC hF fl_X12_148_11 rfl dX12_isLikeFirst_185 ?_
        rw [hns]
        refine G_icmp_ge 188 252 hC dX12_isLikeFirst_188 (by decide) (fun h188 => ?_) (fun h188 => ?_)
        · refine G_iload_n 252 hC rfl dX12_isLikeFirst_252 ?_
          refine R_i 253 hR (by first | rfl | exact narrow_bI _) dX12_isLikeFirst_253 (Nat.le_refl _) (Nat.le_refl _) ?_
          have ej : j = ns := by
            have z := (nI_leI (by omega) (by omega)).mp h188
            omega
          subst ej
          refine ⟨?_, rfl, rfl, rfl⟩
          first | exact congrArg (fun z => some (vi z)) (bI_t (hc.mpr hP)) | exact congrArg (fun z => some (vi z)) (bI_f (fun z => hP (hc.mp z)))
        · have a188 : j < ns := by
            rcases Nat.lt_or_ge j ns with y | y
            · exact y
            · exact absurd ((nI_leI (by omega) (by omega)).mpr y) h188
          refine G_iload_n 191 hC rfl dX12_isLikeFirst_191 ?_
          first | refine G_if_eq_b 192 244 hC dX12_isLikeFirst_192 (by decide) (fun h192 => ?_) (fun h192 => ?_) | refine G_if_eq 192 244 hC dX12_isLikeFirst_192 (by decide) (fun h192 => ?_) (fun h192 => ?_)
          · exact absurd h192 (by decide)
          · refine G_aload_n 195 hC rfl dX12_isLikeFirst_195 ?_
            refine M_getR 196 hC hF fl_X12_68_11 rfl rfl dX12_isLikeFirst_196 ?_
            refine G_sipush 199 hC (nI 302) (by decide) dX12_isLikeFirst_199 ?_
            refine G_iload_n 202 hC rfl dX12_isLikeFirst_202 ?_
            refine G_iaddN 203 hC dX12_isLikeFirst_203 ?_
            refine N_iald 204 hC hF rfl (by omega) dX12_isLikeFirst_204 ?_
            refine G_aload_n 205 hC rfl dX12_isLikeFirst_205 ?_
            refine M_getR 206 hC hF fl_X12_80_11 rfl rfl dX12_isLikeFirst_206 ?_
            refine G_sipush 209 hC (nI 302) (by decide) dX12_isLikeFirst_209 ?_
            refine G_iload_n 212 hC rfl dX12_isLikeFirst_212 ?_
            refine G_iaddN 213 hC dX12_isLikeFirst_213 ?_
            refine N_ialdO 214 hC hF rfl (by decide) (by decide) rfl (by omega) dX12_isLikeFirst_214 ?_
            refine G_icmp_ne 215 244 hC dX12_isLikeFirst_215 (by decide) (fun h215 => ?_) (fun h215 => ?_)
            · refine G_iconst 244 hC (nI 0) (by decide) dX12_isLikeFirst_244 ?_
              refine G_istore_n 245 hC 2 rfl (by decide) (ls' := [_, _, _, _, _, _, _]) rfl dX12_isLikeFirst_245 ?_
              first | refine G_iincN 246 hC (by decide) rfl (ls' := [_, _, _, _, _, _, _]) rfl dX12_isLikeFirst_246 ?_ | refine G_iinc 246 hC _ rfl (by decide) rfl (ls' := [_, _, _, _, _, _, _]) rfl dX12_isLikeFirst_246 ?_
              refine G_goto 249 183 hC dX12_isLikeFirst_249 (by decide) ?_
              first
                | (refine ih (j + 1) _ (by omega) (by omega) (Or.inl ⟨rfl, hP.1, lt_s hP.2 ?_⟩)
                   exact ⟨h215, (lg_cmp_eq _ _).mp h237⟩)
                | (refine ih (j + 1) _ (by omega) (by omega) (Or.inr ⟨rfl, fun z => ?_⟩)
                   have y := z.2 j (Nat.lt_succ_self j)
                   first | exact h215 y.1 | exact h237 ((lg_cmp_eq _ _).mpr y.2))
            · refine G_aload_n 218 hC rfl dX12_isLikeFirst_218 ?_
              refine M_getR 219 hC hF fl_X12_74_11 rfl rfl dX12_isLikeFirst_219 ?_
              refine G_bipush 222 hC (nI 20) (by decide) dX12_isLikeFirst_222 ?_
              refine G_iload_n 224 hC rfl dX12_isLikeFirst_224 ?_
              refine G_iaddN 225 hC dX12_isLikeFirst_225 ?_
              refine Q_lald 226 hC hF rfl (by omega) dX12_isLikeFirst_226 ?_
              refine G_aload_n 227 hC rfl dX12_isLikeFirst_227 ?_
              refine M_getR 228 hC hF fl_X12_83_11 rfl rfl dX12_isLikeFirst_228 ?_
              refine G_bipush 231 hC (nI 20) (by decide) dX12_isLikeFirst_231 ?_
              refine G_iload_n 233 hC rfl dX12_isLikeFirst_233 ?_
              refine G_iaddN 234 hC dX12_isLikeFirst_234 ?_
              refine Q_laldO 235 hC hF rfl (by decide) (by decide) (by decide) rfl (by omega) dX12_isLikeFirst_235 ?_
              refine G_lcmp 236 hC dX12_isLikeFirst_236 ?_
              first | refine G_if_ne_b 237 244 hC dX12_isLikeFirst_237 (by decide) (fun h237 => ?_) (fun h237 => ?_) | refine G_if_ne 237 244 hC dX12_isLikeFirst_237 (by decide) (fun h237 => ?_) (fun h237 => ?_)
              · refine G_iconst 244 hC (nI 0) (by decide) dX12_isLikeFirst_244 ?_
                refine G_istore_n 245 hC 2 rfl (by decide) (ls' := [_, _, _, _, _, _, _]) rfl dX12_isLikeFirst_245 ?_
                first | refine G_iincN 246 hC (by decide) rfl (ls' := [_, _, _, _, _, _, _]) rfl dX12_isLikeFirst_246 ?_ | refine G_iinc 246 hC _ rfl (by decide) rfl (ls' := [_, _, _, _, _, _, _]) rfl dX12_isLikeFirst_246 ?_
                refine G_goto 249 183 hC dX12_isLikeFirst_249 (by decide) ?_
                first
                  | (refine ih (j + 1) _ (by omega) (by omega) (Or.inl ⟨rfl, hP.1, lt_s hP.2 ?_⟩)
                     exact ⟨h215, (lg_cmp_eq _ _).mp h237⟩)
                  | (refine ih (j + 1) _ (by omega) (by omega) (Or.inr ⟨rfl, fun z => ?_⟩)
                     have y := z.2 j (Nat.lt_succ_self j)
                     first | exact h215 y.1 | exact h237 ((lg_cmp_eq _ _).mpr y.2))
              · refine G_iconst 240 hC (nI 1) (by decide) dX12_isLikeFirst_240 ?_
                refine G_goto 241 245 hC dX12_isLikeFirst_241 (by decide) ?_
                refine G_istore_n 245 hC 2 rfl (by decide) (ls' := [_, _, _, _, _, _, _]) rfl dX12_isLikeFirst_245 ?_
                first | refine G_iincN 246 hC (by decide) rfl (ls' := [_, _, _, _, _, _, _]) rfl dX12_isLikeFirst_246 ?_ | refine G_iinc 246 hC _ rfl (by decide) rfl (ls' := [_, _, _, _, _, _, _]) rfl dX12_isLikeFirst_246 ?_
                refine G_goto 249 183 hC dX12_isLikeFirst_249 (by decide) ?_
                first
                  | (refine ih (j + 1) _ (by omega) (by omega) (Or.inl ⟨rfl, hP.1, lt_s hP.2 ?_⟩)
                     exact ⟨h215, (lg_cmp_eq _ _).mp h237⟩)
                  | (refine ih (j + 1) _ (by omega) (by omega) (Or.inr ⟨rfl, fun z => ?_⟩)
                     have y := z.2 j (Nat.lt_succ_self j)
                     first | exact h215 y.1 | exact h237 ((lg_cmp_eq _ _).mpr y.2))
      · refine G_iload_n 183 hC rfl dX12_isLikeFirst_183 ?_
        refine G_aload_n 184 hC rfl dX12_isLikeFirst_184 ?_
        refine N_getI 185 hC hF fl_X12_148_11 rfl dX12_isLikeFirst_185 ?_
        rw [hns]
        refine G_icmp_ge 188 252 hC dX12_isLikeFirst_188 (by decide) (fun h188 => ?_) (fun h188 => ?_)
        · refine G_iload_n 252 hC rfl dX12_isLikeFirst_252 ?_
          refine R_i 253 hR (by first | rfl | exact narrow_bI _) dX12_isLikeFirst_253 (Nat.le_refl _) (Nat.le_refl _) ?_
          have ej : j = ns := by
            have z := (nI_leI (by omega) (by omega)).mp h188
            omega
          subst ej
          refine ⟨?_, rfl, rfl, rfl⟩
          first | exact congrArg (fun z => some (vi z)) (bI_t (hc.mpr hP)) | exact congrArg (fun z => some (vi z)) (bI_f (fun z => hP (hc.mp z)))
        · have a188 : j < ns := by
            rcases Nat.lt_or_ge j ns with y | y
            · exact y
            · exact absurd ((nI_leI (by omega) (by omega)).mpr y) h188
          refine G_iload_n 191 hC rfl dX12_isLikeFirst_191 ?_
          first | refine G_if_eq_b 192 244 hC dX12_isLikeFirst_192 (by decide) (fun h192 => ?_) (fun h192 => ?_) | refine G_if_eq 192 244 hC dX12_isLikeFirst_192 (by decide) (fun h192 => ?_) (fun h192 => ?_)
          · refine G_iconst 244 hC (nI 0) (by decide) dX12_isLikeFirst_244 ?_
            refine G_istore_n 245 hC 2 rfl (by decide) (ls' := [_, _, _, _, _, _, _]) rfl dX12_isLikeFirst_245 ?_
            first | refine G_iincN 246 hC (by decide) rfl (ls' := [_, _, _, _, _, _, _]) rfl dX12_isLikeFirst_246 ?_ | refine G_iinc 246 hC _ rfl (by decide) rfl (ls' := [_, _, _, _, _, _, _]) rfl dX12_isLikeFirst_246 ?_
            refine G_goto 249 183 hC dX12_isLikeFirst_249 (by decide) ?_
            refine ih (j + 1) _ (by omega) (by omega) (Or.inr ⟨rfl, fun z => hP ⟨z.1, fun u hu => z.2 u (by omega)⟩⟩)
          · exact absurd (by decide) h192
  have k1 : ∀ (x : Int32) (x4 x5 x6 : Option MV), (x = nI 1 ∧ (L_tk r rl n q ∧ ∀ t, t < nt → L_tc r n t) ∨ x = nI 0 ∧ ¬ (L_tk r rl n q ∧ ∀ t, t < nt → L_tc r n t)) → g 181 [some (vr (some (b + 0))), some (vi (n 245)), some (vi x), some (vi (nI nt)), x4, x5, x6] [] (RI b r n G) (RLg b rl S q GL) N 0 0 := by
    intro x x4 x5 x6 hx
    refine G_iconst 181 hC (nI 0) (by decide) dX12_isLikeFirst_181 ?_
    refine G_istore_n 182 hC 3 rfl (by decide) (ls' := [_, _, _, _, _, _, _]) rfl dX12_isLikeFirst_182 ?_
    exact loop2 _ 0 x (Nat.lt_succ_self _) (Nat.zero_le _) (hx.elim (fun y => Or.inl ⟨y.1, y.2, fun u hu => absurd hu (Nat.not_lt_zero _)⟩) (fun y => Or.inr ⟨y.1, fun z => y.2 z.1⟩))
  have loop1 : ∀ (k j : Nat) (x : Int32) (x4 x5 x6 : Option MV), nt - j < k → j ≤ nt → (x = nI 1 ∧ (L_tk r rl n q ∧ ∀ t, t < j → L_tc r n t) ∨ x = nI 0 ∧ ¬ (L_tk r rl n q ∧ ∀ t, t < j → L_tc r n t)) → g 61 [some (vr (some (b + 0))), some (vi (n 245)), some (vi x), some (vi (nI j)), x4, x5, x6] [] (RI b r n G) (RLg b rl S q GL) N 0 0 := by
    intro k
    induction k with
    | zero => intro j x x4 x5 x6 h1; omega
    | succ k ih =>
      intro j x x4 x5 x6 hk1 hj hx
      rcases hx with ⟨rfl, hP⟩ | ⟨rfl, hP⟩
      · refine G_iload_n 61 hC rfl dX12_isLikeFirst_61 ?_
        refine G_aload_n 62 hC rfl dX12_isLikeFirst_62 ?_
        refine N_getI 63 hC hF fl_X12_101_11 rfl dX12_isLikeFirst_63 ?_
        rw [hnt]
        refine G_icmp_ge 66 181 hC dX12_isLikeFirst_66 (by decide) (fun h66 => ?_) (fun h66 => ?_)
        · have ej : j = nt := by
            have z := (nI_leI (by omega) (by omega)).mp h66
            omega
          subst ej
          exact k1 _ x4 x5 x6 (by first | exact Or.inl ⟨rfl, hP⟩ | exact Or.inr ⟨rfl, hP⟩)
        · have a66 : j < nt := by
            rcases Nat.lt_or_ge j nt with y | y
            · exact y
            · exact absurd ((nI_leI (by omega) (by omega)).mpr y) h66
          have d1 : ¬ nI 1 = 0 := by decide
          have d2 : nI 0 = 0 := by decide
          have d3 : ¬ nI 0 = nI 1 := by decide
          refine G_aload_n 69 hC rfl dX12_isLikeFirst_69 ?_
          refine G_iload_n 70 hC rfl dX12_isLikeFirst_70 ?_
          refine G_iconst 71 hC (nI 0) (by decide) dX12_isLikeFirst_71 ?_
          refine G_callV1 72 hC (n_at hF (by omega) (by omega)) okX12_at lk_X12_173 ((hF.sh (o := 0) rfl (by decide)).1) rfl rfl rfl rfl (Nat.le_of_ble_eq_true rfl) (by decide) (by decide) dX12_isLikeFirst_72 ?_
          refine G_istore 75 hC (by decide) (ls' := [_, _, _, _, _, _, _]) rfl dX12_isLikeFirst_75 ?_
          refine G_aload_n 77 hC rfl dX12_isLikeFirst_77 ?_
          refine M_getR 78 hC hF fl_X12_80_11 rfl rfl dX12_isLikeFirst_78 ?_
          refine G_bipush 81 hC (nI 12) (by decide) dX12_isLikeFirst_81 ?_
          refine G_iload_n 83 hC rfl dX12_isLikeFirst_83 ?_
          refine G_imulN 84 hC dX12_isLikeFirst_84 ?_
          refine G_iconst 85 hC (nI 0) (by decide) dX12_isLikeFirst_85 ?_
          refine G_iaddN 86 hC dX12_isLikeFirst_86 ?_
          refine N_ialdO 87 hC hF rfl (by decide) (by decide) rfl (by omega) dX12_isLikeFirst_87 ?_
          refine G_istore 88 hC (by decide) (ls' := [_, _, _, _, _, _, _]) rfl dX12_isLikeFirst_88 ?_
          refine G_aload_n 90 hC rfl dX12_isLikeFirst_90 ?_
          refine M_getR 91 hC hF fl_X12_26_11 rfl rfl dX12_isLikeFirst_91 ?_
          refine G_iload_n 94 hC rfl dX12_isLikeFirst_94 ?_
          refine N_ialdO 95 hC hF rfl (by decide) (by decide) rfl (by omega) dX12_isLikeFirst_95 ?_
          refine G_iconst 96 hC (nI 4) (by decide) dX12_isLikeFirst_96 ?_
          refine G_icmp_eq 97 115 hC dX12_isLikeFirst_97 (by decide) (fun h97 => ?_) (fun h97 => ?_)
          · first | have a108 := Int32.not_lt.mpr h108 | skip
            refine G_iconst 115 hC (nI 0) (by decide) dX12_isLikeFirst_115 ?_
            refine G_istore 116 hC (by decide) (ls' := [_, _, _, _, _, _, _]) rfl dX12_isLikeFirst_116 ?_
            refine G_iload_n 118 hC rfl dX12_isLikeFirst_118 ?_
            first | refine G_if_eq_b 119 173 hC dX12_isLikeFirst_119 (by decide) (fun h119 => ?_) (fun h119 => ?_) | refine G_if_eq 119 173 hC dX12_isLikeFirst_119 (by decide) (fun h119 => ?_) (fun h119 => ?_)
            · exact absurd h119 (by decide)
            · refine G_iload 122 hC rfl dX12_isLikeFirst_122 ?_
              first | refine G_if_eq_b 124 134 hC dX12_isLikeFirst_124 (by decide) (fun h124 => ?_) (fun h124 => ?_) | refine G_if_eq 124 134 hC dX12_isLikeFirst_124 (by decide) (fun h124 => ?_) (fun h124 => ?_)
              · refine G_aload_n 134 hC rfl dX12_isLikeFirst_134 ?_
                refine M_getR 135 hC hF fl_X12_26_11 rfl rfl dX12_isLikeFirst_135 ?_
                refine G_iload_n 138 hC rfl dX12_isLikeFirst_138 ?_
                refine N_ialdO 139 hC hF rfl (by decide) (by decide) rfl (by omega) dX12_isLikeFirst_139 ?_
                refine G_iconst 140 hC (nI 4) (by decide) dX12_isLikeFirst_140 ?_
                refine G_icmp_ne 141 169 hC dX12_isLikeFirst_141 (by decide) (fun h141 => ?_) (fun h141 => ?_)
                · refine G_iconst 169 hC (nI 1) (by decide) dX12_isLikeFirst_169 ?_
                  refine G_goto 170 174 hC dX12_isLikeFirst_170 (by decide) ?_
                  refine G_istore_n 174 hC 2 rfl (by decide) (ls' := [_, _, _, _, _, _, _]) rfl dX12_isLikeFirst_174 ?_
                  first | refine G_iincN 175 hC (by decide) rfl (ls' := [_, _, _, _, _, _, _]) rfl dX12_isLikeFirst_175 ?_ | refine G_iinc 175 hC _ rfl (by decide) rfl (ls' := [_, _, _, _, _, _, _]) rfl dX12_isLikeFirst_175 ?_
                  refine G_goto 178 61 hC dX12_isLikeFirst_178 (by decide) ?_
                  first
                    | (refine ih (j + 1) _ _ _ _ (by omega) (by omega) (Or.inl ⟨rfl, hP.1, lt_s hP.2 ?_⟩)
                       clear hR hC ih
                       unfold L_tc
                       grind)
                    | (refine ih (j + 1) _ _ _ _ (by omega) (by omega) (Or.inr ⟨rfl, fun z => ?_⟩)
                       have y := z.2 j (Nat.lt_succ_self j)
                       clear hR hC ih
                       unfold L_tc at y
                       grind)
                · refine G_iload 144 hC rfl dX12_isLikeFirst_144 ?_
                  refine G_iconst 146 hC (nI 4) (by decide) dX12_isLikeFirst_146 ?_
                  refine G_icmp_ne 147 154 hC dX12_isLikeFirst_147 (by decide) (fun h147 => ?_) (fun h147 => ?_)
                  · refine G_iconst 154 hC (nI 0) (by decide) dX12_isLikeFirst_154 ?_
                    refine G_iload 155 hC rfl dX12_isLikeFirst_155 ?_
                    refine G_iconst 157 hC (nI 4) (by decide) dX12_isLikeFirst_157 ?_
                    refine G_icmp_ne 158 165 hC dX12_isLikeFirst_158 (by decide) (fun h158 => ?_) (fun h158 => ?_)
                    · refine G_iconst 165 hC (nI 0) (by decide) dX12_isLikeFirst_165 ?_
                      refine G_icmp_ne 166 173 hC dX12_isLikeFirst_166 (by decide) (fun h166 => ?_) (fun h166 => ?_)
                      · refine G_iconst 173 hC (nI 0) (by decide) dX12_isLikeFirst_173 ?_
                        refine G_istore_n 174 hC 2 rfl (by decide) (ls' := [_, _, _, _, _, _, _]) rfl dX12_isLikeFirst_174 ?_
                        first | refine G_iincN 175 hC (by decide) rfl (ls' := [_, _, _, _, _, _, _]) rfl dX12_isLikeFirst_175 ?_ | refine G_iinc 175 hC _ rfl (by decide) rfl (ls' := [_, _, _, _, _, _, _]) rfl dX12_isLikeFirst_175 ?_
                        refine G_goto 178 61 hC dX12_isLikeFirst_178 (by decide) ?_
                        first
                          | (refine ih (j + 1) _ _ _ _ (by omega) (by omega) (Or.inl ⟨rfl, hP.1, lt_s hP.2 ?_⟩)
                             clear hR hC ih
                             unfold L_tc
                             grind)
                          | (refine ih (j + 1) _ _ _ _ (by omega) (by omega) (Or.inr ⟨rfl, fun z => ?_⟩)
                             have y := z.2 j (Nat.lt_succ_self j)
                             clear hR hC ih
                             unfold L_tc at y
                             grind)
                      · refine G_iconst 169 hC (nI 1) (by decide) dX12_isLikeFirst_169 ?_
                        refine G_goto 170 174 hC dX12_isLikeFirst_170 (by decide) ?_
                        refine G_istore_n 174 hC 2 rfl (by decide) (ls' := [_, _, _, _, _, _, _]) rfl dX12_isLikeFirst_174 ?_
                        first | refine G_iincN 175 hC (by decide) rfl (ls' := [_, _, _, _, _, _, _]) rfl dX12_isLikeFirst_175 ?_ | refine G_iinc 175 hC _ rfl (by decide) rfl (ls' := [_, _, _, _, _, _, _]) rfl dX12_isLikeFirst_175 ?_
                        refine G_goto 178 61 hC dX12_isLikeFirst_178 (by decide) ?_
                        first
                          | (refine ih (j + 1) _ _ _ _ (by omega) (by omega) (Or.inl ⟨rfl, hP.1, lt_s hP.2 ?_⟩)
                             clear hR hC ih
                             unfold L_tc
                             grind)
                          | (refine ih (j + 1) _ _ _ _ (by omega) (by omega) (Or.inr ⟨rfl, fun z => ?_⟩)
                             have y := z.2 j (Nat.lt_succ_self j)
                             clear hR hC ih
                             unfold L_tc at y
                             grind)
                    · refine G_iconst 161 hC (nI 1) (by decide) dX12_isLikeFirst_161 ?_
                      refine G_goto 162 166 hC dX12_isLikeFirst_162 (by decide) ?_
                      refine G_icmp_ne 166 173 hC dX12_isLikeFirst_166 (by decide) (fun h166 => ?_) (fun h166 => ?_)
                      · refine G_iconst 173 hC (nI 0) (by decide) dX12_isLikeFirst_173 ?_
                        refine G_istore_n 174 hC 2 rfl (by decide) (ls' := [_, _, _, _, _, _, _]) rfl dX12_isLikeFirst_174 ?_
                        first | refine G_iincN 175 hC (by decide) rfl (ls' := [_, _, _, _, _, _, _]) rfl dX12_isLikeFirst_175 ?_ | refine G_iinc 175 hC _ rfl (by decide) rfl (ls' := [_, _, _, _, _, _, _]) rfl dX12_isLikeFirst_175 ?_
                        refine G_goto 178 61 hC dX12_isLikeFirst_178 (by decide) ?_
                        first
                          | (refine ih (j + 1) _ _ _ _ (by omega) (by omega) (Or.inl ⟨rfl, hP.1, lt_s hP.2 ?_⟩)
                             clear hR hC ih
                             unfold L_tc
                             grind)
                          | (refine ih (j + 1) _ _ _ _ (by omega) (by omega) (Or.inr ⟨rfl, fun z => ?_⟩)
                             have y := z.2 j (Nat.lt_succ_self j)
                             clear hR hC ih
                             unfold L_tc at y
                             grind)
                      · refine G_iconst 169 hC (nI 1) (by decide) dX12_isLikeFirst_169 ?_
                        refine G_goto 170 174 hC dX12_isLikeFirst_170 (by decide) ?_
                        refine G_istore_n 174 hC 2 rfl (by decide) (ls' := [_, _, _, _, _, _, _]) rfl dX12_isLikeFirst_174 ?_
                        first | refine G_iincN 175 hC (by decide) rfl (ls' := [_, _, _, _, _, _, _]) rfl dX12_isLikeFirst_175 ?_ | refine G_iinc 175 hC _ rfl (by decide) rfl (ls' := [_, _, _, _, _, _, _]) rfl dX12_isLikeFirst_175 ?_
                        refine G_goto 178 61 hC dX12_isLikeFirst_178 (by decide) ?_
                        first
                          | (refine ih (j + 1) _ _ _ _ (by omega) (by omega) (Or.inl ⟨rfl, hP.1, lt_s hP.2 ?_⟩)
                             clear hR hC ih
                             unfold L_tc
                             grind)
                          | (refine ih (j + 1) _ _ _ _ (by omega) (by omega) (Or.inr ⟨rfl, fun z => ?_⟩)
                             have y := z.2 j (Nat.lt_succ_self j)
                             clear hR hC ih
                             unfold L_tc at y
                             grind)
                  · refine G_iconst 150 hC (nI 1) (by decide) dX12_isLikeFirst_150 ?_
                    refine G_goto 151 155 hC dX12_isLikeFirst_151 (by decide) ?_
                    refine G_iload 155 hC rfl dX12_isLikeFirst_155 ?_
                    refine G_iconst 157 hC (nI 4) (by decide) dX12_isLikeFirst_157 ?_
                    refine G_icmp_ne 158 165 hC dX12_isLikeFirst_158 (by decide) (fun h158 => ?_) (fun h158 => ?_)
                    · refine G_iconst 165 hC (nI 0) (by decide) dX12_isLikeFirst_165 ?_
                      refine G_icmp_ne 166 173 hC dX12_isLikeFirst_166 (by decide) (fun h166 => ?_) (fun h166 => ?_)
                      · refine G_iconst 173 hC (nI 0) (by decide) dX12_isLikeFirst_173 ?_
                        refine G_istore_n 174 hC 2 rfl (by decide) (ls' := [_, _, _, _, _, _, _]) rfl dX12_isLikeFirst_174 ?_
                        first | refine G_iincN 175 hC (by decide) rfl (ls' := [_, _, _, _, _, _, _]) rfl dX12_isLikeFirst_175 ?_ | refine G_iinc 175 hC _ rfl (by decide) rfl (ls' := [_, _, _, _, _, _, _]) rfl dX12_isLikeFirst_175 ?_
                        refine G_goto 178 61 hC dX12_isLikeFirst_178 (by decide) ?_
                        first
                          | (refine ih (j + 1) _ _ _ _ (by omega) (by omega) (Or.inl ⟨rfl, hP.1, lt_s hP.2 ?_⟩)
                             clear hR hC ih
                             unfold L_tc
                             grind)
                          | (refine ih (j + 1) _ _ _ _ (by omega) (by omega) (Or.inr ⟨rfl, fun z => ?_⟩)
                             have y := z.2 j (Nat.lt_succ_self j)
                             clear hR hC ih
                             unfold L_tc at y
                             grind)
                      · refine G_iconst 169 hC (nI 1) (by decide) dX12_isLikeFirst_169 ?_
                        refine G_goto 170 174 hC dX12_isLikeFirst_170 (by decide) ?_
                        refine G_istore_n 174 hC 2 rfl (by decide) (ls' := [_, _, _, _, _, _, _]) rfl dX12_isLikeFirst_174 ?_
                        first | refine G_iincN 175 hC (by decide) rfl (ls' := [_, _, _, _, _, _, _]) rfl dX12_isLikeFirst_175 ?_ | refine G_iinc 175 hC _ rfl (by decide) rfl (ls' := [_, _, _, _, _, _, _]) rfl dX12_isLikeFirst_175 ?_
                        refine G_goto 178 61 hC dX12_isLikeFirst_178 (by decide) ?_
                        first
                          | (refine ih (j + 1) _ _ _ _ (by omega) (by omega) (Or.inl ⟨rfl, hP.1, lt_s hP.2 ?_⟩)
                             clear hR hC ih
                             unfold L_tc
                             grind)
                          | (refine ih (j + 1) _ _ _ _ (by omega) (by omega) (Or.inr ⟨rfl, fun z => ?_⟩)
                             have y := z.2 j (Nat.lt_succ_self j)
                             clear hR hC ih
                             unfold L_tc at y
                             grind)
                    · refine G_iconst 161 hC (nI 1) (by decide) dX12_isLikeFirst_161 ?_
                      refine G_goto 162 166 hC dX12_isLikeFirst_162 (by decide) ?_
                      refine G_icmp_ne 166 173 hC dX12_isLikeFirst_166 (by decide) (fun h166 => ?_) (fun h166 => ?_)
                      · refine G_iconst 173 hC (nI 0) (by decide) dX12_isLikeFirst_173 ?_
                        refine G_istore_n 174 hC 2 rfl (by decide) (ls' := [_, _, _, _, _, _, _]) rfl dX12_isLikeFirst_174 ?_
                        first | refine G_iincN 175 hC (by decide) rfl (ls' := [_, _, _, _, _, _, _]) rfl dX12_isLikeFirst_175 ?_ | refine G_iinc 175 hC _ rfl (by decide) rfl (ls' := [_, _, _, _, _, _, _]) rfl dX12_isLikeFirst_175 ?_
                        refine G_goto 178 61 hC dX12_isLikeFirst_178 (by decide) ?_
                        first
                          | (refine ih (j + 1) _ _ _ _ (by omega) (by omega) (Or.inl ⟨rfl, hP.1, lt_s hP.2 ?_⟩)
                             clear hR hC ih
                             unfold L_tc
                             grind)
                          | (refine ih (j + 1) _ _ _ _ (by omega) (by omega) (Or.inr ⟨rfl, fun z => ?_⟩)
                             have y := z.2 j (Nat.lt_succ_self j)
                             clear hR hC ih
                             unfold L_tc at y
                             grind)
                      · refine G_iconst 169 hC (nI 1) (by decide) dX12_isLikeFirst_169 ?_
                        refine G_goto 170 174 hC dX12_isLikeFirst_170 (by decide) ?_
                        refine G_istore_n 174 hC 2 rfl (by decide) (ls' := [_, _, _, _, _, _, _]) rfl dX12_isLikeFirst_174 ?_
                        first | refine G_iincN 175 hC (by decide) rfl (ls' := [_, _, _, _, _, _, _]) rfl dX12_isLikeFirst_175 ?_ | refine G_iinc 175 hC _ rfl (by decide) rfl (ls' := [_, _, _, _, _, _, _]) rfl dX12_isLikeFirst_175 ?_
                        refine G_goto 178 61 hC dX12_isLikeFirst_178 (by decide) ?_
                        first
                          | (refine ih (j + 1) _ _ _ _ (by omega) (by omega) (Or.inl ⟨rfl, hP.1, lt_s hP.2 ?_⟩)
                             clear hR hC ih
                             unfold L_tc
                             grind)
                          | (refine ih (j + 1) _ _ _ _ (by omega) (by omega) (Or.inr ⟨rfl, fun z => ?_⟩)
                             have y := z.2 j (Nat.lt_succ_self j)
                             clear hR hC ih
                             unfold L_tc at y
                             grind)
              · refine G_iload 127 hC rfl dX12_isLikeFirst_127 ?_
                refine G_iload 129 hC rfl dX12_isLikeFirst_129 ?_
                refine G_icmp_ne 131 173 hC dX12_isLikeFirst_131 (by decide) (fun h131 => ?_) (fun h131 => ?_)
                · refine G_iconst 173 hC (nI 0) (by decide) dX12_isLikeFirst_173 ?_
                  refine G_istore_n 174 hC 2 rfl (by decide) (ls' := [_, _, _, _, _, _, _]) rfl dX12_isLikeFirst_174 ?_
                  first | refine G_iincN 175 hC (by decide) rfl (ls' := [_, _, _, _, _, _, _]) rfl dX12_isLikeFirst_175 ?_ | refine G_iinc 175 hC _ rfl (by decide) rfl (ls' := [_, _, _, _, _, _, _]) rfl dX12_isLikeFirst_175 ?_
                  refine G_goto 178 61 hC dX12_isLikeFirst_178 (by decide) ?_
                  first
                    | (refine ih (j + 1) _ _ _ _ (by omega) (by omega) (Or.inl ⟨rfl, hP.1, lt_s hP.2 ?_⟩)
                       clear hR hC ih
                       unfold L_tc
                       grind)
                    | (refine ih (j + 1) _ _ _ _ (by omega) (by omega) (Or.inr ⟨rfl, fun z => ?_⟩)
                       have y := z.2 j (Nat.lt_succ_self j)
                       clear hR hC ih
                       unfold L_tc at y
                       grind)
                · refine G_aload_n 134 hC rfl dX12_isLikeFirst_134 ?_
                  refine M_getR 135 hC hF fl_X12_26_11 rfl rfl dX12_isLikeFirst_135 ?_
                  refine G_iload_n 138 hC rfl dX12_isLikeFirst_138 ?_
                  refine N_ialdO 139 hC hF rfl (by decide) (by decide) rfl (by omega) dX12_isLikeFirst_139 ?_
                  refine G_iconst 140 hC (nI 4) (by decide) dX12_isLikeFirst_140 ?_
                  refine G_icmp_ne 141 169 hC dX12_isLikeFirst_141 (by decide) (fun h141 => ?_) (fun h141 => ?_)
                  · refine G_iconst 169 hC (nI 1) (by decide) dX12_isLikeFirst_169 ?_
                    refine G_goto 170 174 hC dX12_isLikeFirst_170 (by decide) ?_
                    refine G_istore_n 174 hC 2 rfl (by decide) (ls' := [_, _, _, _, _, _, _]) rfl dX12_isLikeFirst_174 ?_
                    first | refine G_iincN 175 hC (by decide) rfl (ls' := [_, _, _, _, _, _, _]) rfl dX12_isLikeFirst_175 ?_ | refine G_iinc 175 hC _ rfl (by decide) rfl (ls' := [_, _, _, _, _, _, _]) rfl dX12_isLikeFirst_175 ?_
                    refine G_goto 178 61 hC dX12_isLikeFirst_178 (by decide) ?_
                    first
                      | (refine ih (j + 1) _ _ _ _ (by omega) (by omega) (Or.inl ⟨rfl, hP.1, lt_s hP.2 ?_⟩)
                         clear hR hC ih
                         unfold L_tc
                         grind)
                      | (refine ih (j + 1) _ _ _ _ (by omega) (by omega) (Or.inr ⟨rfl, fun z => ?_⟩)
                         have y := z.2 j (Nat.lt_succ_self j)
                         clear hR hC ih
                         unfold L_tc at y
                         grind)
                  · refine G_iload 144 hC rfl dX12_isLikeFirst_144 ?_
                    refine G_iconst 146 hC (nI 4) (by decide) dX12_isLikeFirst_146 ?_
                    refine G_icmp_ne 147 154 hC dX12_isLikeFirst_147 (by decide) (fun h147 => ?_) (fun h147 => ?_)
                    · refine G_iconst 154 hC (nI 0) (by decide) dX12_isLikeFirst_154 ?_
                      refine G_iload 155 hC rfl dX12_isLikeFirst_155 ?_
                      refine G_iconst 157 hC (nI 4) (by decide) dX12_isLikeFirst_157 ?_
                      refine G_icmp_ne 158 165 hC dX12_isLikeFirst_158 (by decide) (fun h158 => ?_) (fun h158 => ?_)
                      · refine G_iconst 165 hC (nI 0) (by decide) dX12_isLikeFirst_165 ?_
                        refine G_icmp_ne 166 173 hC dX12_isLikeFirst_166 (by decide) (fun h166 => ?_) (fun h166 => ?_)
                        · refine G_iconst 173 hC (nI 0) (by decide) dX12_isLikeFirst_173 ?_
                          refine G_istore_n 174 hC 2 rfl (by decide) (ls' := [_, _, _, _, _, _, _]) rfl dX12_isLikeFirst_174 ?_
                          first | refine G_iincN 175 hC (by decide) rfl (ls' := [_, _, _, _, _, _, _]) rfl dX12_isLikeFirst_175 ?_ | refine G_iinc 175 hC _ rfl (by decide) rfl (ls' := [_, _, _, _, _, _, _]) rfl dX12_isLikeFirst_175 ?_
                          refine G_goto 178 61 hC dX12_isLikeFirst_178 (by decide) ?_
                          first
                            | (refine ih (j + 1) _ _ _ _ (by omega) (by omega) (Or.inl ⟨rfl, hP.1, lt_s hP.2 ?_⟩)
                               clear hR hC ih
                               unfold L_tc
                               grind)
                            | (refine ih (j + 1) _ _ _ _ (by omega) (by omega) (Or.inr ⟨rfl, fun z => ?_⟩)
                               have y := z.2 j (Nat.lt_succ_self j)
                               clear hR hC ih
                               unfold L_tc at y
                               grind)
                        · refine G_iconst 169 hC (nI 1) (by decide) dX12_isLikeFirst_169 ?_
                          refine G_goto 170 174 hC dX12_isLikeFirst_170 (by decide) ?_
                          refine G_istore_n 174 hC 2 rfl (by decide) (ls' := [_, _, _, _, _, _, _]) rfl dX12_isLikeFirst_174 ?_
                          first | refine G_iincN 175 hC (by decide) rfl (ls' := [_, _, _, _, _, _, _]) rfl dX12_isLikeFirst_175 ?_ | refine G_iinc 175 hC _ rfl (by decide) rfl (ls' := [_, _, _, _, _, _, _]) rfl dX12_isLikeFirst_175 ?_
                          refine G_goto 178 61 hC dX12_isLikeFirst_178 (by decide) ?_
                          first
                            | (refine ih (j + 1) _ _ _ _ (by omega) (by omega) (Or.inl ⟨rfl, hP.1, lt_s hP.2 ?_⟩)
                               clear hR hC ih
                               unfold L_tc
                               grind)
                            | (refine ih (j + 1) _ _ _ _ (by omega) (by omega) (Or.inr ⟨rfl, fun z => ?_⟩)
                               have y := z.2 j (Nat.lt_succ_self j)
                               clear hR hC ih
                               unfold L_tc at y
                               grind)
                      · refine G_iconst 161 hC (nI 1) (by decide) dX12_isLikeFirst_161 ?_
                        refine G_goto 162 166 hC dX12_isLikeFirst_162 (by decide) ?_
                        refine G_icmp_ne 166 173 hC dX12_isLikeFirst_166 (by decide) (fun h166 => ?_) (fun h166 => ?_)
                        · refine G_iconst 173 hC (nI 0) (by decide) dX12_isLikeFirst_173 ?_
                          refine G_istore_n 174 hC 2 rfl (by decide) (ls' := [_, _, _, _, _, _, _]) rfl dX12_isLikeFirst_174 ?_
                          first | refine G_iincN 175 hC (by decide) rfl (ls' := [_, _, _, _, _, _, _]) rfl dX12_isLikeFirst_175 ?_ | refine G_iinc 175 hC _ rfl (by decide) rfl (ls' := [_, _, _, _, _, _, _]) rfl dX12_isLikeFirst_175 ?_
                          refine G_goto 178 61 hC dX12_isLikeFirst_178 (by decide) ?_
                          first
                            | (refine ih (j + 1) _ _ _ _ (by omega) (by omega) (Or.inl ⟨rfl, hP.1, lt_s hP.2 ?_⟩)
                               clear hR hC ih
                               unfold L_tc
                               grind)
                            | (refine ih (j + 1) _ _ _ _ (by omega) (by omega) (Or.inr ⟨rfl, fun z => ?_⟩)
                               have y := z.2 j (Nat.lt_succ_self j)
                               clear hR hC ih
                               unfold L_tc at y
                               grind)
                        · refine G_iconst 169 hC (nI 1) (by decide) dX12_isLikeFirst_169 ?_
                          refine G_goto 170 174 hC dX12_isLikeFirst_170 (by decide) ?_
                          refine G_istore_n 174 hC 2 rfl (by decide) (ls' := [_, _, _, _, _, _, _]) rfl dX12_isLikeFirst_174 ?_
                          first | refine G_iincN 175 hC (by decide) rfl (ls' := [_, _, _, _, _, _, _]) rfl dX12_isLikeFirst_175 ?_ | refine G_iinc 175 hC _ rfl (by decide) rfl (ls' := [_, _, _, _, _, _, _]) rfl dX12_isLikeFirst_175 ?_
                          refine G_goto 178 61 hC dX12_isLikeFirst_178 (by decide) ?_
                          first
                            | (refine ih (j + 1) _ _ _ _ (by omega) (by omega) (Or.inl ⟨rfl, hP.1, lt_s hP.2 ?_⟩)
                               clear hR hC ih
                               unfold L_tc
                               grind)
                            | (refine ih (j + 1) _ _ _ _ (by omega) (by omega) (Or.inr ⟨rfl, fun z => ?_⟩)
                               have y := z.2 j (Nat.lt_succ_self j)
                               clear hR hC ih
                               unfold L_tc at y
                               grind)
                    · refine G_iconst 150 hC (nI 1) (by decide) dX12_isLikeFirst_150 ?_
                      refine G_goto 151 155 hC dX12_isLikeFirst_151 (by decide) ?_
                      refine G_iload 155 hC rfl dX12_isLikeFirst_155 ?_
                      refine G_iconst 157 hC (nI 4) (by decide) dX12_isLikeFirst_157 ?_
                      refine G_icmp_ne 158 165 hC dX12_isLikeFirst_158 (by decide) (fun h158 => ?_) (fun h158 => ?_)
                      · refine G_iconst 165 hC (nI 0) (by decide) dX12_isLikeFirst_165 ?_
                        refine G_icmp_ne 166 173 hC dX12_isLikeFirst_166 (by decide) (fun h166 => ?_) (fun h166 => ?_)
                        · refine G_iconst 173 hC (nI 0) (by decide) dX12_isLikeFirst_173 ?_
                          refine G_istore_n 174 hC 2 rfl (by decide) (ls' := [_, _, _, _, _, _, _]) rfl dX12_isLikeFirst_174 ?_
                          first | refine G_iincN 175 hC (by decide) rfl (ls' := [_, _, _, _, _, _, _]) rfl dX12_isLikeFirst_175 ?_ | refine G_iinc 175 hC _ rfl (by decide) rfl (ls' := [_, _, _, _, _, _, _]) rfl dX12_isLikeFirst_175 ?_
                          refine G_goto 178 61 hC dX12_isLikeFirst_178 (by decide) ?_
                          first
                            | (refine ih (j + 1) _ _ _ _ (by omega) (by omega) (Or.inl ⟨rfl, hP.1, lt_s hP.2 ?_⟩)
                               clear hR hC ih
                               unfold L_tc
                               grind)
                            | (refine ih (j + 1) _ _ _ _ (by omega) (by omega) (Or.inr ⟨rfl, fun z => ?_⟩)
                               have y := z.2 j (Nat.lt_succ_self j)
                               clear hR hC ih
                               unfold L_tc at y
                               grind)
                        · refine G_iconst 169 hC (nI 1) (by decide) dX12_isLikeFirst_169 ?_
                          refine G_goto 170 174 hC dX12_isLikeFirst_170 (by decide) ?_
                          refine G_istore_n 174 hC 2 rfl (by decide) (ls' := [_, _, _, _, _, _, _]) rfl dX12_isLikeFirst_174 ?_
                          first | refine G_iincN 175 hC (by decide) rfl (ls' := [_, _, _, _, _, _, _]) rfl dX12_isLikeFirst_175 ?_ | refine G_iinc 175 hC _ rfl (by decide) rfl (ls' := [_, _, _, _, _, _, _]) rfl dX12_isLikeFirst_175 ?_
                          refine G_goto 178 61 hC dX12_isLikeFirst_178 (by decide) ?_
                          first
                            | (refine ih (j + 1) _ _ _ _ (by omega) (by omega) (Or.inl ⟨rfl, hP.1, lt_s hP.2 ?_⟩)
                               clear hR hC ih
                               unfold L_tc
                               grind)
                            | (refine ih (j + 1) _ _ _ _ (by omega) (by omega) (Or.inr ⟨rfl, fun z => ?_⟩)
                               have y := z.2 j (Nat.lt_succ_self j)
                               clear hR hC ih
                               unfold L_tc at y
                               grind)
                      · refine G_iconst 161 hC (nI 1) (by decide) dX12_isLikeFirst_161 ?_
                        refine G_goto 162 166 hC dX12_isLikeFirst_162 (by decide) ?_
                        refine G_icmp_ne 166 173 hC dX12_isLikeFirst_166 (by decide) (fun h166 => ?_) (fun h166 => ?_)
                        · refine G_iconst 173 hC (nI 0) (by decide) dX12_isLikeFirst_173 ?_
                          refine G_istore_n 174 hC 2 rfl (by decide) (ls' := [_, _, _, _, _, _, _]) rfl dX12_isLikeFirst_174 ?_
                          first | refine G_iincN 175 hC (by decide) rfl (ls' := [_, _, _, _, _, _, _]) rfl dX12_isLikeFirst_175 ?_ | refine G_iinc 175 hC _ rfl (by decide) rfl (ls' := [_, _, _, _, _, _, _]) rfl dX12_isLikeFirst_175 ?_
                          refine G_goto 178 61 hC dX12_isLikeFirst_178 (by decide) ?_
                          first
                            | (refine ih (j + 1) _ _ _ _ (by omega) (by omega) (Or.inl ⟨rfl, hP.1, lt_s hP.2 ?_⟩)
                               clear hR hC ih
                               unfold L_tc
                               grind)
                            | (refine ih (j + 1) _ _ _ _ (by omega) (by omega) (Or.inr ⟨rfl, fun z => ?_⟩)
                               have y := z.2 j (Nat.lt_succ_self j)
                               clear hR hC ih
                               unfold L_tc at y
                               grind)
                        · refine G_iconst 169 hC (nI 1) (by decide) dX12_isLikeFirst_169 ?_
                          refine G_goto 170 174 hC dX12_isLikeFirst_170 (by decide) ?_
                          refine G_istore_n 174 hC 2 rfl (by decide) (ls' := [_, _, _, _, _, _, _]) rfl dX12_isLikeFirst_174 ?_
                          first | refine G_iincN 175 hC (by decide) rfl (ls' := [_, _, _, _, _, _, _]) rfl dX12_isLikeFirst_175 ?_ | refine G_iinc 175 hC _ rfl (by decide) rfl (ls' := [_, _, _, _, _, _, _]) rfl dX12_isLikeFirst_175 ?_
                          refine G_goto 178 61 hC dX12_isLikeFirst_178 (by decide) ?_
                          first
                            | (refine ih (j + 1) _ _ _ _ (by omega) (by omega) (Or.inl ⟨rfl, hP.1, lt_s hP.2 ?_⟩)
                               clear hR hC ih
                               unfold L_tc
                               grind)
                            | (refine ih (j + 1) _ _ _ _ (by omega) (by omega) (Or.inr ⟨rfl, fun z => ?_⟩)
                               have y := z.2 j (Nat.lt_succ_self j)
                               clear hR hC ih
                               unfold L_tc at y
                               grind)
          · refine G_iload_n 100 hC rfl dX12_isLikeFirst_100 ?_
            refine G_bipush 101 hC (-9) (by decide) dX12_isLikeFirst_101 ?_
            refine G_icmp_eq 103 111 hC dX12_isLikeFirst_103 (by decide) (fun h103 => ?_) (fun h103 => ?_)
            · first | have a108 := Int32.not_le.mp h108 | skip
              refine G_iconst 111 hC (nI 1) (by decide) dX12_isLikeFirst_111 ?_
              refine G_goto 112 116 hC dX12_isLikeFirst_112 (by decide) ?_
              refine G_istore 116 hC (by decide) (ls' := [_, _, _, _, _, _, _]) rfl dX12_isLikeFirst_116 ?_
              refine G_iload_n 118 hC rfl dX12_isLikeFirst_118 ?_
              first | refine G_if_eq_b 119 173 hC dX12_isLikeFirst_119 (by decide) (fun h119 => ?_) (fun h119 => ?_) | refine G_if_eq 119 173 hC dX12_isLikeFirst_119 (by decide) (fun h119 => ?_) (fun h119 => ?_)
              · exact absurd h119 (by decide)
              · refine G_iload 122 hC rfl dX12_isLikeFirst_122 ?_
                first | refine G_if_eq_b 124 134 hC dX12_isLikeFirst_124 (by decide) (fun h124 => ?_) (fun h124 => ?_) | refine G_if_eq 124 134 hC dX12_isLikeFirst_124 (by decide) (fun h124 => ?_) (fun h124 => ?_)
                · refine G_aload_n 134 hC rfl dX12_isLikeFirst_134 ?_
                  refine M_getR 135 hC hF fl_X12_26_11 rfl rfl dX12_isLikeFirst_135 ?_
                  refine G_iload_n 138 hC rfl dX12_isLikeFirst_138 ?_
                  refine N_ialdO 139 hC hF rfl (by decide) (by decide) rfl (by omega) dX12_isLikeFirst_139 ?_
                  refine G_iconst 140 hC (nI 4) (by decide) dX12_isLikeFirst_140 ?_
                  refine G_icmp_ne 141 169 hC dX12_isLikeFirst_141 (by decide) (fun h141 => ?_) (fun h141 => ?_)
                  · refine G_iconst 169 hC (nI 1) (by decide) dX12_isLikeFirst_169 ?_
                    refine G_goto 170 174 hC dX12_isLikeFirst_170 (by decide) ?_
                    refine G_istore_n 174 hC 2 rfl (by decide) (ls' := [_, _, _, _, _, _, _]) rfl dX12_isLikeFirst_174 ?_
                    first | refine G_iincN 175 hC (by decide) rfl (ls' := [_, _, _, _, _, _, _]) rfl dX12_isLikeFirst_175 ?_ | refine G_iinc 175 hC _ rfl (by decide) rfl (ls' := [_, _, _, _, _, _, _]) rfl dX12_isLikeFirst_175 ?_
                    refine G_goto 178 61 hC dX12_isLikeFirst_178 (by decide) ?_
                    first
                      | (refine ih (j + 1) _ _ _ _ (by omega) (by omega) (Or.inl ⟨rfl, hP.1, lt_s hP.2 ?_⟩)
                         clear hR hC ih
                         unfold L_tc
                         grind)
                      | (refine ih (j + 1) _ _ _ _ (by omega) (by omega) (Or.inr ⟨rfl, fun z => ?_⟩)
                         have y := z.2 j (Nat.lt_succ_self j)
                         clear hR hC ih
                         unfold L_tc at y
                         grind)
                  · refine G_iload 144 hC rfl dX12_isLikeFirst_144 ?_
                    refine G_iconst 146 hC (nI 4) (by decide) dX12_isLikeFirst_146 ?_
                    refine G_icmp_ne 147 154 hC dX12_isLikeFirst_147 (by decide) (fun h147 => ?_) (fun h147 => ?_)
                    · refine G_iconst 154 hC (nI 0) (by decide) dX12_isLikeFirst_154 ?_
                      refine G_iload 155 hC rfl dX12_isLikeFirst_155 ?_
                      refine G_iconst 157 hC (nI 4) (by decide) dX12_isLikeFirst_157 ?_
                      refine G_icmp_ne 158 165 hC dX12_isLikeFirst_158 (by decide) (fun h158 => ?_) (fun h158 => ?_)
                      · refine G_iconst 165 hC (nI 0) (by decide) dX12_isLikeFirst_165 ?_
                        refine G_icmp_ne 166 173 hC dX12_isLikeFirst_166 (by decide) (fun h166 => ?_) (fun h166 => ?_)
                        · refine G_iconst 173 hC (nI 0) (by decide) dX12_isLikeFirst_173 ?_
                          refine G_istore_n 174 hC 2 rfl (by decide) (ls' := [_, _, _, _, _, _, _]) rfl dX12_isLikeFirst_174 ?_
                          first | refine G_iincN 175 hC (by decide) rfl (ls' := [_, _, _, _, _, _, _]) rfl dX12_isLikeFirst_175 ?_ | refine G_iinc 175 hC _ rfl (by decide) rfl (ls' := [_, _, _, _, _, _, _]) rfl dX12_isLikeFirst_175 ?_
                          refine G_goto 178 61 hC dX12_isLikeFirst_178 (by decide) ?_
                          first
                            | (refine ih (j + 1) _ _ _ _ (by omega) (by omega) (Or.inl ⟨rfl, hP.1, lt_s hP.2 ?_⟩)
                               clear hR hC ih
                               unfold L_tc
                               grind)
                            | (refine ih (j + 1) _ _ _ _ (by omega) (by omega) (Or.inr ⟨rfl, fun z => ?_⟩)
                               have y := z.2 j (Nat.lt_succ_self j)
                               clear hR hC ih
                               unfold L_tc at y
                               grind)
                        · refine G_iconst 169 hC (nI 1) (by decide) dX12_isLikeFirst_169 ?_
                          refine G_goto 170 174 hC dX12_isLikeFirst_170 (by decide) ?_
                          refine G_istore_n 174 hC 2 rfl (by decide) (ls' := [_, _, _, _, _, _, _]) rfl dX12_isLikeFirst_174 ?_
                          first | refine G_iincN 175 hC (by decide) rfl (ls' := [_, _, _, _, _, _, _]) rfl dX12_isLikeFirst_175 ?_ | refine G_iinc 175 hC _ rfl (by decide) rfl (ls' := [_, _, _, _, _, _, _]) rfl dX12_isLikeFirst_175 ?_
                          refine G_goto 178 61 hC dX12_isLikeFirst_178 (by decide) ?_
                          first
                            | (refine ih (j + 1) _ _ _ _ (by omega) (by omega) (Or.inl ⟨rfl, hP.1, lt_s hP.2 ?_⟩)
                               clear hR hC ih
                               unfold L_tc
                               grind)
                            | (refine ih (j + 1) _ _ _ _ (by omega) (by omega) (Or.inr ⟨rfl, fun z => ?_⟩)
                               have y := z.2 j (Nat.lt_succ_self j)
                               clear hR hC ih
                               unfold L_tc at y
                               grind)
                      · refine G_iconst 161 hC (nI 1) (by decide) dX12_isLikeFirst_161 ?_
                        refine G_goto 162 166 hC dX12_isLikeFirst_162 (by decide) ?_
                        refine G_icmp_ne 166 173 hC dX12_isLikeFirst_166 (by decide) (fun h166 => ?_) (fun h166 => ?_)
                        · refine G_iconst 173 hC (nI 0) (by decide) dX12_isLikeFirst_173 ?_
                          refine G_istore_n 174 hC 2 rfl (by decide) (ls' := [_, _, _, _, _, _, _]) rfl dX12_isLikeFirst_174 ?_
                          first | refine G_iincN 175 hC (by decide) rfl (ls' := [_, _, _, _, _, _, _]) rfl dX12_isLikeFirst_175 ?_ | refine G_iinc 175 hC _ rfl (by decide) rfl (ls' := [_, _, _, _, _, _, _]) rfl dX12_isLikeFirst_175 ?_
                          refine G_goto 178 61 hC dX12_isLikeFirst_178 (by decide) ?_
                          first
                            | (refine ih (j + 1) _ _ _ _ (by omega) (by omega) (Or.inl ⟨rfl, hP.1, lt_s hP.2 ?_⟩)
                               clear hR hC ih
                               unfold L_tc
                               grind)
                            | (refine ih (j + 1) _ _ _ _ (by omega) (by omega) (Or.inr ⟨rfl, fun z => ?_⟩)
                               have y := z.2 j (Nat.lt_succ_self j)
                               clear hR hC ih
                               unfold L_tc at y
                               grind)
                        · refine G_iconst 169 hC (nI 1) (by decide) dX12_isLikeFirst_169 ?_
                          refine G_goto 170 174 hC dX12_isLikeFirst_170 (by decide) ?_
                          refine G_istore_n 174 hC 2 rfl (by decide) (ls' := [_, _, _, _, _, _, _]) rfl dX12_isLikeFirst_174 ?_
                          first | refine G_iincN 175 hC (by decide) rfl (ls' := [_, _, _, _, _, _, _]) rfl dX12_isLikeFirst_175 ?_ | refine G_iinc 175 hC _ rfl (by decide) rfl (ls' := [_, _, _, _, _, _, _]) rfl dX12_isLikeFirst_175 ?_
                          refine G_goto 178 61 hC dX12_isLikeFirst_178 (by decide) ?_
                          first
                            | (refine ih (j + 1) _ _ _ _ (by omega) (by omega) (Or.inl ⟨rfl, hP.1, lt_s hP.2 ?_⟩)
                               clear hR hC ih
                               unfold L_tc
                               grind)
                            | (refine ih (j + 1) _ _ _ _ (by omega) (by omega) (Or.inr ⟨rfl, fun z => ?_⟩)
                               have y := z.2 j (Nat.lt_succ_self j)
                               clear hR hC ih
                               unfold L_tc at y
                               grind)
                    · refine G_iconst 150 hC (nI 1) (by decide) dX12_isLikeFirst_150 ?_
                      refine G_goto 151 155 hC dX12_isLikeFirst_151 (by decide) ?_
                      refine G_iload 155 hC rfl dX12_isLikeFirst_155 ?_
                      refine G_iconst 157 hC (nI 4) (by decide) dX12_isLikeFirst_157 ?_
                      refine G_icmp_ne 158 165 hC dX12_isLikeFirst_158 (by decide) (fun h158 => ?_) (fun h158 => ?_)
                      · refine G_iconst 165 hC (nI 0) (by decide) dX12_isLikeFirst_165 ?_
                        refine G_icmp_ne 166 173 hC dX12_isLikeFirst_166 (by decide) (fun h166 => ?_) (fun h166 => ?_)
                        · refine G_iconst 173 hC (nI 0) (by decide) dX12_isLikeFirst_173 ?_
                          refine G_istore_n 174 hC 2 rfl (by decide) (ls' := [_, _, _, _, _, _, _]) rfl dX12_isLikeFirst_174 ?_
                          first | refine G_iincN 175 hC (by decide) rfl (ls' := [_, _, _, _, _, _, _]) rfl dX12_isLikeFirst_175 ?_ | refine G_iinc 175 hC _ rfl (by decide) rfl (ls' := [_, _, _, _, _, _, _]) rfl dX12_isLikeFirst_175 ?_
                          refine G_goto 178 61 hC dX12_isLikeFirst_178 (by decide) ?_
                          first
                            | (refine ih (j + 1) _ _ _ _ (by omega) (by omega) (Or.inl ⟨rfl, hP.1, lt_s hP.2 ?_⟩)
                               clear hR hC ih
                               unfold L_tc
                               grind)
                            | (refine ih (j + 1) _ _ _ _ (by omega) (by omega) (Or.inr ⟨rfl, fun z => ?_⟩)
                               have y := z.2 j (Nat.lt_succ_self j)
                               clear hR hC ih
                               unfold L_tc at y
                               grind)
                        · refine G_iconst 169 hC (nI 1) (by decide) dX12_isLikeFirst_169 ?_
                          refine G_goto 170 174 hC dX12_isLikeFirst_170 (by decide) ?_
                          refine G_istore_n 174 hC 2 rfl (by decide) (ls' := [_, _, _, _, _, _, _]) rfl dX12_isLikeFirst_174 ?_
                          first | refine G_iincN 175 hC (by decide) rfl (ls' := [_, _, _, _, _, _, _]) rfl dX12_isLikeFirst_175 ?_ | refine G_iinc 175 hC _ rfl (by decide) rfl (ls' := [_, _, _, _, _, _, _]) rfl dX12_isLikeFirst_175 ?_
                          refine G_goto 178 61 hC dX12_isLikeFirst_178 (by decide) ?_
                          first
                            | (refine ih (j + 1) _ _ _ _ (by omega) (by omega) (Or.inl ⟨rfl, hP.1, lt_s hP.2 ?_⟩)
                               clear hR hC ih
                               unfold L_tc
                               grind)
                            | (refine ih (j + 1) _ _ _ _ (by omega) (by omega) (Or.inr ⟨rfl, fun z => ?_⟩)
                               have y := z.2 j (Nat.lt_succ_self j)
                               clear hR hC ih
                               unfold L_tc at y
                               grind)
                      · refine G_iconst 161 hC (nI 1) (by decide) dX12_isLikeFirst_161 ?_
                        refine G_goto 162 166 hC dX12_isLikeFirst_162 (by decide) ?_
                        refine G_icmp_ne 166 173 hC dX12_isLikeFirst_166 (by decide) (fun h166 => ?_) (fun h166 => ?_)
                        · refine G_iconst 173 hC (nI 0) (by decide) dX12_isLikeFirst_173 ?_
                          refine G_istore_n 174 hC 2 rfl (by decide) (ls' := [_, _, _, _, _, _, _]) rfl dX12_isLikeFirst_174 ?_
                          first | refine G_iincN 175 hC (by decide) rfl (ls' := [_, _, _, _, _, _, _]) rfl dX12_isLikeFirst_175 ?_ | refine G_iinc 175 hC _ rfl (by decide) rfl (ls' := [_, _, _, _, _, _, _]) rfl dX12_isLikeFirst_175 ?_
                          refine G_goto 178 61 hC dX12_isLikeFirst_178 (by decide) ?_
                          first
                            | (refine ih (j + 1) _ _ _ _ (by omega) (by omega) (Or.inl ⟨rfl, hP.1, lt_s hP.2 ?_⟩)
                               clear hR hC ih
                               unfold L_tc
                               grind)
                            | (refine ih (j + 1) _ _ _ _ (by omega) (by omega) (Or.inr ⟨rfl, fun z => ?_⟩)
                               have y := z.2 j (Nat.lt_succ_self j)
                               clear hR hC ih
                               unfold L_tc at y
                               grind)
                        · refine G_iconst 169 hC (nI 1) (by decide) dX12_isLikeFirst_169 ?_
                          refine G_goto 170 174 hC dX12_isLikeFirst_170 (by decide) ?_
                          refine G_istore_n 174 hC 2 rfl (by decide) (ls' := [_, _, _, _, _, _, _]) rfl dX12_isLikeFirst_174 ?_
                          first | refine G_iincN 175 hC (by decide) rfl (ls' := [_, _, _, _, _, _, _]) rfl dX12_isLikeFirst_175 ?_ | refine G_iinc 175 hC _ rfl (by decide) rfl (ls' := [_, _, _, _, _, _, _]) rfl dX12_isLikeFirst_175 ?_
                          refine G_goto 178 61 hC dX12_isLikeFirst_178 (by decide) ?_
                          first
                            | (refine ih (j + 1) _ _ _ _ (by omega) (by omega) (Or.inl ⟨rfl, hP.1, lt_s hP.2 ?_⟩)
                               clear hR hC ih
                               unfold L_tc
                               grind)
                            | (refine ih (j + 1) _ _ _ _ (by omega) (by omega) (Or.inr ⟨rfl, fun z => ?_⟩)
                               have y := z.2 j (Nat.lt_succ_self j)
                               clear hR hC ih
                               unfold L_tc at y
                               grind)
                · refine G_iload 127 hC rfl dX12_isLikeFirst_127 ?_
                  refine G_iload 129 hC rfl dX12_isLikeFirst_129 ?_
                  refine G_icmp_ne 131 173 hC dX12_isLikeFirst_131 (by decide) (fun h131 => ?_) (fun h131 => ?_)
                  · refine G_iconst 173 hC (nI 0) (by decide) dX12_isLikeFirst_173 ?_
                    refine G_istore_n 174 hC 2 rfl (by decide) (ls' := [_, _, _, _, _, _, _]) rfl dX12_isLikeFirst_174 ?_
                    first | refine G_iincN 175 hC (by decide) rfl (ls' := [_, _, _, _, _, _, _]) rfl dX12_isLikeFirst_175 ?_ | refine G_iinc 175 hC _ rfl (by decide) rfl (ls' := [_, _, _, _, _, _, _]) rfl dX12_isLikeFirst_175 ?_
                    refine G_goto 178 61 hC dX12_isLikeFirst_178 (by decide) ?_
                    first
                      | (refine ih (j + 1) _ _ _ _ (by omega) (by omega) (Or.inl ⟨rfl, hP.1, lt_s hP.2 ?_⟩)
                         clear hR hC ih
                         unfold L_tc
                         grind)
                      | (refine ih (j + 1) _ _ _ _ (by omega) (by omega) (Or.inr ⟨rfl, fun z => ?_⟩)
                         have y := z.2 j (Nat.lt_succ_self j)
                         clear hR hC ih
                         unfold L_tc at y
                         grind)
                  · refine G_aload_n 134 hC rfl dX12_isLikeFirst_134 ?_
                    refine M_getR 135 hC hF fl_X12_26_11 rfl rfl dX12_isLikeFirst_135 ?_
                    refine G_iload_n 138 hC rfl dX12_isLikeFirst_138 ?_
                    refine N_ialdO 139 hC hF rfl (by decide) (by decide) rfl (by omega) dX12_isLikeFirst_139 ?_
                    refine G_iconst 140 hC (nI 4) (by decide) dX12_isLikeFirst_140 ?_
                    refine G_icmp_ne 141 169 hC dX12_isLikeFirst_141 (by decide) (fun h141 => ?_) (fun h141 => ?_)
                    · refine G_iconst 169 hC (nI 1) (by decide) dX12_isLikeFirst_169 ?_
                      refine G_goto 170 174 hC dX12_isLikeFirst_170 (by decide) ?_
                      refine G_istore_n 174 hC 2 rfl (by decide) (ls' := [_, _, _, _, _, _, _]) rfl dX12_isLikeFirst_174 ?_
                      first | refine G_iincN 175 hC (by decide) rfl (ls' := [_, _, _, _, _, _, _]) rfl dX12_isLikeFirst_175 ?_ | refine G_iinc 175 hC _ rfl (by decide) rfl (ls' := [_, _, _, _, _, _, _]) rfl dX12_isLikeFirst_175 ?_
                      refine G_goto 178 61 hC dX12_isLikeFirst_178 (by decide) ?_
                      first
                        | (refine ih (j + 1) _ _ _ _ (by omega) (by omega) (Or.inl ⟨rfl, hP.1, lt_s hP.2 ?_⟩)
                           clear hR hC ih
                           unfold L_tc
                           grind)
                        | (refine ih (j + 1) _ _ _ _ (by omega) (by omega) (Or.inr ⟨rfl, fun z => ?_⟩)
                           have y := z.2 j (Nat.lt_succ_self j)
                           clear hR hC ih
                           unfold L_tc at y
                           grind)
                    · refine G_iload 144 hC rfl dX12_isLikeFirst_144 ?_
                      refine G_iconst 146 hC (nI 4) (by decide) dX12_isLikeFirst_146 ?_
                      refine G_icmp_ne 147 154 hC dX12_isLikeFirst_147 (by decide) (fun h147 => ?_) (fun h147 => ?_)
                      · refine G_iconst 154 hC (nI 0) (by decide) dX12_isLikeFirst_154 ?_
                        refine G_iload 155 hC rfl dX12_isLikeFirst_155 ?_
                        refine G_iconst 157 hC (nI 4) (by decide) dX12_isLikeFirst_157 ?_
                        refine G_icmp_ne 158 165 hC dX12_isLikeFirst_158 (by decide) (fun h158 => ?_) (fun h158 => ?_)
                        · refine G_iconst 165 hC (nI 0) (by decide) dX12_isLikeFirst_165 ?_
                          refine G_icmp_ne 166 173 hC dX12_isLikeFirst_166 (by decide) (fun h166 => ?_) (fun h166 => ?_)
                          · refine G_iconst 173 hC (nI 0) (by decide) dX12_isLikeFirst_173 ?_
                            refine G_istore_n 174 hC 2 rfl (by decide) (ls' := [_, _, _, _, _, _, _]) rfl dX12_isLikeFirst_174 ?_
                            first | refine G_iincN 175 hC (by decide) rfl (ls' := [_, _, _, _, _, _, _]) rfl dX12_isLikeFirst_175 ?_ | refine G_iinc 175 hC _ rfl (by decide) rfl (ls' := [_, _, _, _, _, _, _]) rfl dX12_isLikeFirst_175 ?_
                            refine G_goto 178 61 hC dX12_isLikeFirst_178 (by decide) ?_
                            first
                              | (refine ih (j + 1) _ _ _ _ (by omega) (by omega) (Or.inl ⟨rfl, hP.1, lt_s hP.2 ?_⟩)
                                 clear hR hC ih
                                 unfold L_tc
                                 grind)
                              | (refine ih (j + 1) _ _ _ _ (by omega) (by omega) (Or.inr ⟨rfl, fun z => ?_⟩)
                                 have y := z.2 j (Nat.lt_succ_self j)
                                 clear hR hC ih
                                 unfold L_tc at y
                                 grind)
                          · refine G_iconst 169 hC (nI 1) (by decide) dX12_isLikeFirst_169 ?_
                            refine G_goto 170 174 hC dX12_isLikeFirst_170 (by decide) ?_
                            refine G_istore_n 174 hC 2 rfl (by decide) (ls' := [_, _, _, _, _, _, _]) rfl dX12_isLikeFirst_174 ?_
                            first | refine G_iincN 175 hC (by decide) rfl (ls' := [_, _, _, _, _, _, _]) rfl dX12_isLikeFirst_175 ?_ | refine G_iinc 175 hC _ rfl (by decide) rfl (ls' := [_, _, _, _, _, _, _]) rfl dX12_isLikeFirst_175 ?_
                            refine G_goto 178 61 hC dX12_isLikeFirst_178 (by decide) ?_
                            first
                              | (refine ih (j + 1) _ _ _ _ (by omega) (by omega) (Or.inl ⟨rfl, hP.1, lt_s hP.2 ?_⟩)
                                 clear hR hC ih
                                 unfold L_tc
                                 grind)
                              | (refine ih (j + 1) _ _ _ _ (by omega) (by omega) (Or.inr ⟨rfl, fun z => ?_⟩)
                                 have y := z.2 j (Nat.lt_succ_self j)
                                 clear hR hC ih
                                 unfold L_tc at y
                                 grind)
                        · refine G_iconst 161 hC (nI 1) (by decide) dX12_isLikeFirst_161 ?_
                          refine G_goto 162 166 hC dX12_isLikeFirst_162 (by decide) ?_
                          refine G_icmp_ne 166 173 hC dX12_isLikeFirst_166 (by decide) (fun h166 => ?_) (fun h166 => ?_)
                          · refine G_iconst 173 hC (nI 0) (by decide) dX12_isLikeFirst_173 ?_
                            refine G_istore_n 174 hC 2 rfl (by decide) (ls' := [_, _, _, _, _, _, _]) rfl dX12_isLikeFirst_174 ?_
                            first | refine G_iincN 175 hC (by decide) rfl (ls' := [_, _, _, _, _, _, _]) rfl dX12_isLikeFirst_175 ?_ | refine G_iinc 175 hC _ rfl (by decide) rfl (ls' := [_, _, _, _, _, _, _]) rfl dX12_isLikeFirst_175 ?_
                            refine G_goto 178 61 hC dX12_isLikeFirst_178 (by decide) ?_
                            first
                              | (refine ih (j + 1) _ _ _ _ (by omega) (by omega) (Or.inl ⟨rfl, hP.1, lt_s hP.2 ?_⟩)
                                 clear hR hC ih
                                 unfold L_tc
                                 grind)
                              | (refine ih (j + 1) _ _ _ _ (by omega) (by omega) (Or.inr ⟨rfl, fun z => ?_⟩)
                                 have y := z.2 j (Nat.lt_succ_self j)
                                 clear hR hC ih
                                 unfold L_tc at y
                                 grind)
                          · refine G_iconst 169 hC (nI 1) (by decide) dX12_isLikeFirst_169 ?_
                            refine G_goto 170 174 hC dX12_isLikeFirst_170 (by decide) ?_
                            refine G_istore_n 174 hC 2 rfl (by decide) (ls' := [_, _, _, _, _, _, _]) rfl dX12_isLikeFirst_174 ?_
                            first | refine G_iincN 175 hC (by decide) rfl (ls' := [_, _, _, _, _, _, _]) rfl dX12_isLikeFirst_175 ?_ | refine G_iinc 175 hC _ rfl (by decide) rfl (ls' := [_, _, _, _, _, _, _]) rfl dX12_isLikeFirst_175 ?_
                            refine G_goto 178 61 hC dX12_isLikeFirst_178 (by decide) ?_
                            first
                              | (refine ih (j + 1) _ _ _ _ (by omega) (by omega) (Or.inl ⟨rfl, hP.1, lt_s hP.2 ?_⟩)
                                 clear hR hC ih
                                 unfold L_tc
                                 grind)
                              | (refine ih (j + 1) _ _ _ _ (by omega) (by omega) (Or.inr ⟨rfl, fun z => ?_⟩)
                                 have y := z.2 j (Nat.lt_succ_self j)
                                 clear hR hC ih
                                 unfold L_tc at y
                                 grind)
                      · refine G_iconst 150 hC (nI 1) (by decide) dX12_isLikeFirst_150 ?_
                        refine G_goto 151 155 hC dX12_isLikeFirst_151 (by decide) ?_
                        refine G_iload 155 hC rfl dX12_isLikeFirst_155 ?_
                        refine G_iconst 157 hC (nI 4) (by decide) dX12_isLikeFirst_157 ?_
                        refine G_icmp_ne 158 165 hC dX12_isLikeFirst_158 (by decide) (fun h158 => ?_) (fun h158 => ?_)
                        · refine G_iconst 165 hC (nI 0) (by decide) dX12_isLikeFirst_165 ?_
                          refine G_icmp_ne 166 173 hC dX12_isLikeFirst_166 (by decide) (fun h166 => ?_) (fun h166 => ?_)
                          · refine G_iconst 173 hC (nI 0) (by decide) dX12_isLikeFirst_173 ?_
                            refine G_istore_n 174 hC 2 rfl (by decide) (ls' := [_, _, _, _, _, _, _]) rfl dX12_isLikeFirst_174 ?_
                            first | refine G_iincN 175 hC (by decide) rfl (ls' := [_, _, _, _, _, _, _]) rfl dX12_isLikeFirst_175 ?_ | refine G_iinc 175 hC _ rfl (by decide) rfl (ls' := [_, _, _, _, _, _, _]) rfl dX12_isLikeFirst_175 ?_
                            refine G_goto 178 61 hC dX12_isLikeFirst_178 (by decide) ?_
                            first
                              | (refine ih (j + 1) _ _ _ _ (by omega) (by omega) (Or.inl ⟨rfl, hP.1, lt_s hP.2 ?_⟩)
                                 clear hR hC ih
                                 unfold L_tc
                                 grind)
                              | (refine ih (j + 1) _ _ _ _ (by omega) (by omega) (Or.inr ⟨rfl, fun z => ?_⟩)
                                 have y := z.2 j (Nat.lt_succ_self j)
                                 clear hR hC ih
                                 unfold L_tc at y
                                 grind)
                          · refine G_iconst 169 hC (nI 1) (by decide) dX12_isLikeFirst_169 ?_
                            refine G_goto 170 174 hC dX12_isLikeFirst_170 (by decide) ?_
                            refine G_istore_n 174 hC 2 rfl (by decide) (ls' := [_, _, _, _, _, _, _]) rfl dX12_isLikeFirst_174 ?_
                            first | refine G_iincN 175 hC (by decide) rfl (ls' := [_, _, _, _, _, _, _]) rfl dX12_isLikeFirst_175 ?_ | refine G_iinc 175 hC _ rfl (by decide) rfl (ls' := [_, _, _, _, _, _, _]) rfl dX12_isLikeFirst_175 ?_
                            refine G_goto 178 61 hC dX12_isLikeFirst_178 (by decide) ?_
                            first
                              | (refine ih (j + 1) _ _ _ _ (by omega) (by omega) (Or.inl ⟨rfl, hP.1, lt_s hP.2 ?_⟩)
                                 clear hR hC ih
                                 unfold L_tc
                                 grind)
                              | (refine ih (j + 1) _ _ _ _ (by omega) (by omega) (Or.inr ⟨rfl, fun z => ?_⟩)
                                 have y := z.2 j (Nat.lt_succ_self j)
                                 clear hR hC ih
                                 unfold L_tc at y
                                 grind)
                        · refine G_iconst 161 hC (nI 1) (by decide) dX12_isLikeFirst_161 ?_
                          refine G_goto 162 166 hC dX12_isLikeFirst_162 (by decide) ?_
                          refine G_icmp_ne 166 173 hC dX12_isLikeFirst_166 (by decide) (fun h166 => ?_) (fun h166 => ?_)
                          · refine G_iconst 173 hC (nI 0) (by decide) dX12_isLikeFirst_173 ?_
                            refine G_istore_n 174 hC 2 rfl (by decide) (ls' := [_, _, _, _, _, _, _]) rfl dX12_isLikeFirst_174 ?_
                            first | refine G_iincN 175 hC (by decide) rfl (ls' := [_, _, _, _, _, _, _]) rfl dX12_isLikeFirst_175 ?_ | refine G_iinc 175 hC _ rfl (by decide) rfl (ls' := [_, _, _, _, _, _, _]) rfl dX12_isLikeFirst_175 ?_
                            refine G_goto 178 61 hC dX12_isLikeFirst_178 (by decide) ?_
                            first
                              | (refine ih (j + 1) _ _ _ _ (by omega) (by omega) (Or.inl ⟨rfl, hP.1, lt_s hP.2 ?_⟩)
                                 clear hR hC ih
                                 unfold L_tc
                                 grind)
                              | (refine ih (j + 1) _ _ _ _ (by omega) (by omega) (Or.inr ⟨rfl, fun z => ?_⟩)
                                 have y := z.2 j (Nat.lt_succ_self j)
                                 clear hR hC ih
                                 unfold L_tc at y
                                 grind)
                          · refine G_iconst 169 hC (nI 1) (by decide) dX12_isLikeFirst_169 ?_
                            refine G_goto 170 174 hC dX12_isLikeFirst_170 (by decide) ?_
                            refine G_istore_n 174 hC 2 rfl (by decide) (ls' := [_, _, _, _, _, _, _]) rfl dX12_isLikeFirst_174 ?_
                            first | refine G_iincN 175 hC (by decide) rfl (ls' := [_, _, _, _, _, _, _]) rfl dX12_isLikeFirst_175 ?_ | refine G_iinc 175 hC _ rfl (by decide) rfl (ls' := [_, _, _, _, _, _, _]) rfl dX12_isLikeFirst_175 ?_
                            refine G_goto 178 61 hC dX12_isLikeFirst_178 (by decide) ?_
                            first
                              | (refine ih (j + 1) _ _ _ _ (by omega) (by omega) (Or.inl ⟨rfl, hP.1, lt_s hP.2 ?_⟩)
                                 clear hR hC ih
                                 unfold L_tc
                                 grind)
                              | (refine ih (j + 1) _ _ _ _ (by omega) (by omega) (Or.inr ⟨rfl, fun z => ?_⟩)
                                 have y := z.2 j (Nat.lt_succ_self j)
                                 clear hR hC ih
                                 unfold L_tc at y
                                 grind)
            · refine G_iload_n 106 hC rfl dX12_isLikeFirst_106 ?_
              refine G_iload_n 107 hC rfl dX12_isLikeFirst_107 ?_
              refine G_icmp_ge 108 115 hC dX12_isLikeFirst_108 (by decide) (fun h108 => ?_) (fun h108 => ?_)
              · first | have a108 := Int32.not_lt.mpr h108 | skip
                refine G_iconst 115 hC (nI 0) (by decide) dX12_isLikeFirst_115 ?_
                refine G_istore 116 hC (by decide) (ls' := [_, _, _, _, _, _, _]) rfl dX12_isLikeFirst_116 ?_
                refine G_iload_n 118 hC rfl dX12_isLikeFirst_118 ?_
                first | refine G_if_eq_b 119 173 hC dX12_isLikeFirst_119 (by decide) (fun h119 => ?_) (fun h119 => ?_) | refine G_if_eq 119 173 hC dX12_isLikeFirst_119 (by decide) (fun h119 => ?_) (fun h119 => ?_)
                · exact absurd h119 (by decide)
                · refine G_iload 122 hC rfl dX12_isLikeFirst_122 ?_
                  first | refine G_if_eq_b 124 134 hC dX12_isLikeFirst_124 (by decide) (fun h124 => ?_) (fun h124 => ?_) | refine G_if_eq 124 134 hC dX12_isLikeFirst_124 (by decide) (fun h124 => ?_) (fun h124 => ?_)
                  · refine G_aload_n 134 hC rfl dX12_isLikeFirst_134 ?_
                    refine M_getR 135 hC hF fl_X12_26_11 rfl rfl dX12_isLikeFirst_135 ?_
                    refine G_iload_n 138 hC rfl dX12_isLikeFirst_138 ?_
                    refine N_ialdO 139 hC hF rfl (by decide) (by decide) rfl (by omega) dX12_isLikeFirst_139 ?_
                    refine G_iconst 140 hC (nI 4) (by decide) dX12_isLikeFirst_140 ?_
                    refine G_icmp_ne 141 169 hC dX12_isLikeFirst_141 (by decide) (fun h141 => ?_) (fun h141 => ?_)
                    · refine G_iconst 169 hC (nI 1) (by decide) dX12_isLikeFirst_169 ?_
                      refine G_goto 170 174 hC dX12_isLikeFirst_170 (by decide) ?_
                      refine G_istore_n 174 hC 2 rfl (by decide) (ls' := [_, _, _, _, _, _, _]) rfl dX12_isLikeFirst_174 ?_
                      first | refine G_iincN 175 hC (by decide) rfl (ls' := [_, _, _, _, _, _, _]) rfl dX12_isLikeFirst_175 ?_ | refine G_iinc 175 hC _ rfl (by decide) rfl (ls' := [_, _, _, _, _, _, _]) rfl dX12_isLikeFirst_175 ?_
                      refine G_goto 178 61 hC dX12_isLikeFirst_178 (by decide) ?_
                      first
                        | (refine ih (j + 1) _ _ _ _ (by omega) (by omega) (Or.inl ⟨rfl, hP.1, lt_s hP.2 ?_⟩)
                           clear hR hC ih
                           unfold L_tc
                           grind)
                        | (refine ih (j + 1) _ _ _ _ (by omega) (by omega) (Or.inr ⟨rfl, fun z => ?_⟩)
                           have y := z.2 j (Nat.lt_succ_self j)
                           clear hR hC ih
                           unfold L_tc at y
                           grind)
                    · refine G_iload 144 hC rfl dX12_isLikeFirst_144 ?_
                      refine G_iconst 146 hC (nI 4) (by decide) dX12_isLikeFirst_146 ?_
                      refine G_icmp_ne 147 154 hC dX12_isLikeFirst_147 (by decide) (fun h147 => ?_) (fun h147 => ?_)
                      · refine G_iconst 154 hC (nI 0) (by decide) dX12_isLikeFirst_154 ?_
                        refine G_iload 155 hC rfl dX12_isLikeFirst_155 ?_
                        refine G_iconst 157 hC (nI 4) (by decide) dX12_isLikeFirst_157 ?_
                        refine G_icmp_ne 158 165 hC dX12_isLikeFirst_158 (by decide) (fun h158 => ?_) (fun h158 => ?_)
                        · refine G_iconst 165 hC (nI 0) (by decide) dX12_isLikeFirst_165 ?_
                          refine G_icmp_ne 166 173 hC dX12_isLikeFirst_166 (by decide) (fun h166 => ?_) (fun h166 => ?_)
                          · refine G_iconst 173 hC (nI 0) (by decide) dX12_isLikeFirst_173 ?_
                            refine G_istore_n 174 hC 2 rfl (by decide) (ls' := [_, _, _, _, _, _, _]) rfl dX12_isLikeFirst_174 ?_
                            first | refine G_iincN 175 hC (by decide) rfl (ls' := [_, _, _, _, _, _, _]) rfl dX12_isLikeFirst_175 ?_ | refine G_iinc 175 hC _ rfl (by decide) rfl (ls' := [_, _, _, _, _, _, _]) rfl dX12_isLikeFirst_175 ?_
                            refine G_goto 178 61 hC dX12_isLikeFirst_178 (by decide) ?_
                            first
                              | (refine ih (j + 1) _ _ _ _ (by omega) (by omega) (Or.inl ⟨rfl, hP.1, lt_s hP.2 ?_⟩)
                                 clear hR hC ih
                                 unfold L_tc
                                 grind)
                              | (refine ih (j + 1) _ _ _ _ (by omega) (by omega) (Or.inr ⟨rfl, fun z => ?_⟩)
                                 have y := z.2 j (Nat.lt_succ_self j)
                                 clear hR hC ih
                                 unfold L_tc at y
                                 grind)
                          · refine G_iconst 169 hC (nI 1) (by decide) dX12_isLikeFirst_169 ?_
                            refine G_goto 170 174 hC dX12_isLikeFirst_170 (by decide) ?_
                            refine G_istore_n 174 hC 2 rfl (by decide) (ls' := [_, _, _, _, _, _, _]) rfl dX12_isLikeFirst_174 ?_
                            first | refine G_iincN 175 hC (by decide) rfl (ls' := [_, _, _, _, _, _, _]) rfl dX12_isLikeFirst_175 ?_ | refine G_iinc 175 hC _ rfl (by decide) rfl (ls' := [_, _, _, _, _, _, _]) rfl dX12_isLikeFirst_175 ?_
                            refine G_goto 178 61 hC dX12_isLikeFirst_178 (by decide) ?_
                            first
                              | (refine ih (j + 1) _ _ _ _ (by omega) (by omega) (Or.inl ⟨rfl, hP.1, lt_s hP.2 ?_⟩)
                                 clear hR hC ih
                                 unfold L_tc
                                 grind)
                              | (refine ih (j + 1) _ _ _ _ (by omega) (by omega) (Or.inr ⟨rfl, fun z => ?_⟩)
                                 have y := z.2 j (Nat.lt_succ_self j)
                                 clear hR hC ih
                                 unfold L_tc at y
                                 grind)
                        · refine G_iconst 161 hC (nI 1) (by decide) dX12_isLikeFirst_161 ?_
                          refine G_goto 162 166 hC dX12_isLikeFirst_162 (by decide) ?_
                          refine G_icmp_ne 166 173 hC dX12_isLikeFirst_166 (by decide) (fun h166 => ?_) (fun h166 => ?_)
                          · refine G_iconst 173 hC (nI 0) (by decide) dX12_isLikeFirst_173 ?_
                            refine G_istore_n 174 hC 2 rfl (by decide) (ls' := [_, _, _, _, _, _, _]) rfl dX12_isLikeFirst_174 ?_
                            first | refine G_iincN 175 hC (by decide) rfl (ls' := [_, _, _, _, _, _, _]) rfl dX12_isLikeFirst_175 ?_ | refine G_iinc 175 hC _ rfl (by decide) rfl (ls' := [_, _, _, _, _, _, _]) rfl dX12_isLikeFirst_175 ?_
                            refine G_goto 178 61 hC dX12_isLikeFirst_178 (by decide) ?_
                            first
                              | (refine ih (j + 1) _ _ _ _ (by omega) (by omega) (Or.inl ⟨rfl, hP.1, lt_s hP.2 ?_⟩)
                                 clear hR hC ih
                                 unfold L_tc
                                 grind)
                              | (refine ih (j + 1) _ _ _ _ (by omega) (by omega) (Or.inr ⟨rfl, fun z => ?_⟩)
                                 have y := z.2 j (Nat.lt_succ_self j)
                                 clear hR hC ih
                                 unfold L_tc at y
                                 grind)
                          · refine G_iconst 169 hC (nI 1) (by decide) dX12_isLikeFirst_169 ?_
                            refine G_goto 170 174 hC dX12_isLikeFirst_170 (by decide) ?_
                            refine G_istore_n 174 hC 2 rfl (by decide) (ls' := [_, _, _, _, _, _, _]) rfl dX12_isLikeFirst_174 ?_
                            first | refine G_iincN 175 hC (by decide) rfl (ls' := [_, _, _, _, _, _, _]) rfl dX12_isLikeFirst_175 ?_ | refine G_iinc 175 hC _ rfl (by decide) rfl (ls' := [_, _, _, _, _, _, _]) rfl dX12_isLikeFirst_175 ?_
                            refine G_goto 178 61 hC dX12_isLikeFirst_178 (by decide) ?_
                            first
                              | (refine ih (j + 1) _ _ _ _ (by omega) (by omega) (Or.inl ⟨rfl, hP.1, lt_s hP.2 ?_⟩)
                                 clear hR hC ih
                                 unfold L_tc
                                 grind)
                              | (refine ih (j + 1) _ _ _ _ (by omega) (by omega) (Or.inr ⟨rfl, fun z => ?_⟩)
                                 have y := z.2 j (Nat.lt_succ_self j)
                                 clear hR hC ih
                                 unfold L_tc at y
                                 grind)
                      · refine G_iconst 150 hC (nI 1) (by decide) dX12_isLikeFirst_150 ?_
                        refine G_goto 151 155 hC dX12_isLikeFirst_151 (by decide) ?_
                        refine G_iload 155 hC rfl dX12_isLikeFirst_155 ?_
                        refine G_iconst 157 hC (nI 4) (by decide) dX12_isLikeFirst_157 ?_
                        refine G_icmp_ne 158 165 hC dX12_isLikeFirst_158 (by decide) (fun h158 => ?_) (fun h158 => ?_)
                        · refine G_iconst 165 hC (nI 0) (by decide) dX12_isLikeFirst_165 ?_
                          refine G_icmp_ne 166 173 hC dX12_isLikeFirst_166 (by decide) (fun h166 => ?_) (fun h166 => ?_)
                          · refine G_iconst 173 hC (nI 0) (by decide) dX12_isLikeFirst_173 ?_
                            refine G_istore_n 174 hC 2 rfl (by decide) (ls' := [_, _, _, _, _, _, _]) rfl dX12_isLikeFirst_174 ?_
                            first | refine G_iincN 175 hC (by decide) rfl (ls' := [_, _, _, _, _, _, _]) rfl dX12_isLikeFirst_175 ?_ | refine G_iinc 175 hC _ rfl (by decide) rfl (ls' := [_, _, _, _, _, _, _]) rfl dX12_isLikeFirst_175 ?_
                            refine G_goto 178 61 hC dX12_isLikeFirst_178 (by decide) ?_
                            first
                              | (refine ih (j + 1) _ _ _ _ (by omega) (by omega) (Or.inl ⟨rfl, hP.1, lt_s hP.2 ?_⟩)
                                 clear hR hC ih
                                 unfold L_tc
                                 grind)
                              | (refine ih (j + 1) _ _ _ _ (by omega) (by omega) (Or.inr ⟨rfl, fun z => ?_⟩)
                                 have y := z.2 j (Nat.lt_succ_self j)
                                 clear hR hC ih
                                 unfold L_tc at y
                                 grind)
                          · refine G_iconst 169 hC (nI 1) (by decide) dX12_isLikeFirst_169 ?_
                            refine G_goto 170 174 hC dX12_isLikeFirst_170 (by decide) ?_
                            refine G_istore_n 174 hC 2 rfl (by decide) (ls' := [_, _, _, _, _, _, _]) rfl dX12_isLikeFirst_174 ?_
                            first | refine G_iincN 175 hC (by decide) rfl (ls' := [_, _, _, _, _, _, _]) rfl dX12_isLikeFirst_175 ?_ | refine G_iinc 175 hC _ rfl (by decide) rfl (ls' := [_, _, _, _, _, _, _]) rfl dX12_isLikeFirst_175 ?_
                            refine G_goto 178 61 hC dX12_isLikeFirst_178 (by decide) ?_
                            first
                              | (refine ih (j + 1) _ _ _ _ (by omega) (by omega) (Or.inl ⟨rfl, hP.1, lt_s hP.2 ?_⟩)
                                 clear hR hC ih
                                 unfold L_tc
                                 grind)
                              | (refine ih (j + 1) _ _ _ _ (by omega) (by omega) (Or.inr ⟨rfl, fun z => ?_⟩)
                                 have y := z.2 j (Nat.lt_succ_self j)
                                 clear hR hC ih
                                 unfold L_tc at y
                                 grind)
                        · refine G_iconst 161 hC (nI 1) (by decide) dX12_isLikeFirst_161 ?_
                          refine G_goto 162 166 hC dX12_isLikeFirst_162 (by decide) ?_
                          refine G_icmp_ne 166 173 hC dX12_isLikeFirst_166 (by decide) (fun h166 => ?_) (fun h166 => ?_)
                          · refine G_iconst 173 hC (nI 0) (by decide) dX12_isLikeFirst_173 ?_
                            refine G_istore_n 174 hC 2 rfl (by decide) (ls' := [_, _, _, _, _, _, _]) rfl dX12_isLikeFirst_174 ?_
                            first | refine G_iincN 175 hC (by decide) rfl (ls' := [_, _, _, _, _, _, _]) rfl dX12_isLikeFirst_175 ?_ | refine G_iinc 175 hC _ rfl (by decide) rfl (ls' := [_, _, _, _, _, _, _]) rfl dX12_isLikeFirst_175 ?_
                            refine G_goto 178 61 hC dX12_isLikeFirst_178 (by decide) ?_
                            first
                              | (refine ih (j + 1) _ _ _ _ (by omega) (by omega) (Or.inl ⟨rfl, hP.1, lt_s hP.2 ?_⟩)
                                 clear hR hC ih
                                 unfold L_tc
                                 grind)
                              | (refine ih (j + 1) _ _ _ _ (by omega) (by omega) (Or.inr ⟨rfl, fun z => ?_⟩)
                                 have y := z.2 j (Nat.lt_succ_self j)
                                 clear hR hC ih
                                 unfold L_tc at y
                                 grind)
                          · refine G_iconst 169 hC (nI 1) (by decide) dX12_isLikeFirst_169 ?_
                            refine G_goto 170 174 hC dX12_isLikeFirst_170 (by decide) ?_
                            refine G_istore_n 174 hC 2 rfl (by decide) (ls' := [_, _, _, _, _, _, _]) rfl dX12_isLikeFirst_174 ?_
                            first | refine G_iincN 175 hC (by decide) rfl (ls' := [_, _, _, _, _, _, _]) rfl dX12_isLikeFirst_175 ?_ | refine G_iinc 175 hC _ rfl (by decide) rfl (ls' := [_, _, _, _, _, _, _]) rfl dX12_isLikeFirst_175 ?_
                            refine G_goto 178 61 hC dX12_isLikeFirst_178 (by decide) ?_
                            first
                              | (refine ih (j + 1) _ _ _ _ (by omega) (by omega) (Or.inl ⟨rfl, hP.1, lt_s hP.2 ?_⟩)
                                 clear hR hC ih
                                 unfold L_tc
                                 grind)
                              | (refine ih (j + 1) _ _ _ _ (by omega) (by omega) (Or.inr ⟨rfl, fun z => ?_⟩)
                                 have y := z.2 j (Nat.lt_succ_self j)
                                 clear hR hC ih
                                 unfold L_tc at y
                                 grind)
                  · refine G_iload 127 hC rfl dX12_isLikeFirst_127 ?_
                    refine G_iload 129 hC rfl dX12_isLikeFirst_129 ?_
                    refine G_icmp_ne 131 173 hC dX12_isLikeFirst_131 (by decide) (fun h131 => ?_) (fun h131 => ?_)
                    · refine G_iconst 173 hC (nI 0) (by decide) dX12_isLikeFirst_173 ?_
                      refine G_istore_n 174 hC 2 rfl (by decide) (ls' := [_, _, _, _, _, _, _]) rfl dX12_isLikeFirst_174 ?_
                      first | refine G_iincN 175 hC (by decide) rfl (ls' := [_, _, _, _, _, _, _]) rfl dX12_isLikeFirst_175 ?_ | refine G_iinc 175 hC _ rfl (by decide) rfl (ls' := [_, _, _, _, _, _, _]) rfl dX12_isLikeFirst_175 ?_
                      refine G_goto 178 61 hC dX12_isLikeFirst_178 (by decide) ?_
                      first
                        | (refine ih (j + 1) _ _ _ _ (by omega) (by omega) (Or.inl ⟨rfl, hP.1, lt_s hP.2 ?_⟩)
                           clear hR hC ih
                           unfold L_tc
                           grind)
                        | (refine ih (j + 1) _ _ _ _ (by omega) (by omega) (Or.inr ⟨rfl, fun z => ?_⟩)
                           have y := z.2 j (Nat.lt_succ_self j)
                           clear hR hC ih
                           unfold L_tc at y
                           grind)
                    · refine G_aload_n 134 hC rfl dX12_isLikeFirst_134 ?_
                      refine M_getR 135 hC hF fl_X12_26_11 rfl rfl dX12_isLikeFirst_135 ?_
                      refine G_iload_n 138 hC rfl dX12_isLikeFirst_138 ?_
                      refine N_ialdO 139 hC hF rfl (by decide) (by decide) rfl (by omega) dX12_isLikeFirst_139 ?_
                      refine G_iconst 140 hC (nI 4) (by decide) dX12_isLikeFirst_140 ?_
                      refine G_icmp_ne 141 169 hC dX12_isLikeFirst_141 (by decide) (fun h141 => ?_) (fun h141 => ?_)
                      · refine G_iconst 169 hC (nI 1) (by decide) dX12_isLikeFirst_169 ?_
                        refine G_goto 170 174 hC dX12_isLikeFirst_170 (by decide) ?_
                        refine G_istore_n 174 hC 2 rfl (by decide) (ls' := [_, _, _, _, _, _, _]) rfl dX12_isLikeFirst_174 ?_
                        first | refine G_iincN 175 hC (by decide) rfl (ls' := [_, _, _, _, _, _, _]) rfl dX12_isLikeFirst_175 ?_ | refine G_iinc 175 hC _ rfl (by decide) rfl (ls' := [_, _, _, _, _, _, _]) rfl dX12_isLikeFirst_175 ?_
                        refine G_goto 178 61 hC dX12_isLikeFirst_178 (by decide) ?_
                        first
                          | (refine ih (j + 1) _ _ _ _ (by omega) (by omega) (Or.inl ⟨rfl, hP.1, lt_s hP.2 ?_⟩)
                             clear hR hC ih
                             unfold L_tc
                             grind)
                          | (refine ih (j + 1) _ _ _ _ (by omega) (by omega) (Or.inr ⟨rfl, fun z => ?_⟩)
                             have y := z.2 j (Nat.lt_succ_self j)
                             clear hR hC ih
                             unfold L_tc at y
                             grind)
                      · refine G_iload 144 hC rfl dX12_isLikeFirst_144 ?_
                        refine G_iconst 146 hC (nI 4) (by decide) dX12_isLikeFirst_146 ?_
                        refine G_icmp_ne 147 154 hC dX12_isLikeFirst_147 (by decide) (fun h147 => ?_) (fun h147 => ?_)
                        · refine G_iconst 154 hC (nI 0) (by decide) dX12_isLikeFirst_154 ?_
                          refine G_iload 155 hC rfl dX12_isLikeFirst_155 ?_
                          refine G_iconst 157 hC (nI 4) (by decide) dX12_isLikeFirst_157 ?_
                          refine G_icmp_ne 158 165 hC dX12_isLikeFirst_158 (by decide) (fun h158 => ?_) (fun h158 => ?_)
                          · refine G_iconst 165 hC (nI 0) (by decide) dX12_isLikeFirst_165 ?_
                            refine G_icmp_ne 166 173 hC dX12_isLikeFirst_166 (by decide) (fun h166 => ?_) (fun h166 => ?_)
                            · refine G_iconst 173 hC (nI 0) (by decide) dX12_isLikeFirst_173 ?_
                              refine G_istore_n 174 hC 2 rfl (by decide) (ls' := [_, _, _, _, _, _, _]) rfl dX12_isLikeFirst_174 ?_
                              first | refine G_iincN 175 hC (by decide) rfl (ls' := [_, _, _, _, _, _, _]) rfl dX12_isLikeFirst_175 ?_ | refine G_iinc 175 hC _ rfl (by decide) rfl (ls' := [_, _, _, _, _, _, _]) rfl dX12_isLikeFirst_175 ?_
                              refine G_goto 178 61 hC dX12_isLikeFirst_178 (by decide) ?_
                              first
                                | (refine ih (j + 1) _ _ _ _ (by omega) (by omega) (Or.inl ⟨rfl, hP.1, lt_s hP.2 ?_⟩)
                                   clear hR hC ih
                                   unfold L_tc
                                   grind)
                                | (refine ih (j + 1) _ _ _ _ (by omega) (by omega) (Or.inr ⟨rfl, fun z => ?_⟩)
                                   have y := z.2 j (Nat.lt_succ_self j)
                                   clear hR hC ih
                                   unfold L_tc at y
                                   grind)
                            · refine G_iconst 169 hC (nI 1) (by decide) dX12_isLikeFirst_169 ?_
                              refine G_goto 170 174 hC dX12_isLikeFirst_170 (by decide) ?_
                              refine G_istore_n 174 hC 2 rfl (by decide) (ls' := [_, _, _, _, _, _, _]) rfl dX12_isLikeFirst_174 ?_
                              first | refine G_iincN 175 hC (by decide) rfl (ls' := [_, _, _, _, _, _, _]) rfl dX12_isLikeFirst_175 ?_ | refine G_iinc 175 hC _ rfl (by decide) rfl (ls' := [_, _, _, _, _, _, _]) rfl dX12_isLikeFirst_175 ?_
                              refine G_goto 178 61 hC dX12_isLikeFirst_178 (by decide) ?_
                              first
                                | (refine ih (j + 1) _ _ _ _ (by omega) (by omega) (Or.inl ⟨rfl, hP.1, lt_s hP.2 ?_⟩)
                                   clear hR hC ih
                                   unfold L_tc
                                   grind)
                                | (refine ih (j + 1) _ _ _ _ (by omega) (by omega) (Or.inr ⟨rfl, fun z => ?_⟩)
                                   have y := z.2 j (Nat.lt_succ_self j)
                                   clear hR hC ih
                                   unfold L_tc at y
                                   grind)
                          · refine G_iconst 161 hC (nI 1) (by decide) dX12_isLikeFirst_161 ?_
                            refine G_goto 162 166 hC dX12_isLikeFirst_162 (by decide) ?_
                            refine G_icmp_ne 166 173 hC dX12_isLikeFirst_166 (by decide) (fun h166 => ?_) (fun h166 => ?_)
                            · refine G_iconst 173 hC (nI 0) (by decide) dX12_isLikeFirst_173 ?_
                              refine G_istore_n 174 hC 2 rfl (by decide) (ls' := [_, _, _, _, _, _, _]) rfl dX12_isLikeFirst_174 ?_
                              first | refine G_iincN 175 hC (by decide) rfl (ls' := [_, _, _, _, _, _, _]) rfl dX12_isLikeFirst_175 ?_ | refine G_iinc 175 hC _ rfl (by decide) rfl (ls' := [_, _, _, _, _, _, _]) rfl dX12_isLikeFirst_175 ?_
                              refine G_goto 178 61 hC dX12_isLikeFirst_178 (by decide) ?_
                              first
                                | (refine ih (j + 1) _ _ _ _ (by omega) (by omega) (Or.inl ⟨rfl, hP.1, lt_s hP.2 ?_⟩)
                                   clear hR hC ih
                                   unfold L_tc
                                   grind)
                                | (refine ih (j + 1) _ _ _ _ (by omega) (by omega) (Or.inr ⟨rfl, fun z => ?_⟩)
                                   have y := z.2 j (Nat.lt_succ_self j)
                                   clear hR hC ih
                                   unfold L_tc at y
                                   grind)
                            · refine G_iconst 169 hC (nI 1) (by decide) dX12_isLikeFirst_169 ?_
                              refine G_goto 170 174 hC dX12_isLikeFirst_170 (by decide) ?_
                              refine G_istore_n 174 hC 2 rfl (by decide) (ls' := [_, _, _, _, _, _, _]) rfl dX12_isLikeFirst_174 ?_
                              first | refine G_iincN 175 hC (by decide) rfl (ls' := [_, _, _, _, _, _, _]) rfl dX12_isLikeFirst_175 ?_ | refine G_iinc 175 hC _ rfl (by decide) rfl (ls' := [_, _, _, _, _, _, _]) rfl dX12_isLikeFirst_175 ?_
                              refine G_goto 178 61 hC dX12_isLikeFirst_178 (by decide) ?_
                              first
                                | (refine ih (j + 1) _ _ _ _ (by omega) (by omega) (Or.inl ⟨rfl, hP.1, lt_s hP.2 ?_⟩)
                                   clear hR hC ih
                                   unfold L_tc
                                   grind)
                                | (refine ih (j + 1) _ _ _ _ (by omega) (by omega) (Or.inr ⟨rfl, fun z => ?_⟩)
                                   have y := z.2 j (Nat.lt_succ_self j)
                                   clear hR hC ih
                                   unfold L_tc at y
                                   grind)
                        · refine G_iconst 150 hC (nI 1) (by decide) dX12_isLikeFirst_150 ?_
                          refine G_goto 151 155 hC dX12_isLikeFirst_151 (by decide) ?_
                          refine G_iload 155 hC rfl dX12_isLikeFirst_155 ?_
                          refine G_iconst 157 hC (nI 4) (by decide) dX12_isLikeFirst_157 ?_
                          refine G_icmp_ne 158 165 hC dX12_isLikeFirst_158 (by decide) (fun h158 => ?_) (fun h158 => ?_)
                          · refine G_iconst 165 hC (nI 0) (by decide) dX12_isLikeFirst_165 ?_
                            refine G_icmp_ne 166 173 hC dX12_isLikeFirst_166 (by decide) (fun h166 => ?_) (fun h166 => ?_)
                            · refine G_iconst 173 hC (nI 0) (by decide) dX12_isLikeFirst_173 ?_
                              refine G_istore_n 174 hC 2 rfl (by decide) (ls' := [_, _, _, _, _, _, _]) rfl dX12_isLikeFirst_174 ?_
                              first | refine G_iincN 175 hC (by decide) rfl (ls' := [_, _, _, _, _, _, _]) rfl dX12_isLikeFirst_175 ?_ | refine G_iinc 175 hC _ rfl (by decide) rfl (ls' := [_, _, _, _, _, _, _]) rfl dX12_isLikeFirst_175 ?_
                              refine G_goto 178 61 hC dX12_isLikeFirst_178 (by decide) ?_
                              first
                                | (refine ih (j + 1) _ _ _ _ (by omega) (by omega) (Or.inl ⟨rfl, hP.1, lt_s hP.2 ?_⟩)
                                   clear hR hC ih
                                   unfold L_tc
                                   grind)
                                | (refine ih (j + 1) _ _ _ _ (by omega) (by omega) (Or.inr ⟨rfl, fun z => ?_⟩)
                                   have y := z.2 j (Nat.lt_succ_self j)
                                   clear hR hC ih
                                   unfold L_tc at y
                                   grind)
                            · refine G_iconst 169 hC (nI 1) (by decide) dX12_isLikeFirst_169 ?_
                              refine G_goto 170 174 hC dX12_isLikeFirst_170 (by decide) ?_
                              refine G_istore_n 174 hC 2 rfl (by decide) (ls' := [_, _, _, _, _, _, _]) rfl dX12_isLikeFirst_174 ?_
                              first | refine G_iincN 175 hC (by decide) rfl (ls' := [_, _, _, _, _, _, _]) rfl dX12_isLikeFirst_175 ?_ | refine G_iinc 175 hC _ rfl (by decide) rfl (ls' := [_, _, _, _, _, _, _]) rfl dX12_isLikeFirst_175 ?_
                              refine G_goto 178 61 hC dX12_isLikeFirst_178 (by decide) ?_
                              first
                                | (refine ih (j + 1) _ _ _ _ (by omega) (by omega) (Or.inl ⟨rfl, hP.1, lt_s hP.2 ?_⟩)
                                   clear hR hC ih
                                   unfold L_tc
                                   grind)
                                | (refine ih (j + 1) _ _ _ _ (by omega) (by omega) (Or.inr ⟨rfl, fun z => ?_⟩)
                                   have y := z.2 j (Nat.lt_succ_self j)
                                   clear hR hC ih
                                   unfold L_tc at y
                                   grind)
                          · refine G_iconst 161 hC (nI 1) (by decide) dX12_isLikeFirst_161 ?_
                            refine G_goto 162 166 hC dX12_isLikeFirst_162 (by decide) ?_
                            refine G_icmp_ne 166 173 hC dX12_isLikeFirst_166 (by decide) (fun h166 => ?_) (fun h166 => ?_)
                            · refine G_iconst 173 hC (nI 0) (by decide) dX12_isLikeFirst_173 ?_
                              refine G_istore_n 174 hC 2 rfl (by decide) (ls' := [_, _, _, _, _, _, _]) rfl dX12_isLikeFirst_174 ?_
                              first | refine G_iincN 175 hC (by decide) rfl (ls' := [_, _, _, _, _, _, _]) rfl dX12_isLikeFirst_175 ?_ | refine G_iinc 175 hC _ rfl (by decide) rfl (ls' := [_, _, _, _, _, _, _]) rfl dX12_isLikeFirst_175 ?_
                              refine G_goto 178 61 hC dX12_isLikeFirst_178 (by decide) ?_
                              first
                                | (refine ih (j + 1) _ _ _ _ (by omega) (by omega) (Or.inl ⟨rfl, hP.1, lt_s hP.2 ?_⟩)
                                   clear hR hC ih
                                   unfold L_tc
                                   grind)
                                | (refine ih (j + 1) _ _ _ _ (by omega) (by omega) (Or.inr ⟨rfl, fun z => ?_⟩)
                                   have y := z.2 j (Nat.lt_succ_self j)
                                   clear hR hC ih
                                   unfold L_tc at y
                                   grind)
                            · refine G_iconst 169 hC (nI 1) (by decide) dX12_isLikeFirst_169 ?_
                              refine G_goto 170 174 hC dX12_isLikeFirst_170 (by decide) ?_
                              refine G_istore_n 174 hC 2 rfl (by decide) (ls' := [_, _, _, _, _, _, _]) rfl dX12_isLikeFirst_174 ?_
                              first | refine G_iincN 175 hC (by decide) rfl (ls' := [_, _, _, _, _, _, _]) rfl dX12_isLikeFirst_175 ?_ | refine G_iinc 175 hC _ rfl (by decide) rfl (ls' := [_, _, _, _, _, _, _]) rfl dX12_isLikeFirst_175 ?_
                              refine G_goto 178 61 hC dX12_isLikeFirst_178 (by decide) ?_
                              first
                                | (refine ih (j + 1) _ _ _ _ (by omega) (by omega) (Or.inl ⟨rfl, hP.1, lt_s hP.2 ?_⟩)
                                   clear hR hC ih
                                   unfold L_tc
                                   grind)
                                | (refine ih (j + 1) _ _ _ _ (by omega) (by omega) (Or.inr ⟨rfl, fun z => ?_⟩)
                                   have y := z.2 j (Nat.lt_succ_self j)
                                   clear hR hC ih
                                   unfold L_tc at y
                                   grind)
              · first | have a108 := Int32.not_le.mp h108 | skip
                refine G_iconst 111 hC (nI 1) (by decide) dX12_isLikeFirst_111 ?_
                refine G_goto 112 116 hC dX12_isLikeFirst_112 (by decide) ?_
                refine G_istore 116 hC (by decide) (ls' := [_, _, _, _, _, _, _]) rfl dX12_isLikeFirst_116 ?_
                refine G_iload_n 118 hC rfl dX12_isLikeFirst_118 ?_
                first | refine G_if_eq_b 119 173 hC dX12_isLikeFirst_119 (by decide) (fun h119 => ?_) (fun h119 => ?_) | refine G_if_eq 119 173 hC dX12_isLikeFirst_119 (by decide) (fun h119 => ?_) (fun h119 => ?_)
                · exact absurd h119 (by decide)
                · refine G_iload 122 hC rfl dX12_isLikeFirst_122 ?_
                  first | refine G_if_eq_b 124 134 hC dX12_isLikeFirst_124 (by decide) (fun h124 => ?_) (fun h124 => ?_) | refine G_if_eq 124 134 hC dX12_isLikeFirst_124 (by decide) (fun h124 => ?_) (fun h124 => ?_)
                  · refine G_aload_n 134 hC rfl dX12_isLikeFirst_134 ?_
                    refine M_getR 135 hC hF fl_X12_26_11 rfl rfl dX12_isLikeFirst_135 ?_
                    refine G_iload_n 138 hC rfl dX12_isLikeFirst_138 ?_
                    refine N_ialdO 139 hC hF rfl (by decide) (by decide) rfl (by omega) dX12_isLikeFirst_139 ?_
                    refine G_iconst 140 hC (nI 4) (by decide) dX12_isLikeFirst_140 ?_
                    refine G_icmp_ne 141 169 hC dX12_isLikeFirst_141 (by decide) (fun h141 => ?_) (fun h141 => ?_)
                    · refine G_iconst 169 hC (nI 1) (by decide) dX12_isLikeFirst_169 ?_
                      refine G_goto 170 174 hC dX12_isLikeFirst_170 (by decide) ?_
                      refine G_istore_n 174 hC 2 rfl (by decide) (ls' := [_, _, _, _, _, _, _]) rfl dX12_isLikeFirst_174 ?_
                      first | refine G_iincN 175 hC (by decide) rfl (ls' := [_, _, _, _, _, _, _]) rfl dX12_isLikeFirst_175 ?_ | refine G_iinc 175 hC _ rfl (by decide) rfl (ls' := [_, _, _, _, _, _, _]) rfl dX12_isLikeFirst_175 ?_
                      refine G_goto 178 61 hC dX12_isLikeFirst_178 (by decide) ?_
                      first
                        | (refine ih (j + 1) _ _ _ _ (by omega) (by omega) (Or.inl ⟨rfl, hP.1, lt_s hP.2 ?_⟩)
                           clear hR hC ih
                           unfold L_tc
                           grind)
                        | (refine ih (j + 1) _ _ _ _ (by omega) (by omega) (Or.inr ⟨rfl, fun z => ?_⟩)
                           have y := z.2 j (Nat.lt_succ_self j)
                           clear hR hC ih
                           unfold L_tc at y
                           grind)
                    · refine G_iload 144 hC rfl dX12_isLikeFirst_144 ?_
                      refine G_iconst 146 hC (nI 4) (by decide) dX12_isLikeFirst_146 ?_
                      refine G_icmp_ne 147 154 hC dX12_isLikeFirst_147 (by decide) (fun h147 => ?_) (fun h147 => ?_)
                      · refine G_iconst 154 hC (nI 0) (by decide) dX12_isLikeFirst_154 ?_
                        refine G_iload 155 hC rfl dX12_isLikeFirst_155 ?_
                        refine G_iconst 157 hC (nI 4) (by decide) dX12_isLikeFirst_157 ?_
                        refine G_icmp_ne 158 165 hC dX12_isLikeFirst_158 (by decide) (fun h158 => ?_) (fun h158 => ?_)
                        · refine G_iconst 165 hC (nI 0) (by decide) dX12_isLikeFirst_165 ?_
                          refine G_icmp_ne 166 173 hC dX12_isLikeFirst_166 (by decide) (fun h166 => ?_) (fun h166 => ?_)
                          · refine G_iconst 173 hC (nI 0) (by decide) dX12_isLikeFirst_173 ?_
                            refine G_istore_n 174 hC 2 rfl (by decide) (ls' := [_, _, _, _, _, _, _]) rfl dX12_isLikeFirst_174 ?_
                            first | refine G_iincN 175 hC (by decide) rfl (ls' := [_, _, _, _, _, _, _]) rfl dX12_isLikeFirst_175 ?_ | refine G_iinc 175 hC _ rfl (by decide) rfl (ls' := [_, _, _, _, _, _, _]) rfl dX12_isLikeFirst_175 ?_
                            refine G_goto 178 61 hC dX12_isLikeFirst_178 (by decide) ?_
                            first
                              | (refine ih (j + 1) _ _ _ _ (by omega) (by omega) (Or.inl ⟨rfl, hP.1, lt_s hP.2 ?_⟩)
                                 clear hR hC ih
                                 unfold L_tc
                                 grind)
                              | (refine ih (j + 1) _ _ _ _ (by omega) (by omega) (Or.inr ⟨rfl, fun z => ?_⟩)
                                 have y := z.2 j (Nat.lt_succ_self j)
                                 clear hR hC ih
                                 unfold L_tc at y
                                 grind)
                          · refine G_iconst 169 hC (nI 1) (by decide) dX12_isLikeFirst_169 ?_
                            refine G_goto 170 174 hC dX12_isLikeFirst_170 (by decide) ?_
                            refine G_istore_n 174 hC 2 rfl (by decide) (ls' := [_, _, _, _, _, _, _]) rfl dX12_isLikeFirst_174 ?_
                            first | refine G_iincN 175 hC (by decide) rfl (ls' := [_, _, _, _, _, _, _]) rfl dX12_isLikeFirst_175 ?_ | refine G_iinc 175 hC _ rfl (by decide) rfl (ls' := [_, _, _, _, _, _, _]) rfl dX12_isLikeFirst_175 ?_
                            refine G_goto 178 61 hC dX12_isLikeFirst_178 (by decide) ?_
                            first
                              | (refine ih (j + 1) _ _ _ _ (by omega) (by omega) (Or.inl ⟨rfl, hP.1, lt_s hP.2 ?_⟩)
                                 clear hR hC ih
                                 unfold L_tc
                                 grind)
                              | (refine ih (j + 1) _ _ _ _ (by omega) (by omega) (Or.inr ⟨rfl, fun z => ?_⟩)
                                 have y := z.2 j (Nat.lt_succ_self j)
                                 clear hR hC ih
                                 unfold L_tc at y
                                 grind)
                        · refine G_iconst 161 hC (nI 1) (by decide) dX12_isLikeFirst_161 ?_
                          refine G_goto 162 166 hC dX12_isLikeFirst_162 (by decide) ?_
                          refine G_icmp_ne 166 173 hC dX12_isLikeFirst_166 (by decide) (fun h166 => ?_) (fun h166 => ?_)
                          · refine G_iconst 173 hC (nI 0) (by decide) dX12_isLikeFirst_173 ?_
                            refine G_istore_n 174 hC 2 rfl (by decide) (ls' := [_, _, _, _, _, _, _]) rfl dX12_isLikeFirst_174 ?_
                            first | refine G_iincN 175 hC (by decide) rfl (ls' := [_, _, _, _, _, _, _]) rfl dX12_isLikeFirst_175 ?_ | refine G_iinc 175 hC _ rfl (by decide) rfl (ls' := [_, _, _, _, _, _, _]) rfl dX12_isLikeFirst_175 ?_
                            refine G_goto 178 61 hC dX12_isLikeFirst_178 (by decide) ?_
                            first
                              | (refine ih (j + 1) _ _ _ _ (by omega) (by omega) (Or.inl ⟨rfl, hP.1, lt_s hP.2 ?_⟩)
                                 clear hR hC ih
                                 unfold L_tc
                                 grind)
                              | (refine ih (j + 1) _ _ _ _ (by omega) (by omega) (Or.inr ⟨rfl, fun z => ?_⟩)
                                 have y := z.2 j (Nat.lt_succ_self j)
                                 clear hR hC ih
                                 unfold L_tc at y
                                 grind)
                          · refine G_iconst 169 hC (nI 1) (by decide) dX12_isLikeFirst_169 ?_
                            refine G_goto 170 174 hC dX12_isLikeFirst_170 (by decide) ?_
                            refine G_istore_n 174 hC 2 rfl (by decide) (ls' := [_, _, _, _, _, _, _]) rfl dX12_isLikeFirst_174 ?_
                            first | refine G_iincN 175 hC (by decide) rfl (ls' := [_, _, _, _, _, _, _]) rfl dX12_isLikeFirst_175 ?_ | refine G_iinc 175 hC _ rfl (by decide) rfl (ls' := [_, _, _, _, _, _, _]) rfl dX12_isLikeFirst_175 ?_
                            refine G_goto 178 61 hC dX12_isLikeFirst_178 (by decide) ?_
                            first
                              | (refine ih (j + 1) _ _ _ _ (by omega) (by omega) (Or.inl ⟨rfl, hP.1, lt_s hP.2 ?_⟩)
                                 clear hR hC ih
                                 unfold L_tc
                                 grind)
                              | (refine ih (j + 1) _ _ _ _ (by omega) (by omega) (Or.inr ⟨rfl, fun z => ?_⟩)
                                 have y := z.2 j (Nat.lt_succ_self j)
                                 clear hR hC ih
                                 unfold L_tc at y
                                 grind)
                      · refine G_iconst 150 hC (nI 1) (by decide) dX12_isLikeFirst_150 ?_
                        refine G_goto 151 155 hC dX12_isLikeFirst_151 (by decide) ?_
                        refine G_iload 155 hC rfl dX12_isLikeFirst_155 ?_
                        refine G_iconst 157 hC (nI 4) (by decide) dX12_isLikeFirst_157 ?_
                        refine G_icmp_ne 158 165 hC dX12_isLikeFirst_158 (by decide) (fun h158 => ?_) (fun h158 => ?_)
                        · refine G_iconst 165 hC (nI 0) (by decide) dX12_isLikeFirst_165 ?_
                          refine G_icmp_ne 166 173 hC dX12_isLikeFirst_166 (by decide) (fun h166 => ?_) (fun h166 => ?_)
                          · refine G_iconst 173 hC (nI 0) (by decide) dX12_isLikeFirst_173 ?_
                            refine G_istore_n 174 hC 2 rfl (by decide) (ls' := [_, _, _, _, _, _, _]) rfl dX12_isLikeFirst_174 ?_
                            first | refine G_iincN 175 hC (by decide) rfl (ls' := [_, _, _, _, _, _, _]) rfl dX12_isLikeFirst_175 ?_ | refine G_iinc 175 hC _ rfl (by decide) rfl (ls' := [_, _, _, _, _, _, _]) rfl dX12_isLikeFirst_175 ?_
                            refine G_goto 178 61 hC dX12_isLikeFirst_178 (by decide) ?_
                            first
                              | (refine ih (j + 1) _ _ _ _ (by omega) (by omega) (Or.inl ⟨rfl, hP.1, lt_s hP.2 ?_⟩)
                                 clear hR hC ih
                                 unfold L_tc
                                 grind)
                              | (refine ih (j + 1) _ _ _ _ (by omega) (by omega) (Or.inr ⟨rfl, fun z => ?_⟩)
                                 have y := z.2 j (Nat.lt_succ_self j)
                                 clear hR hC ih
                                 unfold L_tc at y
                                 grind)
                          · refine G_iconst 169 hC (nI 1) (by decide) dX12_isLikeFirst_169 ?_
                            refine G_goto 170 174 hC dX12_isLikeFirst_170 (by decide) ?_
                            refine G_istore_n 174 hC 2 rfl (by decide) (ls' := [_, _, _, _, _, _, _]) rfl dX12_isLikeFirst_174 ?_
                            first | refine G_iincN 175 hC (by decide) rfl (ls' := [_, _, _, _, _, _, _]) rfl dX12_isLikeFirst_175 ?_ | refine G_iinc 175 hC _ rfl (by decide) rfl (ls' := [_, _, _, _, _, _, _]) rfl dX12_isLikeFirst_175 ?_
                            refine G_goto 178 61 hC dX12_isLikeFirst_178 (by decide) ?_
                            first
                              | (refine ih (j + 1) _ _ _ _ (by omega) (by omega) (Or.inl ⟨rfl, hP.1, lt_s hP.2 ?_⟩)
                                 clear hR hC ih
                                 unfold L_tc
                                 grind)
                              | (refine ih (j + 1) _ _ _ _ (by omega) (by omega) (Or.inr ⟨rfl, fun z => ?_⟩)
                                 have y := z.2 j (Nat.lt_succ_self j)
                                 clear hR hC ih
                                 unfold L_tc at y
                                 grind)
                        · refine G_iconst 161 hC (nI 1) (by decide) dX12_isLikeFirst_161 ?_
                          refine G_goto 162 166 hC dX12_isLikeFirst_162 (by decide) ?_
                          refine G_icmp_ne 166 173 hC dX12_isLikeFirst_166 (by decide) (fun h166 => ?_) (fun h166 => ?_)
                          · refine G_iconst 173 hC (nI 0) (by decide) dX12_isLikeFirst_173 ?_
                            refine G_istore_n 174 hC 2 rfl (by decide) (ls' := [_, _, _, _, _, _, _]) rfl dX12_isLikeFirst_174 ?_
                            first | refine G_iincN 175 hC (by decide) rfl (ls' := [_, _, _, _, _, _, _]) rfl dX12_isLikeFirst_175 ?_ | refine G_iinc 175 hC _ rfl (by decide) rfl (ls' := [_, _, _, _, _, _, _]) rfl dX12_isLikeFirst_175 ?_
                            refine G_goto 178 61 hC dX12_isLikeFirst_178 (by decide) ?_
                            first
                              | (refine ih (j + 1) _ _ _ _ (by omega) (by omega) (Or.inl ⟨rfl, hP.1, lt_s hP.2 ?_⟩)
                                 clear hR hC ih
                                 unfold L_tc
                                 grind)
                              | (refine ih (j + 1) _ _ _ _ (by omega) (by omega) (Or.inr ⟨rfl, fun z => ?_⟩)
                                 have y := z.2 j (Nat.lt_succ_self j)
                                 clear hR hC ih
                                 unfold L_tc at y
                                 grind)
                          · refine G_iconst 169 hC (nI 1) (by decide) dX12_isLikeFirst_169 ?_
                            refine G_goto 170 174 hC dX12_isLikeFirst_170 (by decide) ?_
                            refine G_istore_n 174 hC 2 rfl (by decide) (ls' := [_, _, _, _, _, _, _]) rfl dX12_isLikeFirst_174 ?_
                            first | refine G_iincN 175 hC (by decide) rfl (ls' := [_, _, _, _, _, _, _]) rfl dX12_isLikeFirst_175 ?_ | refine G_iinc 175 hC _ rfl (by decide) rfl (ls' := [_, _, _, _, _, _, _]) rfl dX12_isLikeFirst_175 ?_
                            refine G_goto 178 61 hC dX12_isLikeFirst_178 (by decide) ?_
                            first
                              | (refine ih (j + 1) _ _ _ _ (by omega) (by omega) (Or.inl ⟨rfl, hP.1, lt_s hP.2 ?_⟩)
                                 clear hR hC ih
                                 unfold L_tc
                                 grind)
                              | (refine ih (j + 1) _ _ _ _ (by omega) (by omega) (Or.inr ⟨rfl, fun z => ?_⟩)
                                 have y := z.2 j (Nat.lt_succ_self j)
                                 clear hR hC ih
                                 unfold L_tc at y
                                 grind)
                  · refine G_iload 127 hC rfl dX12_isLikeFirst_127 ?_
                    refine G_iload 129 hC rfl dX12_isLikeFirst_129 ?_
                    refine G_icmp_ne 131 173 hC dX12_isLikeFirst_131 (by decide) (fun h131 => ?_) (fun h131 => ?_)
                    · refine G_iconst 173 hC (nI 0) (by decide) dX12_isLikeFirst_173 ?_
                      refine G_istore_n 174 hC 2 rfl (by decide) (ls' := [_, _, _, _, _, _, _]) rfl dX12_isLikeFirst_174 ?_
                      first | refine G_iincN 175 hC (by decide) rfl (ls' := [_, _, _, _, _, _, _]) rfl dX12_isLikeFirst_175 ?_ | refine G_iinc 175 hC _ rfl (by decide) rfl (ls' := [_, _, _, _, _, _, _]) rfl dX12_isLikeFirst_175 ?_
                      refine G_goto 178 61 hC dX12_isLikeFirst_178 (by decide) ?_
                      first
                        | (refine ih (j + 1) _ _ _ _ (by omega) (by omega) (Or.inl ⟨rfl, hP.1, lt_s hP.2 ?_⟩)
                           clear hR hC ih
                           unfold L_tc
                           grind)
                        | (refine ih (j + 1) _ _ _ _ (by omega) (by omega) (Or.inr ⟨rfl, fun z => ?_⟩)
                           have y := z.2 j (Nat.lt_succ_self j)
                           clear hR hC ih
                           unfold L_tc at y
                           grind)
                    · refine G_aload_n 134 hC rfl dX12_isLikeFirst_134 ?_
                      refine M_getR 135 hC hF fl_X12_26_11 rfl rfl dX12_isLikeFirst_135 ?_
                      refine G_iload_n 138 hC rfl dX12_isLikeFirst_138 ?_
                      refine N_ialdO 139 hC hF rfl (by decide) (by decide) rfl (by omega) dX12_isLikeFirst_139 ?_
                      refine G_iconst 140 hC (nI 4) (by decide) dX12_isLikeFirst_140 ?_
                      refine G_icmp_ne 141 169 hC dX12_isLikeFirst_141 (by decide) (fun h141 => ?_) (fun h141 => ?_)
                      · refine G_iconst 169 hC (nI 1) (by decide) dX12_isLikeFirst_169 ?_
                        refine G_goto 170 174 hC dX12_isLikeFirst_170 (by decide) ?_
                        refine G_istore_n 174 hC 2 rfl (by decide) (ls' := [_, _, _, _, _, _, _]) rfl dX12_isLikeFirst_174 ?_
                        first | refine G_iincN 175 hC (by decide) rfl (ls' := [_, _, _, _, _, _, _]) rfl dX12_isLikeFirst_175 ?_ | refine G_iinc 175 hC _ rfl (by decide) rfl (ls' := [_, _, _, _, _, _, _]) rfl dX12_isLikeFirst_175 ?_
                        refine G_goto 178 61 hC dX12_isLikeFirst_178 (by decide) ?_
                        first
                          | (refine ih (j + 1) _ _ _ _ (by omega) (by omega) (Or.inl ⟨rfl, hP.1, lt_s hP.2 ?_⟩)
                             clear hR hC ih
                             unfold L_tc
                             grind)
                          | (refine ih (j + 1) _ _ _ _ (by omega) (by omega) (Or.inr ⟨rfl, fun z => ?_⟩)
                             have y := z.2 j (Nat.lt_succ_self j)
                             clear hR hC ih
                             unfold L_tc at y
                             grind)
                      · refine G_iload 144 hC rfl dX12_isLikeFirst_144 ?_
                        refine G_iconst 146 hC (nI 4) (by decide) dX12_isLikeFirst_146 ?_
                        refine G_icmp_ne 147 154 hC dX12_isLikeFirst_147 (by decide) (fun h147 => ?_) (fun h147 => ?_)
                        · refine G_iconst 154 hC (nI 0) (by decide) dX12_isLikeFirst_154 ?_
                          refine G_iload 155 hC rfl dX12_isLikeFirst_155 ?_
                          refine G_iconst 157 hC (nI 4) (by decide) dX12_isLikeFirst_157 ?_
                          refine G_icmp_ne 158 165 hC dX12_isLikeFirst_158 (by decide) (fun h158 => ?_) (fun h158 => ?_)
                          · refine G_iconst 165 hC (nI 0) (by decide) dX12_isLikeFirst_165 ?_
                            refine G_icmp_ne 166 173 hC dX12_isLikeFirst_166 (by decide) (fun h166 => ?_) (fun h166 => ?_)
                            · refine G_iconst 173 hC (nI 0) (by decide) dX12_isLikeFirst_173 ?_
                              refine G_istore_n 174 hC 2 rfl (by decide) (ls' := [_, _, _, _, _, _, _]) rfl dX12_isLikeFirst_174 ?_
                              first | refine G_iincN 175 hC (by decide) rfl (ls' := [_, _, _, _, _, _, _]) rfl dX12_isLikeFirst_175 ?_ | refine G_iinc 175 hC _ rfl (by decide) rfl (ls' := [_, _, _, _, _, _, _]) rfl dX12_isLikeFirst_175 ?_
                              refine G_goto 178 61 hC dX12_isLikeFirst_178 (by decide) ?_
                              first
                                | (refine ih (j + 1) _ _ _ _ (by omega) (by omega) (Or.inl ⟨rfl, hP.1, lt_s hP.2 ?_⟩)
                                   clear hR hC ih
                                   unfold L_tc
                                   grind)
                                | (refine ih (j + 1) _ _ _ _ (by omega) (by omega) (Or.inr ⟨rfl, fun z => ?_⟩)
                                   have y := z.2 j (Nat.lt_succ_self j)
                                   clear hR hC ih
                                   unfold L_tc at y
                                   grind)
                            · refine G_iconst 169 hC (nI 1) (by decide) dX12_isLikeFirst_169 ?_
                              refine G_goto 170 174 hC dX12_isLikeFirst_170 (by decide) ?_
                              refine G_istore_n 174 hC 2 rfl (by decide) (ls' := [_, _, _, _, _, _, _]) rfl dX12_isLikeFirst_174 ?_
                              first | refine G_iincN 175 hC (by decide) rfl (ls' := [_, _, _, _, _, _, _]) rfl dX12_isLikeFirst_175 ?_ | refine G_iinc 175 hC _ rfl (by decide) rfl (ls' := [_, _, _, _, _, _, _]) rfl dX12_isLikeFirst_175 ?_
                              refine G_goto 178 61 hC dX12_isLikeFirst_178 (by decide) ?_
                              first
                                | (refine ih (j + 1) _ _ _ _ (by omega) (by omega) (Or.inl ⟨rfl, hP.1, lt_s hP.2 ?_⟩)
                                   clear hR hC ih
                                   unfold L_tc
                                   grind)
                                | (refine ih (j + 1) _ _ _ _ (by omega) (by omega) (Or.inr ⟨rfl, fun z => ?_⟩)
                                   have y := z.2 j (Nat.lt_succ_self j)
                                   clear hR hC ih
                                   unfold L_tc at y
                                   grind)
                          · refine G_iconst 161 hC (nI 1) (by decide) dX12_isLikeFirst_161 ?_
                            refine G_goto 162 166 hC dX12_isLikeFirst_162 (by decide) ?_
                            refine G_icmp_ne 166 173 hC dX12_isLikeFirst_166 (by decide) (fun h166 => ?_) (fun h166 => ?_)
                            · refine G_iconst 173 hC (nI 0) (by decide) dX12_isLikeFirst_173 ?_
                              refine G_istore_n 174 hC 2 rfl (by decide) (ls' := [_, _, _, _, _, _, _]) rfl dX12_isLikeFirst_174 ?_
                              first | refine G_iincN 175 hC (by decide) rfl (ls' := [_, _, _, _, _, _, _]) rfl dX12_isLikeFirst_175 ?_ | refine G_iinc 175 hC _ rfl (by decide) rfl (ls' := [_, _, _, _, _, _, _]) rfl dX12_isLikeFirst_175 ?_
                              refine G_goto 178 61 hC dX12_isLikeFirst_178 (by decide) ?_
                              first
                                | (refine ih (j + 1) _ _ _ _ (by omega) (by omega) (Or.inl ⟨rfl, hP.1, lt_s hP.2 ?_⟩)
                                   clear hR hC ih
                                   unfold L_tc
                                   grind)
                                | (refine ih (j + 1) _ _ _ _ (by omega) (by omega) (Or.inr ⟨rfl, fun z => ?_⟩)
                                   have y := z.2 j (Nat.lt_succ_self j)
                                   clear hR hC ih
                                   unfold L_tc at y
                                   grind)
                            · refine G_iconst 169 hC (nI 1) (by decide) dX12_isLikeFirst_169 ?_
                              refine G_goto 170 174 hC dX12_isLikeFirst_170 (by decide) ?_
                              refine G_istore_n 174 hC 2 rfl (by decide) (ls' := [_, _, _, _, _, _, _]) rfl dX12_isLikeFirst_174 ?_
                              first | refine G_iincN 175 hC (by decide) rfl (ls' := [_, _, _, _, _, _, _]) rfl dX12_isLikeFirst_175 ?_ | refine G_iinc 175 hC _ rfl (by decide) rfl (ls' := [_, _, _, _, _, _, _]) rfl dX12_isLikeFirst_175 ?_
                              refine G_goto 178 61 hC dX12_isLikeFirst_178 (by decide) ?_
                              first
                                | (refine ih (j + 1) _ _ _ _ (by omega) (by omega) (Or.inl ⟨rfl, hP.1, lt_s hP.2 ?_⟩)
                                   clear hR hC ih
                                   unfold L_tc
                                   grind)
                                | (refine ih (j + 1) _ _ _ _ (by omega) (by omega) (Or.inr ⟨rfl, fun z => ?_⟩)
                                   have y := z.2 j (Nat.lt_succ_self j)
                                   clear hR hC ih
                                   unfold L_tc at y
                                   grind)
                        · refine G_iconst 150 hC (nI 1) (by decide) dX12_isLikeFirst_150 ?_
                          refine G_goto 151 155 hC dX12_isLikeFirst_151 (by decide) ?_
                          refine G_iload 155 hC rfl dX12_isLikeFirst_155 ?_
                          refine G_iconst 157 hC (nI 4) (by decide) dX12_isLikeFirst_157 ?_
                          refine G_icmp_ne 158 165 hC dX12_isLikeFirst_158 (by decide) (fun h158 => ?_) (fun h158 => ?_)
                          · refine G_iconst 165 hC (nI 0) (by decide) dX12_isLikeFirst_165 ?_
                            refine G_icmp_ne 166 173 hC dX12_isLikeFirst_166 (by decide) (fun h166 => ?_) (fun h166 => ?_)
                            · refine G_iconst 173 hC (nI 0) (by decide) dX12_isLikeFirst_173 ?_
                              refine G_istore_n 174 hC 2 rfl (by decide) (ls' := [_, _, _, _, _, _, _]) rfl dX12_isLikeFirst_174 ?_
                              first | refine G_iincN 175 hC (by decide) rfl (ls' := [_, _, _, _, _, _, _]) rfl dX12_isLikeFirst_175 ?_ | refine G_iinc 175 hC _ rfl (by decide) rfl (ls' := [_, _, _, _, _, _, _]) rfl dX12_isLikeFirst_175 ?_
                              refine G_goto 178 61 hC dX12_isLikeFirst_178 (by decide) ?_
                              first
                                | (refine ih (j + 1) _ _ _ _ (by omega) (by omega) (Or.inl ⟨rfl, hP.1, lt_s hP.2 ?_⟩)
                                   clear hR hC ih
                                   unfold L_tc
                                   grind)
                                | (refine ih (j + 1) _ _ _ _ (by omega) (by omega) (Or.inr ⟨rfl, fun z => ?_⟩)
                                   have y := z.2 j (Nat.lt_succ_self j)
                                   clear hR hC ih
                                   unfold L_tc at y
                                   grind)
                            · refine G_iconst 169 hC (nI 1) (by decide) dX12_isLikeFirst_169 ?_
                              refine G_goto 170 174 hC dX12_isLikeFirst_170 (by decide) ?_
                              refine G_istore_n 174 hC 2 rfl (by decide) (ls' := [_, _, _, _, _, _, _]) rfl dX12_isLikeFirst_174 ?_
                              first | refine G_iincN 175 hC (by decide) rfl (ls' := [_, _, _, _, _, _, _]) rfl dX12_isLikeFirst_175 ?_ | refine G_iinc 175 hC _ rfl (by decide) rfl (ls' := [_, _, _, _, _, _, _]) rfl dX12_isLikeFirst_175 ?_
                              refine G_goto 178 61 hC dX12_isLikeFirst_178 (by decide) ?_
                              first
                                | (refine ih (j + 1) _ _ _ _ (by omega) (by omega) (Or.inl ⟨rfl, hP.1, lt_s hP.2 ?_⟩)
                                   clear hR hC ih
                                   unfold L_tc
                                   grind)
                                | (refine ih (j + 1) _ _ _ _ (by omega) (by omega) (Or.inr ⟨rfl, fun z => ?_⟩)
                                   have y := z.2 j (Nat.lt_succ_self j)
                                   clear hR hC ih
                                   unfold L_tc at y
                                   grind)
                          · refine G_iconst 161 hC (nI 1) (by decide) dX12_isLikeFirst_161 ?_
                            refine G_goto 162 166 hC dX12_isLikeFirst_162 (by decide) ?_
                            refine G_icmp_ne 166 173 hC dX12_isLikeFirst_166 (by decide) (fun h166 => ?_) (fun h166 => ?_)
                            · refine G_iconst 173 hC (nI 0) (by decide) dX12_isLikeFirst_173 ?_
                              refine G_istore_n 174 hC 2 rfl (by decide) (ls' := [_, _, _, _, _, _, _]) rfl dX12_isLikeFirst_174 ?_
                              first | refine G_iincN 175 hC (by decide) rfl (ls' := [_, _, _, _, _, _, _]) rfl dX12_isLikeFirst_175 ?_ | refine G_iinc 175 hC _ rfl (by decide) rfl (ls' := [_, _, _, _, _, _, _]) rfl dX12_isLikeFirst_175 ?_
                              refine G_goto 178 61 hC dX12_isLikeFirst_178 (by decide) ?_
                              first
                                | (refine ih (j + 1) _ _ _ _ (by omega) (by omega) (Or.inl ⟨rfl, hP.1, lt_s hP.2 ?_⟩)
                                   clear hR hC ih
                                   unfold L_tc
                                   grind)
                                | (refine ih (j + 1) _ _ _ _ (by omega) (by omega) (Or.inr ⟨rfl, fun z => ?_⟩)
                                   have y := z.2 j (Nat.lt_succ_self j)
                                   clear hR hC ih
                                   unfold L_tc at y
                                   grind)
                            · refine G_iconst 169 hC (nI 1) (by decide) dX12_isLikeFirst_169 ?_
                              refine G_goto 170 174 hC dX12_isLikeFirst_170 (by decide) ?_
                              refine G_istore_n 174 hC 2 rfl (by decide) (ls' := [_, _, _, _, _, _, _]) rfl dX12_isLikeFirst_174 ?_
                              first | refine G_iincN 175 hC (by decide) rfl (ls' := [_, _, _, _, _, _, _]) rfl dX12_isLikeFirst_175 ?_ | refine G_iinc 175 hC _ rfl (by decide) rfl (ls' := [_, _, _, _, _, _, _]) rfl dX12_isLikeFirst_175 ?_
                              refine G_goto 178 61 hC dX12_isLikeFirst_178 (by decide) ?_
                              first
                                | (refine ih (j + 1) _ _ _ _ (by omega) (by omega) (Or.inl ⟨rfl, hP.1, lt_s hP.2 ?_⟩)
                                   clear hR hC ih
                                   unfold L_tc
                                   grind)
                                | (refine ih (j + 1) _ _ _ _ (by omega) (by omega) (Or.inr ⟨rfl, fun z => ?_⟩)
                                   have y := z.2 j (Nat.lt_succ_self j)
                                   clear hR hC ih
                                   unfold L_tc at y
                                   grind)
      · refine G_iload_n 61 hC rfl dX12_isLikeFirst_61 ?_
        refine G_aload_n 62 hC rfl dX12_isLikeFirst_62 ?_
        refine N_getI 63 hC hF fl_X12_101_11 rfl dX12_isLikeFirst_63 ?_
        rw [hnt]
        refine G_icmp_ge 66 181 hC dX12_isLikeFirst_66 (by decide) (fun h66 => ?_) (fun h66 => ?_)
        · have ej : j = nt := by
            have z := (nI_leI (by omega) (by omega)).mp h66
            omega
          subst ej
          exact k1 _ x4 x5 x6 (by first | exact Or.inl ⟨rfl, hP⟩ | exact Or.inr ⟨rfl, hP⟩)
        · have a66 : j < nt := by
            rcases Nat.lt_or_ge j nt with y | y
            · exact y
            · exact absurd ((nI_leI (by omega) (by omega)).mpr y) h66
          have d1 : ¬ nI 1 = 0 := by decide
          have d2 : nI 0 = 0 := by decide
          have d3 : ¬ nI 0 = nI 1 := by decide
          refine G_aload_n 69 hC rfl dX12_isLikeFirst_69 ?_
          refine G_iload_n 70 hC rfl dX12_isLikeFirst_70 ?_
          refine G_iconst 71 hC (nI 0) (by decide) dX12_isLikeFirst_71 ?_
          refine G_callV1 72 hC (n_at hF (by omega) (by omega)) okX12_at lk_X12_173 ((hF.sh (o := 0) rfl (by decide)).1) rfl rfl rfl rfl (Nat.le_of_ble_eq_true rfl) (by decide) (by decide) dX12_isLikeFirst_72 ?_
          refine G_istore 75 hC (by decide) (ls' := [_, _, _, _, _, _, _]) rfl dX12_isLikeFirst_75 ?_
          refine G_aload_n 77 hC rfl dX12_isLikeFirst_77 ?_
          refine M_getR 78 hC hF fl_X12_80_11 rfl rfl dX12_isLikeFirst_78 ?_
          refine G_bipush 81 hC (nI 12) (by decide) dX12_isLikeFirst_81 ?_
          refine G_iload_n 83 hC rfl dX12_isLikeFirst_83 ?_
          refine G_imulN 84 hC dX12_isLikeFirst_84 ?_
          refine G_iconst 85 hC (nI 0) (by decide) dX12_isLikeFirst_85 ?_
          refine G_iaddN 86 hC dX12_isLikeFirst_86 ?_
          refine N_ialdO 87 hC hF rfl (by decide) (by decide) rfl (by omega) dX12_isLikeFirst_87 ?_
          refine G_istore 88 hC (by decide) (ls' := [_, _, _, _, _, _, _]) rfl dX12_isLikeFirst_88 ?_
          refine G_aload_n 90 hC rfl dX12_isLikeFirst_90 ?_
          refine M_getR 91 hC hF fl_X12_26_11 rfl rfl dX12_isLikeFirst_91 ?_
          refine G_iload_n 94 hC rfl dX12_isLikeFirst_94 ?_
          refine N_ialdO 95 hC hF rfl (by decide) (by decide) rfl (by omega) dX12_isLikeFirst_95 ?_
          refine G_iconst 96 hC (nI 4) (by decide) dX12_isLikeFirst_96 ?_
          refine G_icmp_eq 97 115 hC dX12_isLikeFirst_97 (by decide) (fun h97 => ?_) (fun h97 => ?_)
          · first | have a108 := Int32.not_lt.mpr h108 | skip
            refine G_iconst 115 hC (nI 0) (by decide) dX12_isLikeFirst_115 ?_
            refine G_istore 116 hC (by decide) (ls' := [_, _, _, _, _, _, _]) rfl dX12_isLikeFirst_116 ?_
            refine G_iload_n 118 hC rfl dX12_isLikeFirst_118 ?_
            first | refine G_if_eq_b 119 173 hC dX12_isLikeFirst_119 (by decide) (fun h119 => ?_) (fun h119 => ?_) | refine G_if_eq 119 173 hC dX12_isLikeFirst_119 (by decide) (fun h119 => ?_) (fun h119 => ?_)
            · refine G_iconst 173 hC (nI 0) (by decide) dX12_isLikeFirst_173 ?_
              refine G_istore_n 174 hC 2 rfl (by decide) (ls' := [_, _, _, _, _, _, _]) rfl dX12_isLikeFirst_174 ?_
              first | refine G_iincN 175 hC (by decide) rfl (ls' := [_, _, _, _, _, _, _]) rfl dX12_isLikeFirst_175 ?_ | refine G_iinc 175 hC _ rfl (by decide) rfl (ls' := [_, _, _, _, _, _, _]) rfl dX12_isLikeFirst_175 ?_
              refine G_goto 178 61 hC dX12_isLikeFirst_178 (by decide) ?_
              refine ih (j + 1) _ _ _ _ (by omega) (by omega) (Or.inr ⟨rfl, fun z => hP ⟨z.1, fun u hu => z.2 u (by omega)⟩⟩)
            · exact absurd (by decide) h119
          · refine G_iload_n 100 hC rfl dX12_isLikeFirst_100 ?_
            refine G_bipush 101 hC (-9) (by decide) dX12_isLikeFirst_101 ?_
            refine G_icmp_eq 103 111 hC dX12_isLikeFirst_103 (by decide) (fun h103 => ?_) (fun h103 => ?_)
            · first | have a108 := Int32.not_le.mp h108 | skip
              refine G_iconst 111 hC (nI 1) (by decide) dX12_isLikeFirst_111 ?_
              refine G_goto 112 116 hC dX12_isLikeFirst_112 (by decide) ?_
              refine G_istore 116 hC (by decide) (ls' := [_, _, _, _, _, _, _]) rfl dX12_isLikeFirst_116 ?_
              refine G_iload_n 118 hC rfl dX12_isLikeFirst_118 ?_
              first | refine G_if_eq_b 119 173 hC dX12_isLikeFirst_119 (by decide) (fun h119 => ?_) (fun h119 => ?_) | refine G_if_eq 119 173 hC dX12_isLikeFirst_119 (by decide) (fun h119 => ?_) (fun h119 => ?_)
              · refine G_iconst 173 hC (nI 0) (by decide) dX12_isLikeFirst_173 ?_
                refine G_istore_n 174 hC 2 rfl (by decide) (ls' := [_, _, _, _, _, _, _]) rfl dX12_isLikeFirst_174 ?_
                first | refine G_iincN 175 hC (by decide) rfl (ls' := [_, _, _, _, _, _, _]) rfl dX12_isLikeFirst_175 ?_ | refine G_iinc 175 hC _ rfl (by decide) rfl (ls' := [_, _, _, _, _, _, _]) rfl dX12_isLikeFirst_175 ?_
                refine G_goto 178 61 hC dX12_isLikeFirst_178 (by decide) ?_
                refine ih (j + 1) _ _ _ _ (by omega) (by omega) (Or.inr ⟨rfl, fun z => hP ⟨z.1, fun u hu => z.2 u (by omega)⟩⟩)
              · exact absurd (by decide) h119
            · refine G_iload_n 106 hC rfl dX12_isLikeFirst_106 ?_
              refine G_iload_n 107 hC rfl dX12_isLikeFirst_107 ?_
              refine G_icmp_ge 108 115 hC dX12_isLikeFirst_108 (by decide) (fun h108 => ?_) (fun h108 => ?_)
              · first | have a108 := Int32.not_lt.mpr h108 | skip
                refine G_iconst 115 hC (nI 0) (by decide) dX12_isLikeFirst_115 ?_
                refine G_istore 116 hC (by decide) (ls' := [_, _, _, _, _, _, _]) rfl dX12_isLikeFirst_116 ?_
                refine G_iload_n 118 hC rfl dX12_isLikeFirst_118 ?_
                first | refine G_if_eq_b 119 173 hC dX12_isLikeFirst_119 (by decide) (fun h119 => ?_) (fun h119 => ?_) | refine G_if_eq 119 173 hC dX12_isLikeFirst_119 (by decide) (fun h119 => ?_) (fun h119 => ?_)
                · refine G_iconst 173 hC (nI 0) (by decide) dX12_isLikeFirst_173 ?_
                  refine G_istore_n 174 hC 2 rfl (by decide) (ls' := [_, _, _, _, _, _, _]) rfl dX12_isLikeFirst_174 ?_
                  first | refine G_iincN 175 hC (by decide) rfl (ls' := [_, _, _, _, _, _, _]) rfl dX12_isLikeFirst_175 ?_ | refine G_iinc 175 hC _ rfl (by decide) rfl (ls' := [_, _, _, _, _, _, _]) rfl dX12_isLikeFirst_175 ?_
                  refine G_goto 178 61 hC dX12_isLikeFirst_178 (by decide) ?_
                  refine ih (j + 1) _ _ _ _ (by omega) (by omega) (Or.inr ⟨rfl, fun z => hP ⟨z.1, fun u hu => z.2 u (by omega)⟩⟩)
                · exact absurd (by decide) h119
              · first | have a108 := Int32.not_le.mp h108 | skip
                refine G_iconst 111 hC (nI 1) (by decide) dX12_isLikeFirst_111 ?_
                refine G_goto 112 116 hC dX12_isLikeFirst_112 (by decide) ?_
                refine G_istore 116 hC (by decide) (ls' := [_, _, _, _, _, _, _]) rfl dX12_isLikeFirst_116 ?_
                refine G_iload_n 118 hC rfl dX12_isLikeFirst_118 ?_
                first | refine G_if_eq_b 119 173 hC dX12_isLikeFirst_119 (by decide) (fun h119 => ?_) (fun h119 => ?_) | refine G_if_eq 119 173 hC dX12_isLikeFirst_119 (by decide) (fun h119 => ?_) (fun h119 => ?_)
                · refine G_iconst 173 hC (nI 0) (by decide) dX12_isLikeFirst_173 ?_
                  refine G_istore_n 174 hC 2 rfl (by decide) (ls' := [_, _, _, _, _, _, _]) rfl dX12_isLikeFirst_174 ?_
                  first | refine G_iincN 175 hC (by decide) rfl (ls' := [_, _, _, _, _, _, _]) rfl dX12_isLikeFirst_175 ?_ | refine G_iinc 175 hC _ rfl (by decide) rfl (ls' := [_, _, _, _, _, _, _]) rfl dX12_isLikeFirst_175 ?_
                  refine G_goto 178 61 hC dX12_isLikeFirst_178 (by decide) ?_
                  refine ih (j + 1) _ _ _ _ (by omega) (by omega) (Or.inr ⟨rfl, fun z => hP ⟨z.1, fun u hu => z.2 u (by omega)⟩⟩)
                · exact absurd (by decide) h119
  show g 0 [some (vr (some (b + 0))), none, none, none, none, none, none] [] _ _ N 0 0
  refine G_aload_n 0 hC rfl dX12_isLikeFirst_0 ?_
  refine M_getR 1 hC hF fl_X12_68_11 rfl rfl dX12_isLikeFirst_1 ?_
  refine G_sipush 4 hC (nI 245) (by decide) dX12_isLikeFirst_4 ?_
  refine N_iald 7 hC hF rfl (by omega) dX12_isLikeFirst_7 ?_
  refine G_istore_n 8 hC 1 rfl (by decide) (ls' := [_, _, _, _, _, _, _]) rfl dX12_isLikeFirst_8 ?_
  refine G_iload_n 9 hC rfl dX12_isLikeFirst_9 ?_
  refine G_aload_n 10 hC rfl dX12_isLikeFirst_10 ?_
  refine M_getR 11 hC hF fl_X12_80_11 rfl rfl dX12_isLikeFirst_11 ?_
  refine G_sipush 14 hC (nI 245) (by decide) dX12_isLikeFirst_14 ?_
  refine N_ialdO 17 hC hF rfl (by decide) (by decide) rfl (by omega) dX12_isLikeFirst_17 ?_
  refine G_icmp_ne 18 57 hC dX12_isLikeFirst_18 (by decide) (fun h18 => ?_) (fun h18 => ?_)
  · refine G_iconst 57 hC (nI 0) (by decide) dX12_isLikeFirst_57 ?_
    refine G_istore_n 58 hC 2 rfl (by decide) (ls' := [_, _, _, _, _, _, _]) rfl dX12_isLikeFirst_58 ?_
    refine G_iconst 59 hC (nI 0) (by decide) dX12_isLikeFirst_59 ?_
    refine G_istore_n 60 hC 3 rfl (by decide) (ls' := [_, _, _, _, _, _, _]) rfl dX12_isLikeFirst_60 ?_
    first
      | (refine loop1 _ 0 _ none none none (Nat.lt_succ_self _) (Nat.zero_le _) (Or.inl ⟨rfl, ⟨h18, ?_⟩, fun u hu => absurd hu (Nat.not_lt_zero _)⟩)
         first | exact Or.inl h24 | (rw [hk1, nI_clamp (by omega)]; exact Or.inr (Or.inl h34)) | (rw [hk1, nI_clamp (by omega)]; exact Or.inr (Or.inr ((lg_cmp_eq _ _).mp h50))))
      | (refine loop1 _ 0 _ none none none (Nat.lt_succ_self _) (Nat.zero_le _) (Or.inr ⟨rfl, fun z => ?_⟩)
         obtain ⟨⟨z1, z2⟩, -⟩ := z
         first
           | exact h18 z1
           | (rw [hk1, nI_clamp (by omega)] at z2
              rcases z2 with y | y | y
              · exact nI_n9 (by omega) y
              · exact h34 y
              · exact h50 ((lg_cmp_eq _ _).mpr y)))
  · refine G_iload_n 21 hC rfl dX12_isLikeFirst_21 ?_
    refine G_bipush 22 hC (-9) (by decide) dX12_isLikeFirst_22 ?_
    refine G_icmp_eq 24 53 hC dX12_isLikeFirst_24 (by decide) (fun h24 => ?_) (fun h24 => ?_)
    · refine G_iconst 53 hC (nI 1) (by decide) dX12_isLikeFirst_53 ?_
      refine G_goto 54 58 hC dX12_isLikeFirst_54 (by decide) ?_
      refine G_istore_n 58 hC 2 rfl (by decide) (ls' := [_, _, _, _, _, _, _]) rfl dX12_isLikeFirst_58 ?_
      refine G_iconst 59 hC (nI 0) (by decide) dX12_isLikeFirst_59 ?_
      refine G_istore_n 60 hC 3 rfl (by decide) (ls' := [_, _, _, _, _, _, _]) rfl dX12_isLikeFirst_60 ?_
      first
        | (refine loop1 _ 0 _ none none none (Nat.lt_succ_self _) (Nat.zero_le _) (Or.inl ⟨rfl, ⟨h18, ?_⟩, fun u hu => absurd hu (Nat.not_lt_zero _)⟩)
           first | exact Or.inl h24 | (rw [hk1, nI_clamp (by omega)]; exact Or.inr (Or.inl h34)) | (rw [hk1, nI_clamp (by omega)]; exact Or.inr (Or.inr ((lg_cmp_eq _ _).mp h50))))
        | (refine loop1 _ 0 _ none none none (Nat.lt_succ_self _) (Nat.zero_le _) (Or.inr ⟨rfl, fun z => ?_⟩)
           obtain ⟨⟨z1, z2⟩, -⟩ := z
           first
             | exact h18 z1
             | (rw [hk1, nI_clamp (by omega)] at z2
                rcases z2 with y | y | y
                · exact nI_n9 (by omega) y
                · exact h34 y
                · exact h50 ((lg_cmp_eq _ _).mpr y)))
    · rcases htk with y | ⟨k0, hk0, hk1⟩
      · exact absurd y h24
      · refine G_aload_n 27 hC rfl dX12_isLikeFirst_27 ?_
        refine M_getR 28 hC hF fl_X12_26_11 rfl rfl dX12_isLikeFirst_28 ?_
        refine G_iload_n 31 hC rfl dX12_isLikeFirst_31 ?_
        refine N_ialdO 32 hC hF rfl (by decide) (by decide) (hk1) (by omega) dX12_isLikeFirst_32 ?_
        refine G_iconst 33 hC (nI 2) (by decide) dX12_isLikeFirst_33 ?_
        refine G_icmp_lt 34 53 hC dX12_isLikeFirst_34 (by decide) (fun h34 => ?_) (fun h34 => ?_)
        · refine G_iconst 53 hC (nI 1) (by decide) dX12_isLikeFirst_53 ?_
          refine G_goto 54 58 hC dX12_isLikeFirst_54 (by decide) ?_
          refine G_istore_n 58 hC 2 rfl (by decide) (ls' := [_, _, _, _, _, _, _]) rfl dX12_isLikeFirst_58 ?_
          refine G_iconst 59 hC (nI 0) (by decide) dX12_isLikeFirst_59 ?_
          refine G_istore_n 60 hC 3 rfl (by decide) (ls' := [_, _, _, _, _, _, _]) rfl dX12_isLikeFirst_60 ?_
          first
            | (refine loop1 _ 0 _ none none none (Nat.lt_succ_self _) (Nat.zero_le _) (Or.inl ⟨rfl, ⟨h18, ?_⟩, fun u hu => absurd hu (Nat.not_lt_zero _)⟩)
               first | exact Or.inl h24 | (rw [hk1, nI_clamp (by omega)]; exact Or.inr (Or.inl h34)) | (rw [hk1, nI_clamp (by omega)]; exact Or.inr (Or.inr ((lg_cmp_eq _ _).mp h50))))
            | (refine loop1 _ 0 _ none none none (Nat.lt_succ_self _) (Nat.zero_le _) (Or.inr ⟨rfl, fun z => ?_⟩)
               obtain ⟨⟨z1, z2⟩, -⟩ := z
               first
                 | exact h18 z1
                 | (rw [hk1, nI_clamp (by omega)] at z2
                    rcases z2 with y | y | y
                    · exact nI_n9 (by omega) y
                    · exact h34 y
                    · exact h50 ((lg_cmp_eq _ _).mpr y)))
        · refine G_aload_n 37 hC rfl dX12_isLikeFirst_37 ?_
          refine M_getR 38 hC hF fl_X12_74_11 rfl rfl dX12_isLikeFirst_38 ?_
          refine G_iload_n 41 hC rfl dX12_isLikeFirst_41 ?_
          refine Q_lald 42 hC hF (hk1) (by omega) dX12_isLikeFirst_42 ?_
          refine G_aload_n 43 hC rfl dX12_isLikeFirst_43 ?_
          refine M_getR 44 hC hF fl_X12_83_11 rfl rfl dX12_isLikeFirst_44 ?_
          refine G_iload_n 47 hC rfl dX12_isLikeFirst_47 ?_
          refine Q_laldO 48 hC hF rfl (by decide) (by decide) (by decide) (hk1) (by omega) dX12_isLikeFirst_48 ?_
          refine G_lcmp 49 hC dX12_isLikeFirst_49 ?_
          first | refine G_if_ne_b 50 57 hC dX12_isLikeFirst_50 (by decide) (fun h50 => ?_) (fun h50 => ?_) | refine G_if_ne 50 57 hC dX12_isLikeFirst_50 (by decide) (fun h50 => ?_) (fun h50 => ?_)
          · refine G_iconst 57 hC (nI 0) (by decide) dX12_isLikeFirst_57 ?_
            refine G_istore_n 58 hC 2 rfl (by decide) (ls' := [_, _, _, _, _, _, _]) rfl dX12_isLikeFirst_58 ?_
            refine G_iconst 59 hC (nI 0) (by decide) dX12_isLikeFirst_59 ?_
            refine G_istore_n 60 hC 3 rfl (by decide) (ls' := [_, _, _, _, _, _, _]) rfl dX12_isLikeFirst_60 ?_
            first
              | (refine loop1 _ 0 _ none none none (Nat.lt_succ_self _) (Nat.zero_le _) (Or.inl ⟨rfl, ⟨h18, ?_⟩, fun u hu => absurd hu (Nat.not_lt_zero _)⟩)
                 first | exact Or.inl h24 | (rw [hk1, nI_clamp (by omega)]; exact Or.inr (Or.inl h34)) | (rw [hk1, nI_clamp (by omega)]; exact Or.inr (Or.inr ((lg_cmp_eq _ _).mp h50))))
              | (refine loop1 _ 0 _ none none none (Nat.lt_succ_self _) (Nat.zero_le _) (Or.inr ⟨rfl, fun z => ?_⟩)
                 obtain ⟨⟨z1, z2⟩, -⟩ := z
                 first
                   | exact h18 z1
                   | (rw [hk1, nI_clamp (by omega)] at z2
                      rcases z2 with y | y | y
                      · exact nI_n9 (by omega) y
                      · exact h34 y
                      · exact h50 ((lg_cmp_eq _ _).mpr y)))
          · refine G_iconst 53 hC (nI 1) (by decide) dX12_isLikeFirst_53 ?_
            refine G_goto 54 58 hC dX12_isLikeFirst_54 (by decide) ?_
            refine G_istore_n 58 hC 2 rfl (by decide) (ls' := [_, _, _, _, _, _, _]) rfl dX12_isLikeFirst_58 ?_
            refine G_iconst 59 hC (nI 0) (by decide) dX12_isLikeFirst_59 ?_
            refine G_istore_n 60 hC 3 rfl (by decide) (ls' := [_, _, _, _, _, _, _]) rfl dX12_isLikeFirst_60 ?_
            first
              | (refine loop1 _ 0 _ none none none (Nat.lt_succ_self _) (Nat.zero_le _) (Or.inl ⟨rfl, ⟨h18, ?_⟩, fun u hu => absurd hu (Nat.not_lt_zero _)⟩)
                 first | exact Or.inl h24 | (rw [hk1, nI_clamp (by omega)]; exact Or.inr (Or.inl h34)) | (rw [hk1, nI_clamp (by omega)]; exact Or.inr (Or.inr ((lg_cmp_eq _ _).mp h50))))
              | (refine loop1 _ 0 _ none none none (Nat.lt_succ_self _) (Nat.zero_le _) (Or.inr ⟨rfl, fun z => ?_⟩)
                 obtain ⟨⟨z1, z2⟩, -⟩ := z
                 first
                   | exact h18 z1
                   | (rw [hk1, nI_clamp (by omega)] at z2
                      rcases z2 with y | y | y
                      · exact nI_n9 (by omega) y
                      · exact h34 y
                      · exact h50 ((lg_cmp_eq _ _).mpr y)))
end M15

/-! ===== begins, keep, bring ===== -/
section RUN2
variable {l : Launch} {D : va_G} {B : Nat} {own : String} {cc : ByteArray} {nL : Nat} {mn : String} {R : Room} {g : GT} {ls ls' : List (Option MV)} {st st0 : List MV} {r G : MI} {n : Nat → Int32} {rl GL : ML} {S : Int64} {q : Nat → Int64} {N : NT} {kc ks b : Nat} {I : MI} {L : ML}
theorem N_iastO (pc : Nat) (hC : Cx l D B own cc nL mn R g) (hF : FixR b N) {o z j : Nat} {i x : Int32} (hs : shR o = (12, z)) (ho : o ≠ 20) (hn : z < 2 ^ 31) (hi : i = nI j) (hj : j < z) (hd : decode cc pc = .ok (.iastore, 1)) (kk : g (pc + 1) ls st (RI b (upd2 r o j x) n G) L N kc ks) : g pc ls (vi x :: vi i :: vr (some (b + o)) :: st) (RI b r n G) L N kc ks := M_iast pc hC hF hs hn hi hj hd (by rw [up_upd2n _ _ _ (fun h => ho h.symm)]; exact kk)
theorem upd2_comm {α : Type} (f : Nat → Nat → α) {a c i j : Nat} {v w : α} (h : a ≠ c) : upd2 (upd2 f a i v) c j w = upd2 (upd2 f c j w) a i v := by
  funext x
  by_cases h1 : x = c
  · subst h1; rw [upd2_row, upd2_ne (fun q => h q.symm), upd2_ne (fun q => h q.symm), upd2_row]
  · rw [upd2_ne h1]
    by_cases h2 : x = a
    · subst h2; rw [upd2_row, upd2_row, upd2_ne h1]
    · rw [upd2_ne h2, upd2_ne h2, upd2_ne h1]
theorem Q_lastO (pc : Nat) (hC : Cx l D B own cc nL mn R g) (hF : FixR b N) {o z j : Nat} {i : Int32} {x : Int64} (hs : shR o = (13, z)) (ho : o ≠ 22) (ho2 : o ≠ 0) (hn : z < 2 ^ 31) (hi : i = nI j) (hj : j < z) (hd : decode cc pc = .ok (.lastore, 1)) (kk : g (pc + 1) ls st I (RLg b (upd2 rl o j x) S q GL) N kc ks) : g pc ls (vl x :: vi i :: vr (some (b + o)) :: st) I (RLg b rl S q GL) N kc ks := M_last pc hC hF hs hn hi hj hd (by rw [up_upd2n _ _ _ (fun h => ho h.symm), upd2_comm _ (fun h => ho2 h.symm)]; exact kk)
end RUN2
def F_l1 (n : Nat → Int32) : Nat → Nat → Int32
  | 0 => n
  | j + 1 => up (F_l1 n j) j (nI 0)
def F_l2 (n : Nat → Int32) : Nat → Nat → Int32
  | 0 => n
  | j + 1 => up (F_l2 n j) (12 * j + 5) (-9)
def F_q2 (q : Nat → Int64) : Nat → Nat → Int64
  | 0 => q
  | j + 1 => up (F_q2 q j) j 0
def F_l3 (n : Nat → Int32) : Nat → Nat → Int32
  | 0 => n
  | j + 1 => up (F_l3 n j) (250 + j) (-9)
def F_l4 (n : Nat → Int32) : Nat → Nat → Int32
  | 0 => n
  | j + 1 => up (F_l4 n j) (302 + j) (-9)
def F_q4 (rl : ML) (q : Nat → Int64) : Nat → Nat → Int64
  | 0 => q
  | j + 1 => up (up (F_q4 rl q j) (20 + j) (-9223372036854775808)) (28 + j) (rl 18 j)
def F_bgN (r : MI) (n : Nat → Int32) : Nat → Int32 := up (up (up (up (F_l4 (F_l3 (F_l2 (F_l1 n 310) 20) 6) 8) 242 (r 0 2)) 245 (-9)) 247 (r 0 10)) 248 (r 0 10)
def F_bgQ (rl : ML) (q : Nat → Int64) : Nat → Int64 := F_q4 rl (F_q2 q 20) 8
def F_cp (r : MI) (o : Nat) (n : Nat → Int32) : Nat → MI
  | 0 => r
  | j + 1 => upd2 (F_cp r o n j) o j (n j)
def F_cpl (rl : ML) (o : Nat) (q : Nat → Int64) : Nat → ML
  | 0 => rl
  | j + 1 => upd2 (F_cpl rl o q j) o j (q j)
def F_br {α : Type} (n x : Nat → α) : Nat → Nat → α
  | 0 => n
  | j + 1 => up (F_br n x j) j (x j)
section M12
variable {l : Launch} {D : va_G} {B b : Nat} {N : NT} {r G : MI} {rl GL : ML} {n n1 n2 n3 : Nat → Int32} {q q1 : Nat → Int64} {S S1 : Int64} {I : MI} {L L1 : ML}
theorem n_begins (hF : FixR b N) : Cq l D B mX12_begins [vr (some (b + 0))] (RI b r n G) (RLg b rl S q GL) N none (RI b r (F_bgN r n) G) (RLg b rl S (F_bgQ rl q) GL) := by
  refine Ct.of (M := mX12_begins) (by decide) (Nat.le_of_ble_eq_true rfl) (fun g (hR : Cr l D B RX12 cX12_begins 2 "begins" { frames := 0, cells := 0, slots := 0, locals := 0 } none 0 0 _ g) => ?_)
  have hC := hR.cx
  have k4 : g 135 [some (vr (some (b + 0))), some (vi (nI 8))] [] (RI b r (F_l4 (F_l3 (F_l2 (F_l1 n 310) 20) 6) 8) G) (RLg b rl S (F_q4 rl (F_q2 q 20) 8) GL) N 0 0 := by
    refine G_aload_n 135 hC rfl dX12_begins_135 ?_
    refine M_getR 136 hC hF fl_X12_68_11 rfl rfl dX12_begins_136 ?_
    refine G_sipush 139 hC (nI 242) (by decide) dX12_begins_139 ?_
    refine G_aload_n 142 hC rfl dX12_begins_142 ?_
    refine N_getI 143 hC hF fl_X12_90_11 rfl dX12_begins_143 ?_
    refine N_iast 146 hC hF rfl (by omega) dX12_begins_146 ?_
    refine G_aload_n 147 hC rfl dX12_begins_147 ?_
    refine M_getR 148 hC hF fl_X12_68_11 rfl rfl dX12_begins_148 ?_
    refine G_sipush 151 hC (nI 245) (by decide) dX12_begins_151 ?_
    refine G_bipush 154 hC (-9) (by decide) dX12_begins_154 ?_
    refine N_iast 156 hC hF rfl (by omega) dX12_begins_156 ?_
    refine G_aload_n 157 hC rfl dX12_begins_157 ?_
    refine M_getR 158 hC hF fl_X12_68_11 rfl rfl dX12_begins_158 ?_
    refine G_sipush 161 hC (nI 247) (by decide) dX12_begins_161 ?_
    refine G_aload_n 164 hC rfl dX12_begins_164 ?_
    refine N_getI 165 hC hF fl_X12_101_11 rfl dX12_begins_165 ?_
    refine N_iast 168 hC hF rfl (by omega) dX12_begins_168 ?_
    refine G_aload_n 169 hC rfl dX12_begins_169 ?_
    refine M_getR 170 hC hF fl_X12_68_11 rfl rfl dX12_begins_170 ?_
    refine G_sipush 173 hC (nI 248) (by decide) dX12_begins_173 ?_
    refine G_aload_n 176 hC rfl dX12_begins_176 ?_
    refine N_getI 177 hC hF fl_X12_101_11 rfl dX12_begins_177 ?_
    refine N_iast 180 hC hF rfl (by omega) dX12_begins_180 ?_
    refine R_v 181 hR dX12_begins_181 (Nat.le_refl _) (Nat.le_refl _) ?_
    exact ⟨rfl, rfl, rfl, rfl⟩
  have loop4 : ∀ (k j : Nat), 8 - j < k → j ≤ 8 → g 84 [some (vr (some (b + 0))), some (vi (nI j))] [] (RI b r (F_l4 (F_l3 (F_l2 (F_l1 n 310) 20) 6) j) G) (RLg b rl S (F_q4 rl (F_q2 q 20) j) GL) N 0 0 := by
    intro k
    induction k with
    | zero => intro j h1; omega
    | succ k ih =>
      intro j hk1 hj
      refine G_iload_n 84 hC rfl dX12_begins_84 ?_
      refine G_bipush 85 hC (nI 8) (by decide) dX12_begins_85 ?_
      refine G_icmp_ge 87 135 hC dX12_begins_87 (by decide) (fun h87 => ?_) (fun h87 => ?_)
      · have ej : j = 8 := by
          have z := (nI_leI (by omega) (by omega)).mp h87
          omega
        subst ej
        exact k4
      · have aj : j < 8 := by
          rcases Nat.lt_or_ge j 8 with z | z
          · exact z
          · exact absurd ((nI_leI (by omega) (by omega)).mpr z) h87
        refine G_aload_n 90 hC rfl dX12_begins_90 ?_
        refine M_getR 91 hC hF fl_X12_68_11 rfl rfl dX12_begins_91 ?_
        refine G_sipush 94 hC (nI 302) (by decide) dX12_begins_94 ?_
        refine G_iload_n 97 hC rfl dX12_begins_97 ?_
        refine G_iaddN 98 hC dX12_begins_98 ?_
        refine G_bipush 99 hC (-9) (by decide) dX12_begins_99 ?_
        refine N_iast 101 hC hF rfl (by omega) dX12_begins_101 ?_
        refine G_aload_n 102 hC rfl dX12_begins_102 ?_
        refine M_getR 103 hC hF fl_X12_74_11 rfl rfl dX12_begins_103 ?_
        refine G_bipush 106 hC (nI 20) (by decide) dX12_begins_106 ?_
        refine G_iload_n 108 hC rfl dX12_begins_108 ?_
        refine G_iaddN 109 hC dX12_begins_109 ?_
        refine G_ldc2 110 hC kc_X12_99 dX12_begins_110 ?_
        refine Q_last 113 hC hF rfl (by omega) dX12_begins_113 ?_
        refine G_aload_n 114 hC rfl dX12_begins_114 ?_
        refine M_getR 115 hC hF fl_X12_74_11 rfl rfl dX12_begins_115 ?_
        refine G_bipush 118 hC (nI 28) (by decide) dX12_begins_118 ?_
        refine G_iload_n 120 hC rfl dX12_begins_120 ?_
        refine G_iaddN 121 hC dX12_begins_121 ?_
        refine G_aload_n 122 hC rfl dX12_begins_122 ?_
        refine M_getR 123 hC hF fl_X12_62_11 rfl rfl dX12_begins_123 ?_
        refine G_iload_n 126 hC rfl dX12_begins_126 ?_
        refine Q_laldO 127 hC hF rfl (by decide) (by decide) (by decide) rfl (by omega) dX12_begins_127 ?_
        refine Q_last 128 hC hF rfl (by omega) dX12_begins_128 ?_
        first | refine G_iincN 129 hC (by decide) rfl (ls' := [_, _]) rfl dX12_begins_129 ?_ | refine G_iinc 129 hC _ rfl (by decide) rfl (ls' := [_, _]) rfl dX12_begins_129 ?_
        refine G_goto 132 84 hC dX12_begins_132 (by decide) ?_
        exact ih (j + 1) (by omega) (by omega)
  have k3 : g 82 [some (vr (some (b + 0))), some (vi (nI 6))] [] (RI b r (F_l3 (F_l2 (F_l1 n 310) 20) 6) G) (RLg b rl S (F_q2 q 20) GL) N 0 0 := by
    refine G_iconst 82 hC (nI 0) (by decide) dX12_begins_82 ?_
    refine G_istore_n 83 hC 1 rfl (by decide) (ls' := [_, _]) rfl dX12_begins_83 ?_
    exact loop4 _ 0 (Nat.lt_succ_self _) (Nat.zero_le _)
  have loop3 : ∀ (k j : Nat), 6 - j < k → j ≤ 6 → g 58 [some (vr (some (b + 0))), some (vi (nI j))] [] (RI b r (F_l3 (F_l2 (F_l1 n 310) 20) j) G) (RLg b rl S (F_q2 q 20) GL) N 0 0 := by
    intro k
    induction k with
    | zero => intro j h1; omega
    | succ k ih =>
      intro j hk1 hj
      refine G_iload_n 58 hC rfl dX12_begins_58 ?_
      refine G_bipush 59 hC (nI 6) (by decide) dX12_begins_59 ?_
      refine G_icmp_ge 61 82 hC dX12_begins_61 (by decide) (fun h61 => ?_) (fun h61 => ?_)
      · have ej : j = 6 := by
          have z := (nI_leI (by omega) (by omega)).mp h61
          omega
        subst ej
        exact k3
      · have aj : j < 6 := by
          rcases Nat.lt_or_ge j 6 with z | z
          · exact z
          · exact absurd ((nI_leI (by omega) (by omega)).mpr z) h61
        refine G_aload_n 64 hC rfl dX12_begins_64 ?_
        refine M_getR 65 hC hF fl_X12_68_11 rfl rfl dX12_begins_65 ?_
        refine G_sipush 68 hC (nI 250) (by decide) dX12_begins_68 ?_
        refine G_iload_n 71 hC rfl dX12_begins_71 ?_
        refine G_iaddN 72 hC dX12_begins_72 ?_
        refine G_bipush 73 hC (-9) (by decide) dX12_begins_73 ?_
        refine N_iast 75 hC hF rfl (by omega) dX12_begins_75 ?_
        first | refine G_iincN 76 hC (by decide) rfl (ls' := [_, _]) rfl dX12_begins_76 ?_ | refine G_iinc 76 hC _ rfl (by decide) rfl (ls' := [_, _]) rfl dX12_begins_76 ?_
        refine G_goto 79 58 hC dX12_begins_79 (by decide) ?_
        exact ih (j + 1) (by omega) (by omega)
  have k2 : g 56 [some (vr (some (b + 0))), some (vi (nI 20))] [] (RI b r (F_l2 (F_l1 n 310) 20) G) (RLg b rl S (F_q2 q 20) GL) N 0 0 := by
    refine G_iconst 56 hC (nI 0) (by decide) dX12_begins_56 ?_
    refine G_istore_n 57 hC 1 rfl (by decide) (ls' := [_, _]) rfl dX12_begins_57 ?_
    exact loop3 _ 0 (Nat.lt_succ_self _) (Nat.zero_le _)
  have loop2 : ∀ (k j : Nat), 20 - j < k → j ≤ 20 → g 24 [some (vr (some (b + 0))), some (vi (nI j))] [] (RI b r (F_l2 (F_l1 n 310) j) G) (RLg b rl S (F_q2 q j) GL) N 0 0 := by
    intro k
    induction k with
    | zero => intro j h1; omega
    | succ k ih =>
      intro j hk1 hj
      refine G_iload_n 24 hC rfl dX12_begins_24 ?_
      refine G_bipush 25 hC (nI 20) (by decide) dX12_begins_25 ?_
      refine G_icmp_ge 27 56 hC dX12_begins_27 (by decide) (fun h27 => ?_) (fun h27 => ?_)
      · have ej : j = 20 := by
          have z := (nI_leI (by omega) (by omega)).mp h27
          omega
        subst ej
        exact k2
      · have aj : j < 20 := by
          rcases Nat.lt_or_ge j 20 with z | z
          · exact z
          · exact absurd ((nI_leI (by omega) (by omega)).mpr z) h27
        refine G_aload_n 30 hC rfl dX12_begins_30 ?_
        refine M_getR 31 hC hF fl_X12_68_11 rfl rfl dX12_begins_31 ?_
        refine G_bipush 34 hC (nI 12) (by decide) dX12_begins_34 ?_
        refine G_iload_n 36 hC rfl dX12_begins_36 ?_
        refine G_imulN 37 hC dX12_begins_37 ?_
        refine G_iconst 38 hC (nI 5) (by decide) dX12_begins_38 ?_
        refine G_iaddN 39 hC dX12_begins_39 ?_
        refine G_bipush 40 hC (-9) (by decide) dX12_begins_40 ?_
        refine N_iast 42 hC hF rfl (by omega) dX12_begins_42 ?_
        refine G_aload_n 43 hC rfl dX12_begins_43 ?_
        refine M_getR 44 hC hF fl_X12_74_11 rfl rfl dX12_begins_44 ?_
        refine G_iload_n 47 hC rfl dX12_begins_47 ?_
        refine G_lconst 48 hC 0 (by decide) dX12_begins_48 ?_
        refine Q_last 49 hC hF rfl (by omega) dX12_begins_49 ?_
        first | refine G_iincN 50 hC (by decide) rfl (ls' := [_, _]) rfl dX12_begins_50 ?_ | refine G_iinc 50 hC _ rfl (by decide) rfl (ls' := [_, _]) rfl dX12_begins_50 ?_
        refine G_goto 53 24 hC dX12_begins_53 (by decide) ?_
        exact ih (j + 1) (by omega) (by omega)
  have k1 : g 22 [some (vr (some (b + 0))), some (vi (nI 310))] [] (RI b r (F_l1 n 310) G) (RLg b rl S q GL) N 0 0 := by
    refine G_iconst 22 hC (nI 0) (by decide) dX12_begins_22 ?_
    refine G_istore_n 23 hC 1 rfl (by decide) (ls' := [_, _]) rfl dX12_begins_23 ?_
    exact loop2 _ 0 (Nat.lt_succ_self _) (Nat.zero_le _)
  have loop1 : ∀ (k j : Nat), 310 - j < k → j ≤ 310 → g 2 [some (vr (some (b + 0))), some (vi (nI j))] [] (RI b r (F_l1 n j) G) (RLg b rl S q GL) N 0 0 := by
    intro k
    induction k with
    | zero => intro j h1; omega
    | succ k ih =>
      intro j hk1 hj
      refine G_iload_n 2 hC rfl dX12_begins_2 ?_
      refine G_sipush 3 hC (nI 310) (by decide) dX12_begins_3 ?_
      refine G_icmp_ge 6 22 hC dX12_begins_6 (by decide) (fun h6 => ?_) (fun h6 => ?_)
      · have ej : j = 310 := by
          have z := (nI_leI (by omega) (by omega)).mp h6
          omega
        subst ej
        exact k1
      · have aj : j < 310 := by
          rcases Nat.lt_or_ge j 310 with z | z
          · exact z
          · exact absurd ((nI_leI (by omega) (by omega)).mpr z) h6
        refine G_aload_n 9 hC rfl dX12_begins_9 ?_
        refine M_getR 10 hC hF fl_X12_68_11 rfl rfl dX12_begins_10 ?_
        refine G_iload_n 13 hC rfl dX12_begins_13 ?_
        refine G_iconst 14 hC (nI 0) (by decide) dX12_begins_14 ?_
        refine N_iast 15 hC hF rfl (by omega) dX12_begins_15 ?_
        first | refine G_iincN 16 hC (by decide) rfl (ls' := [_, _]) rfl dX12_begins_16 ?_ | refine G_iinc 16 hC _ rfl (by decide) rfl (ls' := [_, _]) rfl dX12_begins_16 ?_
        refine G_goto 19 2 hC dX12_begins_19 (by decide) ?_
        exact ih (j + 1) (by omega) (by omega)
  show g 0 [some (vr (some (b + 0))), none] [] _ _ N 0 0
  refine G_iconst 0 hC (nI 0) (by decide) dX12_begins_0 ?_
  refine G_istore_n 1 hC 1 rfl (by decide) (ls' := [_, _]) rfl dX12_begins_1 ?_
  exact loop1 _ 0 (Nat.lt_succ_self _) (Nat.zero_le _)
theorem n_keep (hF : FixR b N) : Cq l D B mX12_keep [vr (some (b + 0))] (RI b r n G) (RLg b rl S q GL) N none (RI b (F_cp r 21 n 310) n G) (RLg b (F_cpl rl 23 q 36) S q GL) := by
  refine Ct.of (M := mX12_keep) (by decide) (Nat.le_of_ble_eq_true rfl) (fun g (hR : Cr l D B RX12 cX12_keep 2 "keep" { frames := 0, cells := 0, slots := 0, locals := 0 } none 0 0 _ g) => ?_)
  have hC := hR.cx
  have k2 : g 53 [some (vr (some (b + 0))), some (vi (nI 36))] [] (RI b (F_cp r 21 n 310) n G) (RLg b (F_cpl rl 23 q 36) S q GL) N 0 0 := by
    refine R_v 53 hR dX12_keep_53 (Nat.le_refl _) (Nat.le_refl _) ?_
    exact ⟨rfl, rfl, rfl, rfl⟩
  have loop2 : ∀ (k j : Nat), 36 - j < k → j ≤ 36 → g 29 [some (vr (some (b + 0))), some (vi (nI j))] [] (RI b (F_cp r 21 n 310) n G) (RLg b (F_cpl rl 23 q j) S q GL) N 0 0 := by
    intro k
    induction k with
    | zero => intro j h1; omega
    | succ k ih =>
      intro j hk1 hj
      refine G_iload_n 29 hC rfl dX12_keep_29 ?_
      refine G_bipush 30 hC (nI 36) (by decide) dX12_keep_30 ?_
      refine G_icmp_ge 32 53 hC dX12_keep_32 (by decide) (fun h32 => ?_) (fun h32 => ?_)
      · have ej : j = 36 := by
          have z := (nI_leI (by omega) (by omega)).mp h32
          omega
        subst ej
        exact k2
      · have aj : j < 36 := by
          rcases Nat.lt_or_ge j 36 with z | z
          · exact z
          · exact absurd ((nI_leI (by omega) (by omega)).mpr z) h32
        refine G_aload_n 35 hC rfl dX12_keep_35 ?_
        refine M_getR 36 hC hF fl_X12_77_11 rfl rfl dX12_keep_36 ?_
        refine G_iload_n 39 hC rfl dX12_keep_39 ?_
        refine G_aload_n 40 hC rfl dX12_keep_40 ?_
        refine M_getR 41 hC hF fl_X12_74_11 rfl rfl dX12_keep_41 ?_
        refine G_iload_n 44 hC rfl dX12_keep_44 ?_
        refine Q_lald 45 hC hF rfl (by omega) dX12_keep_45 ?_
        refine Q_lastO 46 hC hF rfl (by decide) (by decide) (by decide) rfl (by omega) dX12_keep_46 ?_
        first | refine G_iincN 47 hC (by decide) rfl (ls' := [_, _]) rfl dX12_keep_47 ?_ | refine G_iinc 47 hC _ rfl (by decide) rfl (ls' := [_, _]) rfl dX12_keep_47 ?_
        refine G_goto 50 29 hC dX12_keep_50 (by decide) ?_
        exact ih (j + 1) (by omega) (by omega)
  have k1 : g 27 [some (vr (some (b + 0))), some (vi (nI 310))] [] (RI b (F_cp r 21 n 310) n G) (RLg b rl S q GL) N 0 0 := by
    refine G_iconst 27 hC (nI 0) (by decide) dX12_keep_27 ?_
    refine G_istore_n 28 hC 1 rfl (by decide) (ls' := [_, _]) rfl dX12_keep_28 ?_
    exact loop2 _ 0 (Nat.lt_succ_self _) (Nat.zero_le _)
  have loop1 : ∀ (k j : Nat), 310 - j < k → j ≤ 310 → g 2 [some (vr (some (b + 0))), some (vi (nI j))] [] (RI b (F_cp r 21 n j) n G) (RLg b rl S q GL) N 0 0 := by
    intro k
    induction k with
    | zero => intro j h1; omega
    | succ k ih =>
      intro j hk1 hj
      refine G_iload_n 2 hC rfl dX12_keep_2 ?_
      refine G_sipush 3 hC (nI 310) (by decide) dX12_keep_3 ?_
      refine G_icmp_ge 6 27 hC dX12_keep_6 (by decide) (fun h6 => ?_) (fun h6 => ?_)
      · have ej : j = 310 := by
          have z := (nI_leI (by omega) (by omega)).mp h6
          omega
        subst ej
        exact k1
      · have aj : j < 310 := by
          rcases Nat.lt_or_ge j 310 with z | z
          · exact z
          · exact absurd ((nI_leI (by omega) (by omega)).mpr z) h6
        refine G_aload_n 9 hC rfl dX12_keep_9 ?_
        refine M_getR 10 hC hF fl_X12_71_11 rfl rfl dX12_keep_10 ?_
        refine G_iload_n 13 hC rfl dX12_keep_13 ?_
        refine G_aload_n 14 hC rfl dX12_keep_14 ?_
        refine M_getR 15 hC hF fl_X12_68_11 rfl rfl dX12_keep_15 ?_
        refine G_iload_n 18 hC rfl dX12_keep_18 ?_
        refine N_iald 19 hC hF rfl (by omega) dX12_keep_19 ?_
        refine N_iastO 20 hC hF rfl (by decide) (by decide) rfl (by omega) dX12_keep_20 ?_
        first | refine G_iincN 21 hC (by decide) rfl (ls' := [_, _]) rfl dX12_keep_21 ?_ | refine G_iinc 21 hC _ rfl (by decide) rfl (ls' := [_, _]) rfl dX12_keep_21 ?_
        refine G_goto 24 2 hC dX12_keep_24 (by decide) ?_
        exact ih (j + 1) (by omega) (by omega)
  show g 0 [some (vr (some (b + 0))), none] [] _ _ N 0 0
  refine G_iconst 0 hC (nI 0) (by decide) dX12_keep_0 ?_
  refine G_istore_n 1 hC 1 rfl (by decide) (ls' := [_, _]) rfl dX12_keep_1 ?_
  exact loop1 _ 0 (Nat.lt_succ_self _) (Nat.zero_le _)
theorem n_bring (hF : FixR b N) : Cq l D B mX12_bring [vr (some (b + 0))] (RI b r n G) (RLg b rl S q GL) N none (RI b r (F_br n (r 21) 310) G) (RLg b rl S (F_br q (rl 23) 36) GL) := by
  refine Ct.of (M := mX12_bring) (by decide) (Nat.le_of_ble_eq_true rfl) (fun g (hR : Cr l D B RX12 cX12_bring 2 "bring" { frames := 0, cells := 0, slots := 0, locals := 0 } none 0 0 _ g) => ?_)
  have hC := hR.cx
  have k2 : g 53 [some (vr (some (b + 0))), some (vi (nI 36))] [] (RI b r (F_br n (r 21) 310) G) (RLg b rl S (F_br q (rl 23) 36) GL) N 0 0 := by
    refine R_v 53 hR dX12_bring_53 (Nat.le_refl _) (Nat.le_refl _) ?_
    exact ⟨rfl, rfl, rfl, rfl⟩
  have loop2 : ∀ (k j : Nat), 36 - j < k → j ≤ 36 → g 29 [some (vr (some (b + 0))), some (vi (nI j))] [] (RI b r (F_br n (r 21) 310) G) (RLg b rl S (F_br q (rl 23) j) GL) N 0 0 := by
    intro k
    induction k with
    | zero => intro j h1; omega
    | succ k ih =>
      intro j hk1 hj
      refine G_iload_n 29 hC rfl dX12_bring_29 ?_
      refine G_bipush 30 hC (nI 36) (by decide) dX12_bring_30 ?_
      refine G_icmp_ge 32 53 hC dX12_bring_32 (by decide) (fun h32 => ?_) (fun h32 => ?_)
      · have ej : j = 36 := by
          have z := (nI_leI (by omega) (by omega)).mp h32
          omega
        subst ej
        exact k2
      · have aj : j < 36 := by
          rcases Nat.lt_or_ge j 36 with z | z
          · exact z
          · exact absurd ((nI_leI (by omega) (by omega)).mpr z) h32
        refine G_aload_n 35 hC rfl dX12_bring_35 ?_
        refine M_getR 36 hC hF fl_X12_74_11 rfl rfl dX12_bring_36 ?_
        refine G_iload_n 39 hC rfl dX12_bring_39 ?_
        refine G_aload_n 40 hC rfl dX12_bring_40 ?_
        refine M_getR 41 hC hF fl_X12_77_11 rfl rfl dX12_bring_41 ?_
        refine G_iload_n 44 hC rfl dX12_bring_44 ?_
        refine Q_laldO 45 hC hF rfl (by decide) (by decide) (by decide) rfl (by omega) dX12_bring_45 ?_
        refine Q_last 46 hC hF rfl (by omega) dX12_bring_46 ?_
        first | refine G_iincN 47 hC (by decide) rfl (ls' := [_, _]) rfl dX12_bring_47 ?_ | refine G_iinc 47 hC _ rfl (by decide) rfl (ls' := [_, _]) rfl dX12_bring_47 ?_
        refine G_goto 50 29 hC dX12_bring_50 (by decide) ?_
        exact ih (j + 1) (by omega) (by omega)
  have k1 : g 27 [some (vr (some (b + 0))), some (vi (nI 310))] [] (RI b r (F_br n (r 21) 310) G) (RLg b rl S q GL) N 0 0 := by
    refine G_iconst 27 hC (nI 0) (by decide) dX12_bring_27 ?_
    refine G_istore_n 28 hC 1 rfl (by decide) (ls' := [_, _]) rfl dX12_bring_28 ?_
    exact loop2 _ 0 (Nat.lt_succ_self _) (Nat.zero_le _)
  have loop1 : ∀ (k j : Nat), 310 - j < k → j ≤ 310 → g 2 [some (vr (some (b + 0))), some (vi (nI j))] [] (RI b r (F_br n (r 21) j) G) (RLg b rl S q GL) N 0 0 := by
    intro k
    induction k with
    | zero => intro j h1; omega
    | succ k ih =>
      intro j hk1 hj
      refine G_iload_n 2 hC rfl dX12_bring_2 ?_
      refine G_sipush 3 hC (nI 310) (by decide) dX12_bring_3 ?_
      refine G_icmp_ge 6 27 hC dX12_bring_6 (by decide) (fun h6 => ?_) (fun h6 => ?_)
      · have ej : j = 310 := by
          have z := (nI_leI (by omega) (by omega)).mp h6
          omega
        subst ej
        exact k1
      · have aj : j < 310 := by
          rcases Nat.lt_or_ge j 310 with z | z
          · exact z
          · exact absurd ((nI_leI (by omega) (by omega)).mpr z) h6
        refine G_aload_n 9 hC rfl dX12_bring_9 ?_
        refine M_getR 10 hC hF fl_X12_68_11 rfl rfl dX12_bring_10 ?_
        refine G_iload_n 13 hC rfl dX12_bring_13 ?_
        refine G_aload_n 14 hC rfl dX12_bring_14 ?_
        refine M_getR 15 hC hF fl_X12_71_11 rfl rfl dX12_bring_15 ?_
        refine G_iload_n 18 hC rfl dX12_bring_18 ?_
        refine N_ialdO 19 hC hF rfl (by decide) (by decide) rfl (by omega) dX12_bring_19 ?_
        refine N_iast 20 hC hF rfl (by omega) dX12_bring_20 ?_
        first | refine G_iincN 21 hC (by decide) rfl (ls' := [_, _]) rfl dX12_bring_21 ?_ | refine G_iinc 21 hC _ rfl (by decide) rfl (ls' := [_, _]) rfl dX12_bring_21 ?_
        refine G_goto 24 2 hC dX12_bring_24 (by decide) ?_
        exact ih (j + 1) (by omega) (by omega)
  show g 0 [some (vr (some (b + 0))), none] [] _ _ N 0 0
  refine G_iconst 0 hC (nI 0) (by decide) dX12_bring_0 ?_
  refine G_istore_n 1 hC 1 rfl (by decide) (ls' := [_, _]) rfl dX12_bring_1 ?_
  exact loop1 _ 0 (Nat.lt_succ_self _) (Nat.zero_le _)
end M12

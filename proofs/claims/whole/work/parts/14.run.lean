/-! ===== the reference in a run: row 20 ('now') is n, row 22 ('great') is q, the field 'sum' is S; all else stays ===== -/
abbrev RI (b : Nat) (r : MI) (n : Nat → Int32) (G : MI) : MI := pt b 26 (up r 20 n) G
abbrev RLg (b : Nat) (rl : ML) (S : Int64) (q : Nat → Int64) (GL : ML) : ML := pt b 26 (up (upd2 rl 0 33 S) 22 q) GL
theorem up_up {α : Type} (f : Nat → α) (k : Nat) (v w : α) : up (up f k v) k w = up f k w := by
  funext j; by_cases h : j = k <;> simp [up, h]
theorem up_upd2 {α : Type} (f : Nat → Nat → α) (a j : Nat) (n : Nat → α) (v : α) : upd2 (up f a n) a j v = up f a (up n j v) := by
  unfold upd2; rw [up_s, up_up]
theorem up_upd2n {α : Type} (f : Nat → Nat → α) {a c j : Nat} (n : Nat → α) (v : α) (h : a ≠ c) : upd2 (up f a n) c j v = up (upd2 f c j v) a n := by
  funext x
  unfold upd2
  by_cases h1 : x = c
  · subst h1
    rw [up_s, up_n _ _ (fun q => h q.symm), up_n _ _ (fun q => h q.symm), up_s]
  · rw [up_n _ _ h1]
    by_cases h2 : x = a
    · subst h2; rw [up_s, up_s]
    · rw [up_n _ _ h2, up_n _ _ h2, up_n _ _ h1]
theorem up_ne {α : Type} {f : Nat → α} {k j : Nat} {v : α} (h : j ≠ k) : up f k v j = f j := up_n f v h
theorem upd2_same {α : Type} (f : Nat → Nat → α) (a j : Nat) : upd2 f a j (f a j) = f := by
  funext x
  unfold upd2
  by_cases h1 : x = a
  · subst h1; rw [up_s]; funext y; by_cases h2 : y = j <;> simp [up, h2]
  · rw [up_n _ _ h1]
theorem upd2_upd2 {α : Type} (f : Nat → Nat → α) (a j : Nat) (v w : α) : upd2 (upd2 f a j v) a j w = upd2 f a j w := by
  unfold upd2; rw [up_s, up_up, up_up]
section RUN
variable {l : Launch} {D : va_G} {B : Nat} {own : String} {cc : ByteArray} {nL : Nat} {mn : String} {R : Room} {g : GT} {ls ls' : List (Option MV)} {st st0 : List MV} {r G : MI} {n : Nat → Int32} {rl GL : ML} {S : Int64} {q : Nat → Int64} {N : NT} {kc ks b : Nat} {I : MI} {L : ML}
theorem N_getI (pc : Nat) (hC : Cx l D B own cc nL mn R g) (hF : FixR b N) {idx j : Nat} (hf : FL own idx 11 j) (ht : fty 11 j = 0) (hd : decode cc pc = .ok (.getfield idx, 3)) (kk : g (pc + 3) ls (vi (r 0 j) :: st) (RI b r n G) L N kc ks) : g pc ls (vr (some (b + 0)) :: st) (RI b r n G) L N kc ks := M_getI pc hC hF hf ht hd kk
theorem N_thr (pc : Nat) (hC : Cx l D B own cc nL mn R g) (hF : FixR b N) {idx : Nat} (h0 : r 0 0 = nI 0) (hf : FP own mn idx 11 0 .int) (hd : decode cc pc = .ok (.putfield idx, 3)) (kk : g (pc + 3) ls st (pt b 26 r G) L N kc ks) : g pc ls (vi (nI 0) :: vr (some (b + 0)) :: st) (pt b 26 r G) L N kc ks := M_putI pc hC hF hf rfl hd (by rw [← h0, upd2_same]; exact kk)
theorem N_iald (pc : Nat) (hC : Cx l D B own cc nL mn R g) (hF : FixR b N) {j : Nat} {i : Int32} (hi : i = nI j) (hj : j < 310) (hd : decode cc pc = .ok (.iaload, 1)) (kk : g (pc + 1) ls (vi (n j) :: st) (RI b r n G) L N kc ks) : g pc ls (vi i :: vr (some (b + 20)) :: st) (RI b r n G) L N kc ks := M_iald pc hC hF (o := 20) (n := 310) rfl (by decide) hi hj hd kk
theorem N_ialdO (pc : Nat) (hC : Cx l D B own cc nL mn R g) (hF : FixR b N) {o z j : Nat} {i : Int32} (hs : shR o = (12, z)) (ho : o ≠ 20) (hn : z < 2 ^ 31) (hi : i = nI j) (hj : j < z) (hd : decode cc pc = .ok (.iaload, 1)) (kk : g (pc + 1) ls (vi (r o j) :: st) (RI b r n G) L N kc ks) : g pc ls (vi i :: vr (some (b + o)) :: st) (RI b r n G) L N kc ks := M_iald pc hC hF hs hn hi hj hd (by rw [up_n _ _ ho]; exact kk)
theorem N_iast (pc : Nat) (hC : Cx l D B own cc nL mn R g) (hF : FixR b N) {j : Nat} {i x : Int32} (hi : i = nI j) (hj : j < 310) (hd : decode cc pc = .ok (.iastore, 1)) (kk : g (pc + 1) ls st (RI b r (up n j x) G) L N kc ks) : g pc ls (vi x :: vi i :: vr (some (b + 20)) :: st) (RI b r n G) L N kc ks := M_iast pc hC hF (o := 20) (n := 310) rfl (by decide) hi hj hd (by rw [up_upd2]; exact kk)
theorem Q_lald (pc : Nat) (hC : Cx l D B own cc nL mn R g) (hF : FixR b N) {j : Nat} {i : Int32} (hi : i = nI j) (hj : j < 36) (hd : decode cc pc = .ok (.laload, 1)) (kk : g (pc + 1) ls (vl (q j) :: st) I (RLg b rl S q GL) N kc ks) : g pc ls (vi i :: vr (some (b + 22)) :: st) I (RLg b rl S q GL) N kc ks := M_lald pc hC hF (o := 22) (n := 36) rfl (by decide) hi hj hd kk
theorem Q_laldO (pc : Nat) (hC : Cx l D B own cc nL mn R g) (hF : FixR b N) {o z j : Nat} {i : Int32} (hs : shR o = (13, z)) (ho : o ≠ 22) (ho2 : o ≠ 0) (hn : z < 2 ^ 31) (hi : i = nI j) (hj : j < z) (hd : decode cc pc = .ok (.laload, 1)) (kk : g (pc + 1) ls (vl (rl o j) :: st) I (RLg b rl S q GL) N kc ks) : g pc ls (vi i :: vr (some (b + o)) :: st) I (RLg b rl S q GL) N kc ks := M_lald pc hC hF hs hn hi hj hd (by rw [up_n _ _ ho, upd2_ne ho2]; exact kk)
theorem Q_last (pc : Nat) (hC : Cx l D B own cc nL mn R g) (hF : FixR b N) {j : Nat} {i : Int32} {x : Int64} (hi : i = nI j) (hj : j < 36) (hd : decode cc pc = .ok (.lastore, 1)) (kk : g (pc + 1) ls st I (RLg b rl S (up q j x) GL) N kc ks) : g pc ls (vl x :: vi i :: vr (some (b + 22)) :: st) I (RLg b rl S q GL) N kc ks := M_last pc hC hF (o := 22) (n := 36) rfl (by decide) hi hj hd (by rw [up_upd2]; exact kk)
theorem Q_getL (pc : Nat) (hC : Cx l D B own cc nL mn R g) (hF : FixR b N) {idx : Nat} (hf : FL own idx 11 33) (hd : decode cc pc = .ok (.getfield idx, 3)) (kk : g (pc + 3) ls (vl S :: st) I (RLg b rl S q GL) N kc ks) : g pc ls (vr (some (b + 0)) :: st) I (RLg b rl S q GL) N kc ks := M_getL pc hC hF hf rfl hd (by rw [up_n _ _ (by decide), upd2_row, up_s]; exact kk)
theorem Q_putL (pc : Nat) (hC : Cx l D B own cc nL mn R g) (hF : FixR b N) {idx : Nat} {x : Int64} (hf : FP own mn idx 11 33 .long) (hd : decode cc pc = .ok (.putfield idx, 3)) (kk : g (pc + 3) ls st I (RLg b rl x q GL) N kc ks) : g pc ls (vl x :: vr (some (b + 0)) :: st) I (RLg b rl S q GL) N kc ks := M_putL pc hC hF hf rfl hd (by rw [up_upd2n _ _ _ (by decide), upd2_upd2]; exact kk)
theorem n_at (hF : FixR b N) {t w : Nat} (ht : t < 20) (hw : w < 12) : Cq l D B mX12_at [vr (some (b + 0)), vi (nI t), vi (nI w)] (RI b r n G) L N (some (vi (n (12 * t + w)))) (RI b r n G) L := ref_at hF ht hw
theorem n_set (hF : FixR b N) {t w : Nat} {v : Int32} (ht : t < 20) (hw : w < 12) : Cq l D B mX12_set [vr (some (b + 0)), vi (nI t), vi (nI w), vi v] (RI b r n G) L N none (RI b r (up n (12 * t + w) v) G) L := by
  have h := ref_set (l := l) (D := D) (B := B) (r := up r 20 n) (G := G) (L := L) hF ht hw (v := v)
  rw [up_upd2] at h; exact h
theorem n_more (hF : FixR b N) {t w : Nat} (ht : t < 20) (hw : w < 12) : Cq l D B mX12_more [vr (some (b + 0)), vi (nI t), vi (nI w)] (RI b r n G) L N none (RI b r (up n (12 * t + w) (n (12 * t + w) + nI 1)) G) L := by
  have h := ref_more (l := l) (D := D) (B := B) (r := up r 20 n) (G := G) (L := L) hF ht hw
  rw [up_upd2, up_s] at h; exact h
theorem n_failed (hF : FixR b N) {t : Nat} {v : Int32} (ht : t < 20) : Cq l D B mX12_failed [vr (some (b + 0)), vi (nI t), vi v] (RI b r n G) L N (some (vi (nI 3))) (RI b r (up n (12 * t + 1) v) G) L := by
  have h := ref_failed (l := l) (D := D) (B := B) (r := up r 20 n) (G := G) (L := L) hF ht (v := v)
  rw [up_upd2] at h; exact h
end RUN

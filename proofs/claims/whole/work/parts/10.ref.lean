/-! ===== a block of cells of our own: cells b .. b + n - 1 hold k, all else is G ===== -/
def pt {α : Type} (b n : Nat) (k G : Nat → Nat → α) : Nat → Nat → α := fun a => if b ≤ a ∧ a < b + n then k (a - b) else G a
theorem pt_row {α : Type} {b n o : Nat} {k G : Nat → Nat → α} (h : o < n) : pt b n k G (b + o) = k o := by
  unfold pt
  rw [if_pos ⟨Nat.le_add_right _ _, by omega⟩, Nat.add_sub_cancel_left]
theorem pt_out {α : Type} {b n a : Nat} {k G : Nat → Nat → α} (h : a < b ∨ b + n ≤ a) : pt b n k G a = G a := by
  unfold pt
  rw [if_neg (by omega)]
theorem pt_upd {α : Type} {b n o j : Nat} {k G : Nat → Nat → α} {v : α} (h : o < n) : upd2 (pt b n k G) (b + o) j v = pt b n (upd2 k o j v) G := by
  funext a
  by_cases e : a = b + o
  · subst e
    rw [upd2_row, pt_row h, pt_row h, upd2_row]
  · rw [upd2_ne e]
    unfold pt
    by_cases hi : b ≤ a ∧ a < b + n
    · rw [if_pos hi, if_pos hi, upd2_ne (by omega)]
    · rw [if_neg hi, if_neg hi]
def bI (c : Prop) [Decidable c] : Int32 := if c then 1 else 0
/-- the reference's block: the object, then its rows -/
def shR (o : Nat) : Nat × Nat := ([(11, 36), (12, 6), (12, 6), (12, 120), (12, 600), (13, 7200), (12, 20), (12, 20), (13, 20), (12, 20), (12, 20), (12, 20), (12, 20), (12, 20), (12, 20), (12, 8), (12, 8), (12, 8), (13, 8), (12, 400), (12, 310), (12, 310), (13, 36), (13, 36), (12, 310), (13, 36)] : List (Nat × Nat)).getD o (21, 0)
def rfR (j : Nat) : Option Nat := ([none, none, none, none, some 1, some 2, some 3, none, some 4, some 5, none, some 6, some 7, some 8, some 9, some 10, some 11, some 12, some 13, some 14, none, some 15, some 16, some 17, some 18, none, some 19, some 20, some 21, some 22, some 23, none, none, none, some 24, some 25] : List (Option Nat)).getD j none
def FixR (b : Nat) (N : NT) : Prop := (∀ o, o < 26 → N.2.1 (b + o) = shR o) ∧ ∀ j o, rfR j = some o → N.1 (b + 0) j = some (b + o)
theorem FixR.sh {b : Nat} {N : NT} (h : FixR b N) {o k n : Nat} (hs : shR o = (k, n)) (hk : k ≠ 21) : N.2.1 (b + o) = (k, n) ∧ o < 26 := by
  have : o < 26 := by
    rcases Nat.lt_or_ge o 26 with q | q
    · exact q
    · have e : shR o = (21, 0) := by
        unfold shR
        simp only [List.getD_eq_getElem?_getD]
        rw [List.getElem?_eq_none (by simpa using q)]
        rfl
      rw [e] at hs
      cases hs
      exact absurd rfl hk
  exact ⟨by rw [h.1 o this]; exact hs, this⟩
section NUM
variable {l : Launch} {D : va_G} {B : Nat} {own : String} {cc : ByteArray} {nL : Nat} {mn : String} {R : Room} {g : GT} {ls ls' : List (Option MV)} {st st0 : List MV} {I : MI} {L : ML} {N : NT} {kc ks : Nat}
theorem G_iaddN (pc : Nat) (hC : Cx l D B own cc nL mn R g) {x y : Nat} (hd : decode cc pc = .ok (.iadd, 1)) (kk : g (pc + 1) ls (vi (nI (x + y)) :: st) I L N kc ks) : g pc ls (vi (nI y) :: vi (nI x) :: st) I L N kc ks := G_iadd pc hC hd (by rw [nI_add]; exact kk)
theorem G_imulN (pc : Nat) (hC : Cx l D B own cc nL mn R g) {x y : Nat} (hd : decode cc pc = .ok (.imul, 1)) (kk : g (pc + 1) ls (vi (nI (x * y)) :: st) I L N kc ks) : g pc ls (vi (nI y) :: vi (nI x) :: st) I L N kc ks := G_imul pc hC hd (by rw [pk_mul]; exact kk)
theorem G_isubN (pc : Nat) (hC : Cx l D B own cc nL mn R g) {x y : Nat} (h : y ≤ x) (hd : decode cc pc = .ok (.isub, 1)) (kk : g (pc + 1) ls (vi (nI (x - y)) :: st) I L N kc ks) : g pc ls (vi (nI y) :: vi (nI x) :: st) I L N kc ks := G_isub pc hC hd (by rw [pk_sub h]; exact kk)
theorem bI_0 {c : Prop} [Decidable c] : bI c = 0 ↔ ¬ c := by unfold bI; by_cases h : c <;> simp [h]
theorem G_if_eq_b (pc tgt : Nat) (hC : Cx l D B own cc nL mn R g) {c : Prop} [Decidable c] {off : Int} (hd : decode cc pc = .ok (.ifCond .eq off, 3)) (ht : (pc : Int) + off = (tgt : Int)) (kt : ¬ c → g tgt ls st I L N kc ks) (kf : c → g (pc + 3) ls st I L N kc ks) : g pc ls (vi (bI c) :: st) I L N kc ks := G_if_eq pc tgt hC hd ht (fun h => kt (bI_0.mp h)) (fun h => kf (by simpa [bI_0] using h))
theorem G_if_ne_b (pc tgt : Nat) (hC : Cx l D B own cc nL mn R g) {c : Prop} [Decidable c] {off : Int} (hd : decode cc pc = .ok (.ifCond .ne off, 3)) (ht : (pc : Int) + off = (tgt : Int)) (kt : c → g tgt ls st I L N kc ks) (kf : ¬ c → g (pc + 3) ls st I L N kc ks) : g pc ls (vi (bI c) :: st) I L N kc ks := G_if_ne pc tgt hC hd ht (fun h => kt (by simpa [bI_0] using h)) (fun h => kf (by simpa [bI_0] using h))
-- calls of one answer
variable {M : MD} {as : List MV} {idx n : Nat}
theorem G_callV1 (pc : Nat) (hC : Cx l D B own cc nL mn R g) {b ci nb : Nat} {q : vw_C} {v : MV} {I1 : MI} {L1 : ML} (hM : Cq l D B M (vr (some b) :: as) I L N (some v) I1 L1) (hm : MokV M n) (hlink : Cond.methodLink own idx M.y ∈ lw_gd) (hb0 : N.2.1 b = (ci, nb)) (hq : vwCl[ci]? = some q) (hqy : q.1 = M.y.cls) (hn : as.length = n) (hstk : st0 = as.reverse ++ vr (some b) :: st) (hcat : (st.map mcat).sum ≤ 8)
    (hR : M.fr + 1 ≤ R.frames ∧ 8 + (M.nL + 11) + M.lo ≤ R.locals) (hf : kc ≤ R.cells ∧ ks ≤ R.slots) (hd : decode cc pc = .ok (.invokevirtual idx, 3)) (kk : g (pc + 3) ls (v :: st) I1 L1 N kc ks) : g pc ls st0 I L N kc ks :=
  G_callV pc hC hM hm hlink hb0 hq hqy hn hstk hcat hR hf hd (fun v' I' L' N' h => by obtain ⟨rfl, rfl, rfl, rfl⟩ := h; exact kk)
theorem G_callV0 (pc : Nat) (hC : Cx l D B own cc nL mn R g) {b ci nb : Nat} {q : vw_C} {I1 : MI} {L1 : ML} (hM : Cq l D B M (vr (some b) :: as) I L N none I1 L1) (hm : MokV M n) (hlink : Cond.methodLink own idx M.y ∈ lw_gd) (hb0 : N.2.1 b = (ci, nb)) (hq : vwCl[ci]? = some q) (hqy : q.1 = M.y.cls) (hn : as.length = n) (hstk : st0 = as.reverse ++ vr (some b) :: st) (hcat : (st.map mcat).sum ≤ 8)
    (hR : M.fr + 1 ≤ R.frames ∧ 8 + (M.nL + 11) + M.lo ≤ R.locals) (hf : kc ≤ R.cells ∧ ks ≤ R.slots) (hd : decode cc pc = .ok (.invokevirtual idx, 3)) (kk : g (pc + 3) ls st I1 L1 N kc ks) : g pc ls st0 I L N kc ks :=
  G_callV pc hC hM hm hlink hb0 hq hqy hn hstk hcat hR hf hd (fun v' I' L' N' h => by obtain ⟨rfl, rfl, rfl, rfl⟩ := h; exact kk)
theorem G_callS1 (pc : Nat) (hC : Cx l D B own cc nL mn R g) {v : MV} {I1 : MI} {L1 : ML} (hM : Cq l D B M as I L N (some v) I1 L1) (hm : MokS M n) (hlink : Cond.methodLink own idx M.y ∈ lw_gd) (hown : M.y.cls = own) (hn : as.length = n) (hstk : st0 = as.reverse ++ st) (hcat : (st.map mcat).sum ≤ 8)
    (hR : M.fr + 1 ≤ R.frames ∧ 8 + (M.nL + 11) + M.lo ≤ R.locals) (hf : kc ≤ R.cells ∧ ks ≤ R.slots) (hd : decode cc pc = .ok (.invokestatic idx, 3)) (kk : g (pc + 3) ls (v :: st) I1 L1 N kc ks) : g pc ls st0 I L N kc ks :=
  G_callS pc hC hM hm hlink hown hn hstk hcat hR hf hd (fun v' I' L' N' h => by obtain ⟨rfl, rfl, rfl, rfl⟩ := h; exact kk)
end NUM
section REF
variable {l : Launch} {D : va_G} {B : Nat} {own : String} {cc : ByteArray} {nL : Nat} {mn : String} {R : Room} {g : GT} {ls ls' : List (Option MV)} {st st0 : List MV} {r G : MI} {rl GL : ML} {N : NT} {kc ks b : Nat} {I : MI} {L : ML}
theorem M_getI (pc : Nat) (hC : Cx l D B own cc nL mn R g) (hF : FixR b N) {idx j : Nat} (hf : FL own idx 11 j) (ht : fty 11 j = 0) (hd : decode cc pc = .ok (.getfield idx, 3)) (kk : g (pc + 3) ls (vi (r 0 j) :: st) (pt b 26 r G) L N kc ks) : g pc ls (vr (some (b + 0)) :: st) (pt b 26 r G) L N kc ks :=
  G_getI pc hC hf (hF.sh (o := 0) rfl (by decide)).1 ht hd (by rw [pt_row (by decide)]; exact kk)
theorem M_getL (pc : Nat) (hC : Cx l D B own cc nL mn R g) (hF : FixR b N) {idx j : Nat} (hf : FL own idx 11 j) (ht : fty 11 j = 1) (hd : decode cc pc = .ok (.getfield idx, 3)) (kk : g (pc + 3) ls (vl (rl 0 j) :: st) I (pt b 26 rl GL) N kc ks) : g pc ls (vr (some (b + 0)) :: st) I (pt b 26 rl GL) N kc ks :=
  G_getL pc hC hf (hF.sh (o := 0) rfl (by decide)).1 ht hd (by rw [pt_row (by decide)]; exact kk)
theorem M_getR (pc : Nat) (hC : Cx l D B own cc nL mn R g) (hF : FixR b N) {idx j o : Nat} (hf : FL own idx 11 j) (ho : rfR j = some o) (ht : fty 11 j = 2) (hd : decode cc pc = .ok (.getfield idx, 3)) (kk : g (pc + 3) ls (vr (some (b + o)) :: st) I L N kc ks) : g pc ls (vr (some (b + 0)) :: st) I L N kc ks :=
  G_getR pc hC hf (hF.sh (o := 0) rfl (by decide)).1 (hF.2 j o ho) ht hd kk
theorem M_putI (pc : Nat) (hC : Cx l D B own cc nL mn R g) (hF : FixR b N) {idx j : Nat} {x : Int32} (hf : FP own mn idx 11 j .int) (ht : fty 11 j = 0) (hd : decode cc pc = .ok (.putfield idx, 3)) (kk : g (pc + 3) ls st (pt b 26 (upd2 r 0 j x) G) L N kc ks) : g pc ls (vi x :: vr (some (b + 0)) :: st) (pt b 26 r G) L N kc ks :=
  G_putI pc hC hf (hF.sh (o := 0) rfl (by decide)).1 ht rfl rfl hd (by rw [pt_upd (by decide)]; exact kk)
theorem M_putL (pc : Nat) (hC : Cx l D B own cc nL mn R g) (hF : FixR b N) {idx j : Nat} {x : Int64} (hf : FP own mn idx 11 j .long) (ht : fty 11 j = 1) (hd : decode cc pc = .ok (.putfield idx, 3)) (kk : g (pc + 3) ls st I (pt b 26 (upd2 rl 0 j x) GL) N kc ks) : g pc ls (vl x :: vr (some (b + 0)) :: st) I (pt b 26 rl GL) N kc ks :=
  G_putL pc hC hf (hF.sh (o := 0) rfl (by decide)).1 ht hd (by rw [pt_upd (by decide)]; exact kk)
theorem M_iald (pc : Nat) (hC : Cx l D B own cc nL mn R g) (hF : FixR b N) {o n j : Nat} {i : Int32} (hs : shR o = (12, n)) (hn : n < 2 ^ 31) (hi : i = nI j) (hj : j < n) (hd : decode cc pc = .ok (.iaload, 1)) (kk : g (pc + 1) ls (vi (r o j) :: st) (pt b 26 r G) L N kc ks) : g pc ls (vi i :: vr (some (b + o)) :: st) (pt b 26 r G) L N kc ks :=
  G_iald pc hC (hF.sh hs (by decide)).1 (Or.inl rfl) hi hj hn hd (by rw [pt_row (hF.sh hs (by decide)).2]; exact kk)
theorem M_lald (pc : Nat) (hC : Cx l D B own cc nL mn R g) (hF : FixR b N) {o n j : Nat} {i : Int32} (hs : shR o = (13, n)) (hn : n < 2 ^ 31) (hi : i = nI j) (hj : j < n) (hd : decode cc pc = .ok (.laload, 1)) (kk : g (pc + 1) ls (vl (rl o j) :: st) I (pt b 26 rl GL) N kc ks) : g pc ls (vi i :: vr (some (b + o)) :: st) I (pt b 26 rl GL) N kc ks :=
  G_lald pc hC (hF.sh hs (by decide)).1 hi hj hn hd (by rw [pt_row (hF.sh hs (by decide)).2]; exact kk)
theorem M_iast (pc : Nat) (hC : Cx l D B own cc nL mn R g) (hF : FixR b N) {o n j : Nat} {i x : Int32} (hs : shR o = (12, n)) (hn : n < 2 ^ 31) (hi : i = nI j) (hj : j < n) (hd : decode cc pc = .ok (.iastore, 1)) (kk : g (pc + 1) ls st (pt b 26 (upd2 r o j x) G) L N kc ks) : g pc ls (vi x :: vi i :: vr (some (b + o)) :: st) (pt b 26 r G) L N kc ks :=
  G_iast pc hC (hF.sh hs (by decide)).1 hi hj hn hd (by rw [pt_upd (hF.sh hs (by decide)).2]; exact kk)
theorem M_last (pc : Nat) (hC : Cx l D B own cc nL mn R g) (hF : FixR b N) {o n j : Nat} {i : Int32} {x : Int64} (hs : shR o = (13, n)) (hn : n < 2 ^ 31) (hi : i = nI j) (hj : j < n) (hd : decode cc pc = .ok (.lastore, 1)) (kk : g (pc + 1) ls st I (pt b 26 (upd2 rl o j x) GL) N kc ks) : g pc ls (vl x :: vi i :: vr (some (b + o)) :: st) I (pt b 26 rl GL) N kc ks :=
  G_last pc hC (hF.sh hs (by decide)).1 hi hj hn hd (by rw [pt_upd (hF.sh hs (by decide)).2]; exact kk)
end REF

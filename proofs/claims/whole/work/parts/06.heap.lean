/-! ===== the heap's rules of the slim walk ===== -/
theorem cls_in0 : ∀ w ∈ u_ws RX0 TX0 19, w ∈ lw_gd := by decide +kernel
theorem cls_in1 : ∀ w ∈ u_ws RX1 TX1 2, w ∈ lw_gd := by decide +kernel
theorem cls_in2 : ∀ w ∈ u_ws RX2 TX2 3, w ∈ lw_gd := by decide +kernel
theorem cls_in3 : ∀ w ∈ u_ws RX3 TX3 2, w ∈ lw_gd := by decide +kernel
theorem cls_in4 : ∀ w ∈ u_ws RX4 TX4 8, w ∈ lw_gd := by decide +kernel
theorem cls_in5 : ∀ w ∈ u_ws RX5 TX5 5, w ∈ lw_gd := by decide +kernel
theorem cls_in6 : ∀ w ∈ u_ws RX6 TX6 4, w ∈ lw_gd := by decide +kernel
theorem cls_in7 : ∀ w ∈ u_ws RX7 TX7 7, w ∈ lw_gd := by decide +kernel
theorem cls_in9 : ∀ w ∈ u_ws RX9 TX9 6, w ∈ lw_gd := by decide +kernel
theorem cls_in10 : ∀ w ∈ u_ws RX10 TX10 13, w ∈ lw_gd := by decide +kernel
theorem cls_in11 : ∀ w ∈ u_ws RX11 TX11 6, w ∈ lw_gd := by decide +kernel
theorem cls_in12 : ∀ w ∈ u_ws RX12 TX12 36, w ∈ lw_gd := by decide +kernel
/-- of each kind of object: its fields' words are among the tables, its fields' types and names; what a new one holds -/
theorem cls_ok : ∀ (ci : Nat) (q : vw_C), vwCl[ci]? = some q → ci < 12 ∧ (∀ w ∈ u_ws q.1 q.2.1 q.2.2, w ∈ lw_gd) ∧ ∃ ty : Nat → FieldType, (∀ k, k < q.2.2 → parseFieldDescriptor (q.2.1 k).2.2.1 = some (ty k)) ∧ (∀ a, a < q.2.2 → ∀ b, b < q.2.2 → a ≠ b → (q.2.1 a).2.1 ≠ (q.2.1 b).2.1) ∧ ∀ k, k < q.2.2 → defaultValue (ty k) = fval ci (fun _ => 0) (fun _ => 0) (fun _ => none) k := by
  intro ci q h
  match ci, h with
  | 0, h => cases h; exact ⟨by decide, cls_in0, tyX0, tyX0_ok, nmX0, by decide +kernel⟩
  | 1, h => cases h; exact ⟨by decide, cls_in1, tyX1, tyX1_ok, nmX1, by decide +kernel⟩
  | 2, h => cases h; exact ⟨by decide, cls_in2, tyX2, tyX2_ok, nmX2, by decide +kernel⟩
  | 3, h => cases h; exact ⟨by decide, cls_in3, tyX3, tyX3_ok, nmX3, by decide +kernel⟩
  | 4, h => cases h; exact ⟨by decide, cls_in4, tyX4, tyX4_ok, nmX4, by decide +kernel⟩
  | 5, h => cases h; exact ⟨by decide, cls_in5, tyX5, tyX5_ok, nmX5, by decide +kernel⟩
  | 6, h => cases h; exact ⟨by decide, cls_in6, tyX6, tyX6_ok, nmX6, by decide +kernel⟩
  | 7, h => cases h; exact ⟨by decide, cls_in7, tyX7, tyX7_ok, nmX7, by decide +kernel⟩
  | 8, h => cases h; exact ⟨by decide, cls_in9, tyX9, tyX9_ok, nmX9, by decide +kernel⟩
  | 9, h => cases h; exact ⟨by decide, cls_in10, tyX10, tyX10_ok, nmX10, by decide +kernel⟩
  | 10, h => cases h; exact ⟨by decide, cls_in11, tyX11, tyX11_ok, nmX11, by decide +kernel⟩
  | 11, h => cases h; exact ⟨by decide, cls_in12, tyX12, tyX12_ok, nmX12, by decide +kernel⟩
  | k + 12, h => simp at h
/-- the constant pool's place idx of own names field j of the kind ci -/
def FL (own : String) (idx ci j : Nat) : Prop := ∃ (ref : String) (q : vw_C), vwCl[ci]? = some q ∧ j < q.2.2 ∧ Cond.fieldLink own idx ref (q.2.1 j).2.1 (q.2.1 j).2.2.1 ∈ lw_gd ∧ (ref = (q.2.1 j).1 ∨ Cond.sameField ref (q.2.1 j).1 (q.2.1 j).2.1 (q.2.1 j).2.2.1 ∈ lw_gd)
/-- and it may be written there, with type ty: in a constructor (fin), or anywhere -/
def FP (own : String) (mn : String) (idx ci j : Nat) (ty : FieldType) : Prop := ∃ (ref : String) (q : vw_C), vwCl[ci]? = some q ∧ j < q.2.2 ∧ Cond.fieldLink own idx ref (q.2.1 j).2.1 (q.2.1 j).2.2.1 ∈ lw_gd ∧ ref = (q.2.1 j).1 ∧ parseFieldDescriptor (q.2.1 j).2.2.1 = some ty ∧ ((q.2.1 j).2.2.2 = false ∨ ((q.2.1 j).2.2.2 = true ∧ mn = "<init>" ∧ (q.2.1 j).1 = own))
theorem CellAt.kept {D : va_G} {s : State} {H H1 : Heap} {a : Nat} {kn : Nat × Nat} {f : Nat → Int32} {g : Nat → Int64} {r : Nat → Option Nat} (h : CellAt D s H a kn f g r) (e : H1[a]? = H[a]?) : CellAt D s H1 a kn f g r := by
  obtain ⟨h1, h2, h3, h4⟩ := h
  refine ⟨fun q => ?_, fun q => ?_, fun q => ?_, fun q q2 => ?_⟩
  · obtain ⟨x, x1, x2⟩ := h1 q
    exact ⟨x, x1, x2.kept e⟩
  · obtain ⟨x, x1, x2⟩ := h2 q
    exact ⟨x, by rw [e]; exact x1, x2⟩
  · obtain ⟨x, x1, x2⟩ := h3 q
    exact ⟨x, by rw [e]; exact x1, x2⟩
  · obtain ⟨x, x1, x2⟩ := h4 q q2
    exact ⟨x, by rw [e]; exact x1, x2⟩
theorem CellAt.lt {D : va_G} {s : State} {H : Heap} {a : Nat} {kn : Nat × Nat} {f : Nat → Int32} {g : Nat → Int64} {r : Nat → Option Nat} (h : CellAt D s H a kn f g r) (hk : kn.1 < 21) : a < H.size := by
  obtain ⟨h1, h2, h3, h4⟩ := h
  by_cases q1 : kn.1 < 12
  · obtain ⟨x, x1, c, x2, -⟩ := h1 q1
    exact (Array.getElem?_eq_some_iff.mp x2).1
  · by_cases q2 : kn.1 = 12 ∨ kn.1 = 20
    · obtain ⟨x, x1, -⟩ := h2 q2
      exact (Array.getElem?_eq_some_iff.mp x1).1
    · by_cases q3 : kn.1 = 13
      · obtain ⟨x, x1, -⟩ := h3 q3
        exact (Array.getElem?_eq_some_iff.mp x1).1
      · obtain ⟨x, x1, -⟩ := h4 (by omega) (by omega)
        exact (Array.getElem?_eq_some_iff.mp x1).1
/-- one cell of ours is written -/
theorem Hp.put {D : va_G} {B : Nat} {s : State} {H H1 : Heap} {I I1 : MI} {L L1 : ML} {N N1 : NT} {a : Nat} (h : Hp D B s H I L N) (hk : (N.2.1 a).1 < 20) (hz : H1.size = H.size) (hq : ∀ q, q ≠ a → H1[q]? = H[q]?) (hN : N1.2 = N.2)
    (hr : ∀ q, q ≠ a → I1 q = I q ∧ L1 q = L q ∧ N1.1 q = N.1 q) (hc : CellAt D s H1 a (N.2.1 a) (I1 a) (L1 a) (N1.1 a)) : Hp D B s H1 I1 L1 N1 := by
  obtain ⟨h1, h2, h3, h4, h5⟩ := h
  have hlt : a < H.size := (h3 a).lt (by omega)
  refine ⟨by rw [hN, hz]; exact h1, by rw [hN]; exact h2, fun q => ?_, fun q hq2 => ?_, fun q => by rw [hN]; exact h5 q⟩
  · rw [hN]
    by_cases e : q = a
    · subst e; exact hc
    · obtain ⟨r1, r2, r3⟩ := hr q e
      rw [r1, r2, r3]
      exact (h3 q).kept (hq q e)
  · rw [hN] at hq2 ⊢
    have e : q ≠ a := by omega
    obtain ⟨r1, r2, r3⟩ := hr q e
    rw [r1, r2, r3]
    exact h4 q hq2
theorem upd2_ne {α : Type} {f : Nat → Nat → α} {a k q : Nat} {v : α} (h : q ≠ a) : upd2 f a k v q = f q := up_n _ _ h
theorem upd2_row {α : Type} {f : Nat → Nat → α} {a k : Nat} {v : α} : upd2 f a k v a = up (f a) k v := up_s _ _ _
section HEAP
variable {l : Launch} {D : va_G} {B : Nat} {own : String} {cc : ByteArray} {nL : Nat} {mn : String} {R : Room} {g : GT} {ls ls' : List (Option MV)} {st : List MV} {I : MI} {L : ML} {N : NT} {kc ks : Nat}
theorem get_core {p : Program} {e : Env} {s : State} {m : MethodId} {args : Array Value} {below : List Frame} {meth : Method} {c : Code} {Q : State → Prop} {H : Heap} {locs : List Loc} {lr : Array Slot} {rest : List Value}
    (hx : p.tables.exec = Jvm.exec) (hb : c.code = cc) (ho : s.vm.findClass own = some m.cls) (hts : ∀ w ∈ lw_gd, w.before args s = true) (hK : va_K D vwCl [] s) (hH : Hp D B s H I L N) {idx ci j a n pc : Nat} (hf : FL own idx ci j) (hs : N.2.1 a = (ci, n)) (hd : decode cc pc = .ok (.getfield idx, 3))
    (kk : W p l e R s m args below meth c H locs kc ks Q (F0 m (pc + 3) lr (fval ci (I a) (L a) (N.1 a) j :: rest))) : W p l e R s m args below meth c H locs kc ks Q (F0 m pc lr (.ref a :: rest)) := by
  obtain ⟨ref, q, hc, hj, hlink, hsame⟩ := hf
  obtain ⟨hci, hin, -⟩ := cls_ok ci q hc
  have hcell := hH.2.2.1 a
  rw [hs] at hcell
  obtain ⟨q', hq', cell, q1, q2, q3, q4⟩ := hcell.1 hci
  cases hc.symm.trans hq'
  obtain ⟨hSl, hfc, kC, hkC, hkind⟩ := hK.1 ci _ hc
  obtain ⟨cf, kf, fi, f, hi, hsl⟩ := hSl j hj
  have hfnd : s.fieldFound? ref (q.2.1 j).2.1 (q.2.1 j).2.2.1 = some (cf, kf, fi, f) := by
    rcases hsame with h | h
    · rw [h]; exact hi
    · exact u_same (hts _ h) _ hi
  refine W.getf hx hb ho (hts _ hlink) hfnd (u_facts hfc hkC (u_lays hts hin hj) hi).1 q1 (by rw [q3]; exact fun h => by cases h) (v := fval ci (I a) (L a) (N.1 a) j) ?_ rfl rfl hd kk
  rw [hsl, q4 j hj]
theorem G_getI (pc : Nat) (hC : Cx l D B own cc nL mn R g) {idx ci j a n : Nat} (hf : FL own idx ci j) (hs : N.2.1 a = (ci, n)) (ht : fty ci j = 0) (hd : decode cc pc = .ok (.getfield idx, 3)) (kk : g (pc + 3) ls (vi (I a j) :: st) I L N kc ks) : g pc ls (vr (some a) :: st) I L N kc ks := by
  obtain ⟨p, e, s, m, args, below, meth, c, Q, ⟨hx, hb, hml, ho, hts, hK, hnm⟩, rfl⟩ := hC
  intro lr H locs hl hH hS
  refine get_core hx hb ho hts hK.1 hH hf hs hd ?_
  rw [show fval ci (I a) (L a) (N.1 a) j = .int (I a j) by simp [fval, ht]]
  exact kk lr H locs hl hH hS
theorem G_getL (pc : Nat) (hC : Cx l D B own cc nL mn R g) {idx ci j a n : Nat} (hf : FL own idx ci j) (hs : N.2.1 a = (ci, n)) (ht : fty ci j = 1) (hd : decode cc pc = .ok (.getfield idx, 3)) (kk : g (pc + 3) ls (vl (L a j) :: st) I L N kc ks) : g pc ls (vr (some a) :: st) I L N kc ks := by
  obtain ⟨p, e, s, m, args, below, meth, c, Q, ⟨hx, hb, hml, ho, hts, hK, hnm⟩, rfl⟩ := hC
  intro lr H locs hl hH hS
  refine get_core hx hb ho hts hK.1 hH hf hs hd ?_
  rw [show fval ci (I a) (L a) (N.1 a) j = .long (L a j) by simp [fval, ht]]
  exact kk lr H locs hl hH hS
theorem G_getR (pc : Nat) (hC : Cx l D B own cc nL mn R g) {idx ci j a n : Nat} {r : Option Nat} (hf : FL own idx ci j) (hs : N.2.1 a = (ci, n)) (hr : N.1 a j = r) (ht : fty ci j = 2) (hd : decode cc pc = .ok (.getfield idx, 3)) (kk : g (pc + 3) ls (vr r :: st) I L N kc ks) : g pc ls (vr (some a) :: st) I L N kc ks := by
  obtain ⟨p, e, s, m, args, below, meth, c, Q, ⟨hx, hb, hml, ho, hts, hK, hnm⟩, rfl⟩ := hC
  intro lr H locs hl hH hS
  refine get_core hx hb ho hts hK.1 hH hf hs hd ?_
  rw [show fval ci (I a) (L a) (N.1 a) j = va_rf r by simp [fval, ht, hr]]
  exact kk lr H locs hl hH hS
theorem put_core {p : Program} {e : Env} {s : State} {m : MethodId} {args : Array Value} {below : List Frame} {meth : Method} {c : Code} {Q : State → Prop} {H : Heap} {locs : List Loc} {lr : Array Slot} {rest : List Value}
    (hx : p.tables.exec = Jvm.exec) (hb : c.code = cc) (ho : s.vm.findClass own = some m.cls) (hts : ∀ w ∈ lw_gd, w.before args s = true) (hK : va_K D vwCl [] s) (hnm : meth.name = mn) (hH : Hp D B s H I L N) (hS : va_S (fun q => B ≤ q) s.heap H locs) {idx ci j a n pc : Nat} {ty : FieldType} {v : Value} (hf : FP own mn idx ci j ty) (hs : N.2.1 a = (ci, n)) (hn : narrow ty v = v) (hfit : fits ty v = true)
    {I1 : MI} {L1 : ML} {R1 : MR} (hv : fval ci (I1 a) (L1 a) (R1 a) j = v) (hv2 : ∀ k, k ≠ j → fval ci (I1 a) (L1 a) (R1 a) k = fval ci (I a) (L a) (N.1 a) k) (hr : ∀ q, q ≠ a → I1 q = I q ∧ L1 q = L q ∧ R1 q = N.1 q)
    (hd : decode cc pc = .ok (.putfield idx, 3)) (kk : ∀ (H1 : Heap) (locs1 : List Loc), Hp D B s H1 I1 L1 (R1, N.2) → va_S (fun q => B ≤ q) s.heap H1 locs1 → W p l e R s m args below meth c H1 locs1 kc ks Q (F0 m (pc + 3) lr rest)) : W p l e R s m args below meth c H locs kc ks Q (F0 m pc lr (v :: .ref a :: rest)) := by
  obtain ⟨ref, q, hc, hj, hlink, hsame, hty, hfin⟩ := hf
  obtain ⟨hci, hin, tys, htys, hnms, -⟩ := cls_ok ci q hc
  have hcell := hH.2.2.1 a
  have hlow : (N.2.1 a).1 < 20 := by rw [hs]; show ci < 20; omega
  have hBa : B ≤ a := hH.2.2.2.2 a hlow
  rw [hs] at hcell
  obtain ⟨q', hq', cell, q1, q2, q3, q4⟩ := hcell.1 hci
  cases hc.symm.trans hq'
  have hap := va_apart (own := own) hts hin tys htys hnms hK hc
  obtain ⟨hSl, hfc, kC, hkC, hkind⟩ := hK.1 ci _ hc
  obtain ⟨cf, kf, fi, f, hi, hsl⟩ := hSl j hj
  have hfnd : s.fieldFound? ref (q.2.1 j).2.1 (q.2.1 j).2.2.1 = some (cf, kf, fi, f) := by rw [hsame]; exact hi
  have hlay := hts _ (hin _ (u_in_lay hj))
  have hst := (u_facts hfc hkC (u_lays hts hin hj) hi).1
  have fin : ∀ (H' : Heap) (lo : Loc), lo.base = a → H'[a]? = some (cell.setSlot f.slot v) → H'.size = H.size → (∀ q, q ≠ a → H'[q]? = H[q]?) → Hp D B s H' I1 L1 (R1, N.2) ∧ va_S (fun q => B ≤ q) s.heap H' (locs ++ [lo]) := by
    intro H' lo hlo e1 e2 e3
    refine ⟨hH.put hlow e2 e3 rfl hr ?_, ?_⟩
    · rw [hs]
      refine ⟨fun _ => ⟨q, hc, ?_⟩, fun h => absurd h (by show ¬ (ci = 12 ∨ ci = 20); omega), fun h => absurd h (by show ¬ ci = 13; omega), fun h => absurd h (by show ¬ 14 ≤ ci; omega)⟩
      rw [hsl] at e1
      refine t_OB.to (V := updV (fval ci (I a) (L a) (N.1 a)) j v) ⟨_, e1, q2, q3, t_set q4 hap hj v⟩ (fun k _ => ?_)
      by_cases hkj : k = j
      · subst hkj; simp [updV]; exact hv.symm
      · simp [updV, hkj]; exact (hv2 k hkj).symm
    · have := hS.put (k := lo.slot) e2 e3 hBa
      obtain ⟨lb, lsl⟩ := lo
      simp only at hlo
      subst hlo
      exact this
  rcases hfin with hfin | ⟨hfin, hini, hdecl⟩
  · unfold u_lay at hlay
    rw [if_neg (by rw [hfin]; decide)] at hlay
    have h6 := u_store hfc hkC hkind hlay hi hty hn hfit
    refine W.putK hx hb (f := f) ⟨ho, hts _ hlink, ⟨_, _, _, hfnd⟩, hst⟩ (by rw [q2]; exact h6) q1 q3 (by rw [hsl]; exact k2_hasslot (q4 j hj)) rfl rfl hd fun H' e1 e2 e3 => ?_
    obtain ⟨z1, z2⟩ := fin H' ⟨a, f.slot⟩ rfl e1 e2 e3
    exact kk H' _ z1 z2
  · unfold u_lay at hlay
    rw [if_pos hfin] at hlay
    have hcf : m.cls = cf := by
      obtain ⟨_, _, c', _, _, _, -, -, hf', -, -, -, hown2, -⟩ := Cond.laysFinal_spec hlay
      have e1 : c' = cf := by have := hi.symm.trans hf'; simp at this; exact this.1.symm
      rw [hdecl] at hown2
      rw [← e1]; exact Option.some.inj (ho.symm.trans hown2)
    have h6 := u_fits hfc hkC hkind (Or.inr hlay) hi hty hn hfit
    refine W.putFinK hx hb ho (hts _ hlink) hfnd hst hcf (hnm.trans hini) (by rw [q2]; exact h6) q1 q3 (by rw [hsl]; exact k2_hasslot (q4 j hj)) rfl rfl hd fun H' e1 e2 e3 => ?_
    obtain ⟨z1, z2⟩ := fin H' ⟨a, f.slot⟩ rfl e1 e2 e3
    exact kk H' _ z1 z2
theorem G_putI (pc : Nat) (hC : Cx l D B own cc nL mn R g) {idx ci j a n : Nat} {ty : FieldType} {x : Int32} (hf : FP own mn idx ci j ty) (hs : N.2.1 a = (ci, n)) (ht : fty ci j = 0) (hn : narrow ty (.int x) = .int x) (hfit : fits ty (.int x) = true) (hd : decode cc pc = .ok (.putfield idx, 3)) (kk : g (pc + 3) ls st (upd2 I a j x) L N kc ks) : g pc ls (vi x :: vr (some a) :: st) I L N kc ks := by
  obtain ⟨p, e, s, m, args, below, meth, c, Q, ⟨hx, hb, hml, ho, hts, hK, hnm⟩, rfl⟩ := hC
  intro lr H locs hl hH hS
  refine put_core (I1 := upd2 I a j x) (L1 := L) (R1 := N.1) (v := .int x) hx hb ho hts hK.1 hnm hH hS hf hs hn hfit ?_ ?_ (fun q h => ⟨upd2_ne h, rfl, rfl⟩) hd (fun H1 locs1 h1 h2 => kk lr H1 locs1 hl h1 h2)
  · simp [fval, ht, upd2_row, up_s]
  · intro k hk; simp [fval, upd2_row, up_n _ _ hk]
theorem G_putL (pc : Nat) (hC : Cx l D B own cc nL mn R g) {idx ci j a n : Nat} {x : Int64} (hf : FP own mn idx ci j .long) (hs : N.2.1 a = (ci, n)) (ht : fty ci j = 1) (hd : decode cc pc = .ok (.putfield idx, 3)) (kk : g (pc + 3) ls st I (upd2 L a j x) N kc ks) : g pc ls (vl x :: vr (some a) :: st) I L N kc ks := by
  obtain ⟨p, e, s, m, args, below, meth, c, Q, ⟨hx, hb, hml, ho, hts, hK, hnm⟩, rfl⟩ := hC
  intro lr H locs hl hH hS
  refine put_core (I1 := I) (L1 := upd2 L a j x) (R1 := N.1) (v := .long x) hx hb ho hts hK.1 hnm hH hS hf hs rfl rfl ?_ ?_ (fun q h => ⟨rfl, upd2_ne h, rfl⟩) hd (fun H1 locs1 h1 h2 => kk lr H1 locs1 hl h1 h2)
  · simp [fval, ht, upd2_row, up_s]
  · intro k hk; simp [fval, upd2_row, up_n _ _ hk]
theorem G_putR (pc : Nat) (hC : Cx l D B own cc nL mn R g) {idx ci j a n : Nat} {ty : FieldType} {r : Option Nat} (hf : FP own mn idx ci j ty) (hs : N.2.1 a = (ci, n)) (ht : fty ci j = 2) (hty : ty.isReference = true) (hd : decode cc pc = .ok (.putfield idx, 3)) (kk : g (pc + 3) ls st I L (upd2 N.1 a j r, N.2) kc ks) : g pc ls (vr r :: vr (some a) :: st) I L N kc ks := by
  obtain ⟨p, e, s, m, args, below, meth, c, Q, ⟨hx, hb, hml, ho, hts, hK, hnm⟩, rfl⟩ := hC
  intro lr H locs hl hH hS
  refine put_core (I1 := I) (L1 := L) (R1 := upd2 N.1 a j r) (v := va_rf r) hx hb ho hts hK.1 hnm hH hS hf hs (by cases r <;> cases ty <;> first | rfl | cases hty) (by cases r <;> cases ty <;> first | rfl | cases hty) ?_ ?_ (fun q h => ⟨rfl, rfl, upd2_ne h⟩) hd (fun H1 locs1 h1 h2 => kk lr H1 locs1 hl h1 h2)
  · simp [fval, ht, upd2_row, up_s]
  · intro k hk; simp [fval, upd2_row, up_n _ _ hk]
end HEAP

/-! ===== what is made; returns; calls ===== -/
theorem CellAt.moved {D : va_G} {u U : State} {H : Heap} {a : Nat} {kn : Nat × Nat} {f : Nat → Int32} {g : Nat → Int64} {r : Nat → Option Nat} (hvm : u.vm.Alike U.vm) (h : CellAt D u H a kn f g r) : CellAt D U H a kn f g r := by
  obtain ⟨h1, h2, h3, h4⟩ := h
  refine ⟨h1, fun q => ?_, fun q => ?_, fun q q2 => ?_⟩
  · obtain ⟨x, x1, x2, x3⟩ := h2 q
    exact ⟨x, x1, State.isArrayOf_alike hvm x2, x3⟩
  · obtain ⟨x, x1, x2, x3⟩ := h3 q
    exact ⟨x, x1, State.isArrayOf_alike hvm x2, x3⟩
  · obtain ⟨x, x1, x2, x3, x4, x5⟩ := h4 q q2
    exact ⟨x, x1, State.isArrayOf_alike hvm x2, x3, x4.moved hvm, x5⟩
theorem Hp.moved {D : va_G} {B : Nat} {u U : State} {H H1 : Heap} {I : MI} {L : ML} {N : NT} (h : Hp D B u H I L N) (hvm : u.vm.Alike U.vm) (hh : H1 = H) : Hp D B U H1 I L N := by
  subst hh
  obtain ⟨h1, h2, h3, h4, h5⟩ := h
  exact ⟨h1, h2, fun a => (h3 a).moved hvm, h4, h5⟩
theorem PcOf.blind {D : va_G} {B : Nat} {as : List MV} {I : MI} {L : ML} {N : NT} : FrameBlind (PcOf D B as I L N) := by
  intro a U g mk h
  obtain ⟨h1, h2, h3⟩ := h
  exact ⟨h1, h2.calling, h3.moved (Vm.Alike.refl U.vm) rfl⟩
/-- a cell more -/
theorem Hp.grow {D : va_G} {B : Nat} {s : State} {H H1 : Heap} {I : MI} {L : ML} {N : NT} {kn : Nat × Nat} (h : Hp D B s H I L N) (hz : H1.size = H.size + 1) (hq : ∀ q : Nat, q < H.size → H1[q]? = H[q]?) (hc : CellAt D s H1 H.size kn (fun _ => 0) (fun _ => 0) (fun _ => none)) : Hp D B s H1 I L (N.1, (up N.2.1 N.2.2 kn, N.2.2 + 1)) := by
  obtain ⟨h1, h2, h3, h4, h5⟩ := h
  obtain ⟨z1, z2⟩ := h4 N.2.2 (Nat.le_refl _)
  refine ⟨by rw [hz, h1], Nat.le_succ_of_le h2, fun a => ?_, fun a ha => ?_, fun a => ?_⟩
  · show CellAt D s H1 a (up N.2.1 N.2.2 kn a) (I a) (L a) (N.1 a)
    by_cases e : a = N.2.2
    · subst e
      rw [up_s, show I N.2.2 = fun _ => 0 from funext fun k => (z2 k).1, show L N.2.2 = fun _ => 0 from funext fun k => (z2 k).2.1, show N.1 N.2.2 = fun _ => none from funext fun k => (z2 k).2.2, ← h1]
      exact hc
    · rw [up_n _ _ e]
      by_cases hl : a < H.size
      · exact (h3 a).kept (hq a hl)
      · have := (h4 a (by omega)).1
        refine ⟨fun h => absurd h (by omega), fun h => absurd h (by omega), fun h => absurd h (by omega), fun _ h => absurd h (by omega)⟩
  · have ha' : N.2.2 + 1 ≤ a := ha
    show (up N.2.1 N.2.2 kn a).1 = 21 ∧ _
    rw [up_n _ _ (by omega)]
    exact h4 a (by omega)
  · show (up N.2.1 N.2.2 kn a).1 < 20 → B ≤ a
    by_cases e : a = N.2.2
    · intro _; omega
    · rw [up_n _ _ e]; exact h5 a
theorem va_S.grow {A : Nat → Prop} {H0 H H1 : Heap} {locs : List Loc} (h : va_S A H0 H locs) (hz : H1.size = H.size + 1) (hq : ∀ q : Nat, q < H.size → H1[q]? = H[q]?) : va_S A H0 H1 locs :=
  ⟨Nat.le_trans h.1 (by omega), fun x h1 h2 => (hq x (Nat.lt_of_lt_of_le h1 h.1)).trans (h.2.1 x h1 h2), h.2.2⟩
section MADE
variable {l : Launch} {D : va_G} {B : Nat} {own : String} {cc : ByteArray} {nL : Nat} {mn : String} {R : Room} {g : GT} {ls ls' : List (Option MV)} {st st0 : List MV} {I : MI} {L : ML} {N : NT} {kc ks : Nat}
theorem G_newI (pc : Nat) (hC : Cx l D B own cc nL mn R g) {i : Int32} {n : Nat} (hi : i = nI n) (hn : n < 100000) (hw : Cond.arrayClass .int ∈ lw_gd) (hc : kc + 1 ≤ R.cells) (hs : ks + n ≤ R.slots) (hd : decode cc pc = .ok (.newarray .int, 2)) (kk : g (pc + 2) ls (vr (some N.2.2) :: st) I L (N.1, (up N.2.1 N.2.2 (12, n), N.2.2 + 1)) (kc + 1) (ks + n)) : g pc ls (vi i :: st) I L N kc ks := by
  obtain ⟨p, e, s, m, args, below, meth, c, Q, ⟨hx, hb, hml, ho, hts, hK, hnm⟩, rfl⟩ := hC
  intro lr H locs hl hH hS
  subst hi
  refine va_newaK (atype := .int) hx hb (hts _ hw) rfl hd rfl (nI_pos (by omega)) (nI_clamp (by omega)) (by show n * 4 ≤ _; omega) hc hs rfl fun H1 cA e1 z1 o1 hAr hNm => ?_
  have := kk lr H1 locs hl (hH.grow z1 o1 ⟨fun h => absurd h (by simp only; omega), fun _ => ⟨_, e1, hAr _ _, (fun h => by cases h), arrV_size _ _ _, fun j hj => by rw [arrV_read _ _ hj]; rfl⟩, fun h => absurd h (by simp only; omega), fun h => absurd h (by simp only; omega)⟩) (hS.grow z1 o1)
  rw [hH.1]; exact this
theorem G_newL (pc : Nat) (hC : Cx l D B own cc nL mn R g) {i : Int32} {n : Nat} (hi : i = nI n) (hn : n < 100000) (hw : Cond.arrayClass .long ∈ lw_gd) (hc : kc + 1 ≤ R.cells) (hs : ks + n ≤ R.slots) (hd : decode cc pc = .ok (.newarray .long, 2)) (kk : g (pc + 2) ls (vr (some N.2.2) :: st) I L (N.1, (up N.2.1 N.2.2 (13, n), N.2.2 + 1)) (kc + 1) (ks + n)) : g pc ls (vi i :: st) I L N kc ks := by
  obtain ⟨p, e, s, m, args, below, meth, c, Q, ⟨hx, hb, hml, ho, hts, hK, hnm⟩, rfl⟩ := hC
  intro lr H locs hl hH hS
  subst hi
  refine va_newaK (atype := .long) hx hb (hts _ hw) rfl hd rfl (nI_pos (by omega)) (nI_clamp (by omega)) (by show n * 8 ≤ _; omega) hc hs rfl fun H1 cA e1 z1 o1 hAr hNm => ?_
  have := kk lr H1 locs hl (hH.grow z1 o1 ⟨fun h => absurd h (by simp only; omega), fun h => absurd h (by simp only; omega), fun _ => ⟨_, e1, hAr _ _, (fun h => by cases h), arrV_size _ _ _, fun j hj => by rw [arrV_read _ _ hj]; rfl⟩, fun h => absurd h (by simp only; omega)⟩) (hS.grow z1 o1)
  rw [hH.1]; exact this
theorem G_anew (pc : Nat) (hC : Cx l D B own cc nL mn R g) {i : Int32} {n idx : Nat} (kd : Nat) (hk1 : 14 ≤ kd) (hk2 : kd < 20) (hi : i = nI n) (hn : n < 100000) (hw : Cond.classLink own idx (elC kd) ∈ lw_gd) (hao : elC kd ∈ aoL) (hc : kc + 1 ≤ R.cells) (hs : ks + n ≤ R.slots) (hd : decode cc pc = .ok (.anewarray idx, 3)) (kk : g (pc + 3) ls (vr (some N.2.2) :: st) I L (N.1, (up N.2.1 N.2.2 (kd, n), N.2.2 + 1)) (kc + 1) (ks + n)) : g pc ls (vi i :: st) I L N kc ks := by
  obtain ⟨p, e, s, m, args, below, meth, c, Q, ⟨hx, hb, hml, ho, hts, hK, hnm⟩, rfl⟩ := hC
  intro lr H locs hl hH hS
  subst hi
  have hcl : (nI n).toNatClampNeg = n := nI_clamp (by omega)
  refine W.anew hx hb ho (hts _ hw) (va_AO.use (hK.2.2.1 _ hao)) rfl hd rfl (nI_pos (by omega)) (by rw [hcl]; omega) hc (by rw [hcl]; exact hs) fun cA kA comp f1 f2 f3 f4 => ?_
  rw [hcl]
  generalize hH1 : H.push ({ cls := cA, slots := Array.replicate n .null, vm := .none } : Cell) = H1
  have z1 : H1.size = H.size + 1 := by rw [← hH1, Array.size_push]
  have e1 : H1[H.size]? = some (arrV cA n (fun _ => .null)) := by rw [← hH1, Array.getElem?_push_size, ← arrV_new]
  have o1 : ∀ q : Nat, q < H.size → H1[q]? = H[q]? := fun q hq => by rw [← hH1, Array.getElem?_push, if_neg (Nat.ne_of_lt hq)]
  have := kk lr H1 locs hl (hH.grow z1 o1 ⟨fun h => absurd h (by simp only; omega), fun h => absurd h (by simp only; omega), fun h => absurd h (by simp only; omega), fun _ _ => ⟨_, e1, ⟨(fun k h => by cases h), kA, f2, comp, f3⟩, rfl, ⟨kA, comp, f2, f3, f4, f1⟩, arrV_size _ _ _, fun j hj => by rw [arrV_read _ _ hj]; rfl⟩⟩) (hS.grow z1 o1)
  rw [← hH.1] at this; exact this
theorem G_new (pc : Nat) (hC : Cx l D B own cc nL mn R g) {idx ci : Nat} (q : vw_C) (hq : vwCl[ci]? = some q) (hw1 : Cond.classLink own idx q.1 ∈ lw_gd) (hw2 : Cond.instantiable q.1 q.2.2 ∈ lw_gd) (hw3 : Cond.initialized q.1 ∈ lw_gd) (hc : kc + 1 ≤ R.cells) (hs : ks + q.2.2 ≤ R.slots) (hd : decode cc pc = .ok (.new idx, 3)) (kk : g (pc + 3) ls (vr (some N.2.2) :: st) I L (N.1, (up N.2.1 N.2.2 (ci, q.2.2), N.2.2 + 1)) (kc + 1) (ks + q.2.2)) : g pc ls st I L N kc ks := by
  obtain ⟨p, e, s, m, args, below, meth, c, Q, ⟨hx, hb, hml, ho, hts, hK, hnm⟩, rfl⟩ := hC
  intro lr H locs hl hH hS
  obtain ⟨hci, hin, ty, hty, -, hdef⟩ := cls_ok ci q hq
  have hKn := hK.1.1 ci q hq
  refine W.newcK hx hb ho (hts _ hw1) (hts _ hw2) (hts _ hw3) rfl hd hc hs hKn.2.1 rfl fun H1 kC hkC e1 z1 o1 => ?_
  have := kk lr H1 locs hl (hH.grow z1 o1 ⟨fun _ => ⟨q, hq, (u_born ty hts hin hKn hkC e1 hty).to hdef⟩, fun h => absurd h (by simp only; omega), fun h => absurd h (by simp only; omega), fun h => absurd h (by simp only; omega)⟩) (hS.grow z1 o1)
  rw [← hH.1] at this; exact this
theorem G_objInit (pc : Nat) (hC : Cx l D B own cc nL mn R g) {idx a : Nat} (hw1 : Cond.methodLink own idx Lib.objectInit ∈ lw_gd) (hw2 : Cond.instanceMethod Lib.objectInit ∈ lw_gd) (hw3 : Cond.code Lib.objectInit ⟨#[0xb1]⟩ 1 none ∈ lw_gd) (hf : 1 ≤ R.frames) (hlo : (st.map mcat).sum + 12 ≤ R.locals) (hd : decode cc pc = .ok (.invokespecial idx, 3)) (kk : g (pc + 3) ls st I L N kc ks) : g pc ls (vr (some a) :: st) I L N kc ks := by
  obtain ⟨p, e, s, m, args, below, meth, c, Q, ⟨hx, hb, hml, ho, hts, hK, hnm⟩, rfl⟩ := hC
  intro lr H locs hl hH hS
  refine W.objInit hx hb ho (hts _ hw1) (hts _ hw2) (hts _ hw3) rfl (hl.1.trans hml.symm) rfl hd hf ?_ (kk lr H locs hl hH hS)
  show 2 * 0 + _ + 12 ≤ _
  rw [show ((st.map mv).map fun v => v.category) = st.map mcat by rw [List.map_map]; exact List.map_congr_left (fun v _ => mcat_ok v)]
  omega
theorem cats (st : List MV) : ((st.map mv).map fun v => v.category) = st.map mcat := by rw [List.map_map]; exact List.map_congr_left (fun v _ => mcat_ok v)
theorem G_mmax (pc : Nat) (hC : Cx l D B own cc nL mn R g) {idx : Nat} {x y : Int32} (hw1 : Cond.methodLink own idx Lib.Math.max.name ∈ lw_gd) (hw2 : Cond.static Lib.Math.max.name ∈ lw_gd) (hw3 : Cond.initialized "java/lang/Math" ∈ lw_gd) (hw4 : Cond.code Lib.Math.max.name Lib.Math.max.code 2 (some .int) ∈ lw_gd) (hf : 1 ≤ R.frames) (hlo : (st.map mcat).sum + 13 ≤ R.locals) (hc : kc ≤ R.cells) (hs : ks ≤ R.slots) (hd : decode cc pc = .ok (.invokestatic idx, 3)) (kk : g (pc + 3) ls (vi (if x < y then y else x) :: st) I L N kc ks) : g pc ls (vi y :: vi x :: st) I L N kc ks := by
  obtain ⟨p, e, s, m, args, below, meth, c, Q, ⟨hx, hb, hml, ho, hts, hK, hnm⟩, rfl⟩ := hC
  intro lr H locs hl hH hS
  exact va_mmax hx hb (hml.trans hl.1.symm) ho (hts _ hw1) (hts _ hw2) (hts _ hw3) (hts _ hw4) hf (by rw [cats]; exact hlo) hc hs hd (kk lr H locs hl hH hS)
theorem G_mmin (pc : Nat) (hC : Cx l D B own cc nL mn R g) {idx : Nat} {x y : Int32} (hw1 : Cond.methodLink own idx Lib.Math.min.name ∈ lw_gd) (hw2 : Cond.static Lib.Math.min.name ∈ lw_gd) (hw3 : Cond.initialized "java/lang/Math" ∈ lw_gd) (hw4 : Cond.code Lib.Math.min.name Lib.Math.min.code 2 (some .int) ∈ lw_gd) (hf : 1 ≤ R.frames) (hlo : (st.map mcat).sum + 13 ≤ R.locals) (hc : kc ≤ R.cells) (hs : ks ≤ R.slots) (hd : decode cc pc = .ok (.invokestatic idx, 3)) (kk : g (pc + 3) ls (vi (if y < x then y else x) :: st) I L N kc ks) : g pc ls (vi y :: vi x :: st) I L N kc ks := by
  obtain ⟨p, e, s, m, args, below, meth, c, Q, ⟨hx, hb, hml, ho, hts, hK, hnm⟩, rfl⟩ := hC
  intro lr H locs hl hH hS
  exact va_mmin hx hb (hml.trans hl.1.symm) ho (hts _ hw1) (hts _ hw2) (hts _ hw3) (hts _ hw4) hf (by rw [cats]; exact hlo) hc hs hd (kk lr H locs hl hH hS)
theorem recv {s : State} {H : Heap} {b ci nb : Nat} {q : vw_C} (hK : KK D s) (hH : Hp D B s H I L N) (hb : N.2.1 b = (ci, nb)) (hq : vwCl[ci]? = some q) : ∃ cell : Cell, H[b]? = some cell ∧ cell.vm.isStatics = false ∧ s.vm.findClass q.1 = some cell.cls := by
  have hcb := hH.2.2.1 b
  rw [hb] at hcb
  obtain ⟨q', hq', cellV, g1, g2, g3, -⟩ := hcb.1 (cls_ok ci q hq).1
  exact ⟨cellV, g1, by rw [g3]; rfl, by rw [g2]; exact (hK.1.1 ci q hq).2.1⟩
theorem G_instY (pc : Nat) (hC : Cx l D B own cc nL mn R g) {idx b ci nb : Nat} {q : vw_C} (hb0 : N.2.1 b = (ci, nb)) (hq : vwCl[ci]? = some q) (hw : Cond.classLink own idx q.1 ∈ lw_gd) (hd : decode cc pc = .ok (.instanceof idx, 3)) (kk : g (pc + 3) ls (vi 1 :: st) I L N kc ks) : g pc ls (vr (some b) :: st) I L N kc ks := by
  obtain ⟨p, e, s, m, args, below, meth, c, Q, ⟨hx, hb, hml, ho, hts, hK, hnm⟩, rfl⟩ := hC
  intro lr H locs hl hH hS
  exact va_instS hx hb ho (hts _ hw) (hK.1.1 ci q hq).2 (recv hK hH hb0 hq) hd (kk lr H locs hl hH hS)
theorem G_instNo (pc : Nat) (hC : Cx l D B own cc nL mn R g) {idx b ci nb : Nat} {q : vw_C} (hb0 : N.2.1 b = (ci, nb)) (hq : vwCl[ci]? = some q) (hq2 : q.1 = "GeoThreads$Way" ∨ q.1 = "GeoThreads$Reader") (hw : Cond.classLink own idx "GeoThreads$Share" ∈ lw_gd) (hd : decode cc pc = .ok (.instanceof idx, 3)) (kk : g (pc + 3) ls (vi 0 :: st) I L N kc ks) : g pc ls (vr (some b) :: st) I L N kc ks := by
  obtain ⟨p, e, s, m, args, below, meth, c, Q, ⟨hx, hb, hml, ho, hts, hK, hnm⟩, rfl⟩ := hC
  intro lr H locs hl hH hS
  have hr := recv hK hH hb0 hq
  rcases hq2 with h | h
  · rw [h] at hr
    exact va_instNo hx hb ho (hts _ hw) hK.2.1.1 hr hd (kk lr H locs hl hH hS)
  · rw [h] at hr
    exact va_instNo hx hb ho (hts _ hw) hK.2.1.2 hr hd (kk lr H locs hl hH hS)
theorem G_castY (pc : Nat) (hC : Cx l D B own cc nL mn R g) {idx b ci nb : Nat} {q : vw_C} (hb0 : N.2.1 b = (ci, nb)) (hq : vwCl[ci]? = some q) (hw : Cond.classLink own idx q.1 ∈ lw_gd) (hd : decode cc pc = .ok (.checkcast idx, 3)) (kk : g (pc + 3) ls (vr (some b) :: st) I L N kc ks) : g pc ls (vr (some b) :: st) I L N kc ks := by
  obtain ⟨p, e, s, m, args, below, meth, c, Q, ⟨hx, hb, hml, ho, hts, hK, hnm⟩, rfl⟩ := hC
  intro lr H locs hl hH hS
  exact va_castS hx hb ho (hts _ hw) (hK.1.1 ci q hq).2 (recv hK hH hb0 hq) hd (kk lr H locs hl hH hS)
-- returns
variable {ret : Option FieldType} {mc ms : Nat} {Qm : Option MV → MI → ML → NT → Prop}
theorem R_i (pc : Nat) {ty : FieldType} (hC : Cr l D B own cc nL mn R (some ty) mc ms Qm g) {x : Int32} (hn : narrow ty (.int x) = .int x) (hd : decode cc pc = .ok (.ireturn, 1)) (hc : kc ≤ mc) (hs : ks ≤ ms) (hq : Qm (some (vi x)) I L N) : g pc ls [vi x] I L N kc ks := by
  obtain ⟨p, e, s, m, args, below, meth, c, ⟨hx, hb, hml, ho, hts, hK, hnm⟩, hr, hlk, rfl⟩ := hC
  intro lr H locs hl hH hS
  refine W.widen hc hs ?_
  exact W.zret hx hb hr hn (fun t ht hW => ⟨some (vi x), I, L, N, rfl, hq, hH.moved hW.alike ht, hS.F ht⟩) hS.2.2 hd hlk
theorem R_l (pc : Nat) (hC : Cr l D B own cc nL mn R (some .long) mc ms Qm g) {x : Int64} (hd : decode cc pc = .ok (.lreturn, 1)) (hc : kc ≤ mc) (hs : ks ≤ ms) (hq : Qm (some (vl x)) I L N) : g pc ls [vl x] I L N kc ks := by
  obtain ⟨p, e, s, m, args, below, meth, c, ⟨hx, hb, hml, ho, hts, hK, hnm⟩, hr, hlk, rfl⟩ := hC
  intro lr H locs hl hH hS
  refine W.widen hc hs ?_
  exact W.lret hx hb hr (fun t ht hW => ⟨some (vl x), I, L, N, rfl, hq, hH.moved hW.alike ht, hS.F ht⟩) hS.2.2 hd hlk
theorem R_v (pc : Nat) (hC : Cr l D B own cc nL mn R none mc ms Qm g) (hd : decode cc pc = .ok (.return_, 1)) (hc : kc ≤ mc) (hs : ks ≤ ms) (hq : Qm none I L N) : g pc ls [] I L N kc ks := by
  obtain ⟨p, e, s, m, args, below, meth, c, ⟨hx, hb, hml, ho, hts, hK, hnm⟩, hr, hlk, rfl⟩ := hC
  intro lr H locs hl hH hS
  refine W.widen hc hs ?_
  exact W.vret hx hb hr (fun t ht hW => ⟨none, I, L, N, rfl, hq, hH.moved hW.alike ht, hS.F ht⟩) hS.2.2 hd hlk
theorem R_a (pc : Nat) {nm : String} (hC : Cr l D B own cc nL mn R (some (.object nm)) mc ms Qm g) {r : Option Nat} (hd : decode cc pc = .ok (.areturn, 1)) (hc : kc ≤ mc) (hs : ks ≤ ms) (hq : Qm (some (vr r)) I L N) : g pc ls [vr r] I L N kc ks := by
  obtain ⟨p, e, s, m, args, below, meth, c, ⟨hx, hb, hml, ho, hts, hK, hnm⟩, hr, hlk, rfl⟩ := hC
  intro lr H locs hl hH hS
  refine W.widen hc hs ?_
  exact W.aret (v := va_rf r) hx hb hr (Or.inl ⟨_, rfl⟩) (by cases r with
    | none => exact Or.inl rfl
    | some a => exact Or.inr ⟨a, rfl⟩) (fun t ht hW => ⟨some (vr r), I, L, N, rfl, hq, hH.moved hW.alike ht, hS.F ht⟩) hS.2.2 hd hlk
end MADE
section CALLS
variable {l : Launch} {D : va_G} {B : Nat} {own : String} {cc : ByteArray} {nL : Nat} {mn : String} {R : Room} {g : GT} {ls ls' : List (Option MV)} {st st0 : List MV} {I : MI} {L : ML} {N : NT} {kc ks : Nat}
variable {M : MD} {as : List MV} {mc ms idx n : Nat} {Qm : Option MV → MI → ML → NT → Prop}
theorem call_core {p : Program} {e : Env} {s : State} {m : MethodId} {args a : Array Value} {below : List Frame} {meth : Method} {c : Code} {Q : State → Prop} {H : Heap} {locs : List Loc} {lr : Array Slot} {st1 : List Value} {pc : Nat}
    (hr : va_Run p l e R s m args below meth c H locs kc ks mc ms (F0 m pc lr st1) (st.map mv) (QcOf D B Qm a) (fun q => B ≤ q)) (hS : va_S (fun q => B ≤ q) s.heap H locs)
    (kk : ∀ v I' L' N', Qm v I' L' N' → ∀ (H1 : Heap) (locs1 : List Loc), Hp D B s H1 I' L' N' → va_S (fun q => B ≤ q) s.heap H1 locs1 → W p l e R s m args below meth c H1 locs1 (kc + mc) (ks + ms) Q (F0 m (pc + 3) lr ((v.toList ++ st).map mv))) : W p l e R s m args below meth c H locs kc ks Q (F0 m pc lr st1) := by
  intro T hT X
  obtain ⟨v, st₀, t, T', L0, h0, X', hL, e1, e2, ⟨v', I', L', N', hv, hq, hH, hz, hk⟩, stp⟩ := hr T hT X
  have hv2 : v = v'.map mv := by cases hv; rfl
  subst hv2
  rw [h0] at hz hk
  have hal : t.vm.Alike s.vm := by rw [← e2]; exact X'.warmed.alike.symm
  obtain ⟨t2, a1, b1⟩ := kk v' I' L' N' hq T'.heap (locs ++ L0) (hH.moved hal e1)
    ⟨Nat.le_trans hS.1 (by rw [e1]; exact hz), fun q h1 h2 => by rw [e1, hk q (Nat.lt_of_lt_of_le h1 hS.1) h2]; exact hS.2.1 q h1 h2, fun q hq => by
      rcases List.mem_append.mp hq with h | h
      · exact hS.2.2 q h
      · exact hL q h⟩ T' rfl X'
  refine ⟨t2, stp t2 ?_, b1⟩
  have : (v'.map mv).toList ++ st.map mv = (v'.toList ++ st).map mv := by cases v' <;> simp
  rw [this]
  exact a1
/-- a method's own words -/
def MokV (M : MD) (n : Nat) : Prop := Cond.code M.y M.cc M.nL M.ret ∈ lw_gd ∧ Cond.instanceMethod M.y ∈ lw_gd ∧ Cond.selects M.y.cls M.y M.y ∈ lw_gd ∧ Cond.initialized M.y.cls ∈ lw_gd ∧ M.y.cls ≠ "java/lang/invoke/MethodHandle" ∧ M.y.cls ≠ "java/lang/invoke/VarHandle" ∧ (parseMethodDescriptor M.y.desc).map (fun d => d.parameters.length) = some n
def MokS (M : MD) (n : Nat) : Prop := Cond.code M.y M.cc M.nL M.ret ∈ lw_gd ∧ Cond.static M.y ∈ lw_gd ∧ Cond.initialized M.y.cls ∈ lw_gd ∧ M.y.cls ≠ "java/lang/invoke/MethodHandle" ∧ M.y.cls ≠ "java/lang/invoke/VarHandle" ∧ (parseMethodDescriptor M.y.desc).map (fun d => d.parameters.length) = some n
def MokI (M : MD) (n : Nat) : Prop := Cond.code M.y M.cc M.nL none ∈ lw_gd ∧ M.ret = none ∧ M.y.name = "<init>" ∧ Cond.instanceMethod M.y ∈ lw_gd ∧ Cond.initialized M.y.cls ∈ lw_gd ∧ M.y.cls ≠ "java/lang/invoke/MethodHandle" ∧ M.y.cls ≠ "java/lang/invoke/VarHandle" ∧ (parseMethodDescriptor M.y.desc).map (fun d => d.parameters.length) = some n
theorem good_ws {w : Cond} (h : w ∈ lw_gd) : GoodIn lw_gd (w :: lw_gd) := by
  intro x hx
  rcases List.mem_cons.mp hx with rfl | hx
  · exact gd_good _ h
  · exact gd_good _ hx
theorem pre_s {s : State} {H : Heap} (hK : KK D s) (hH : Hp D B s H I L N) : PreS s H (PcOf D B as I L N) (as.map mv) :=
  ⟨PcOf.blind, fun U hU hW => ⟨rfl, hK.warm hW, hH.moved hW.alike hU⟩⟩
theorem G_callV (pc : Nat) (hC : Cx l D B own cc nL mn R g) {b ci nb : Nat} {q : vw_C} (hM : Ct l D B M (vr (some b) :: as) I L N mc ms Qm) (hm : MokV M n) (hlink : Cond.methodLink own idx M.y ∈ lw_gd) (hb0 : N.2.1 b = (ci, nb)) (hq : vwCl[ci]? = some q) (hqy : q.1 = M.y.cls) (hn : as.length = n) (hstk : st0 = as.reverse ++ vr (some b) :: st) (hcat : (st.map mcat).sum ≤ 8)
    (hR : M.fr + 1 ≤ R.frames ∧ 8 + (M.nL + 11) + M.lo ≤ R.locals) (hf : kc + mc ≤ R.cells ∧ ks + ms ≤ R.slots) (hd : decode cc pc = .ok (.invokevirtual idx, 3)) (kk : ∀ v I' L' N', Qm v I' L' N' → g (pc + 3) ls (v.toList ++ st) I' L' N' (kc + mc) (ks + ms)) : g pc ls st0 I L N kc ks := by
  obtain ⟨p, e, s, m, args, below, meth, c, Q, ⟨hx, hb, hml, ho, hts, hK, hnm⟩, rfl⟩ := hC
  intro lr H locs hl hH hS
  obtain ⟨m1, m2, m3, m4, m5, m6, m7⟩ := hm
  have hr := recv hK hH hb0 hq
  rw [hqy] at hr
  have hG : GoodIn lw_gd (wsV own idx M.y.cls M.y (.code M.y M.cc M.nL M.ret :: lw_gd)) := by
    intro w hw
    unfold wsV at hw
    rcases List.mem_append.mp hw with h | h
    · simp only [List.mem_cons, List.not_mem_nil, or_false] at h
      rcases h with rfl | rfl | rfl | rfl
      · exact gd_good _ hlink
      · exact gd_good _ m2
      · exact gd_good _ m3
      · exact gd_good _ m4
    · exact good_ws m1 w h
  refine call_core (va_runV (As := as.map mv) (rest := st.map mv) ⟨hx, hb, hml, ho, hts⟩ hM (cwV n hts hG rfl rfl rfl ⟨rfl, m5, m6, m7⟩ hR) ⟨PcOf.blind, hr, (pre_s (as := vr (some b) :: as) hK hH).2⟩ rfl (by rw [List.length_map]; exact hn) hl.1 (by rw [hstk]; simp [mv, va_rf]) (lv_room (by rw [cats]; exact hcat)) hd hf) hS (fun v I' L' N' hq' H1 locs1 h1 h2 => kk v I' L' N' hq' lr H1 locs1 hl h1 h2)
theorem G_callS (pc : Nat) (hC : Cx l D B own cc nL mn R g) (hM : Ct l D B M as I L N mc ms Qm) (hm : MokS M n) (hlink : Cond.methodLink own idx M.y ∈ lw_gd) (hown : M.y.cls = own) (hn : as.length = n) (hstk : st0 = as.reverse ++ st) (hcat : (st.map mcat).sum ≤ 8)
    (hR : M.fr + 1 ≤ R.frames ∧ 8 + (M.nL + 11) + M.lo ≤ R.locals) (hf : kc + mc ≤ R.cells ∧ ks + ms ≤ R.slots) (hd : decode cc pc = .ok (.invokestatic idx, 3)) (kk : ∀ v I' L' N', Qm v I' L' N' → g (pc + 3) ls (v.toList ++ st) I' L' N' (kc + mc) (ks + ms)) : g pc ls st0 I L N kc ks := by
  obtain ⟨p, e, s, m, args, below, meth, c, Q, ⟨hx, hb, hml, ho, hts, hK, hnm⟩, rfl⟩ := hC
  intro lr H locs hl hH hS
  obtain ⟨m1, m2, m4, m5, m6, m7⟩ := hm
  have hG : GoodIn lw_gd (wsS own idx M.y (.code M.y M.cc M.nL M.ret :: lw_gd)) := by
    intro w hw
    unfold wsS at hw
    rcases List.mem_append.mp hw with h | h
    · simp only [List.mem_cons, List.not_mem_nil, or_false] at h
      rcases h with rfl | rfl | rfl
      · exact gd_good _ hlink
      · exact gd_good _ m2
      · exact gd_good _ (hown ▸ m4)
    · exact good_ws m1 w h
  refine call_core (va_runS (As := as.map mv) (rest := st.map mv) ⟨hx, hb, hml, ho, hts⟩ hM (cwS n hts hG rfl rfl rfl ⟨hown, m5, m6, m7⟩ hR) (pre_s hK hH) rfl (by rw [List.length_map]; exact hn) hl.1 (by rw [hstk]; simp) (lv_room (by rw [cats]; exact hcat)) hd hf) hS (fun v I' L' N' hq' H1 locs1 h1 h2 => kk v I' L' N' hq' lr H1 locs1 hl h1 h2)
theorem G_callI (pc : Nat) (hC : Cx l D B own cc nL mn R g) {b : Nat} (hM : Ct l D B M (vr (some b) :: as) I L N mc ms Qm) (hm : MokI M n) (hlink : Cond.methodLink own idx M.y ∈ lw_gd) (hn : as.length = n) (hstk : st0 = as.reverse ++ vr (some b) :: st) (hcat : (st.map mcat).sum ≤ 8)
    (hR : M.fr + 1 ≤ R.frames ∧ 8 + (M.nL + 11) + M.lo ≤ R.locals) (hf : kc + mc ≤ R.cells ∧ ks + ms ≤ R.slots) (hd : decode cc pc = .ok (.invokespecial idx, 3)) (kk : ∀ v I' L' N', Qm v I' L' N' → g (pc + 3) ls (v.toList ++ st) I' L' N' (kc + mc) (ks + ms)) : g pc ls st0 I L N kc ks := by
  obtain ⟨p, e, s, m, args, below, meth, c, Q, ⟨hx, hb, hml, ho, hts, hK, hnm⟩, rfl⟩ := hC
  intro lr H locs hl hH hS
  obtain ⟨m1, m1', m2, m3, m4, m5, m6, m7⟩ := hm
  have hG : GoodIn lw_gd (.code M.y M.cc M.nL none :: lw_gd) := good_ws m1
  unfold Ct at hM
  rw [m1'] at hM
  refine call_core (va_runI (As := as.map mv) (rest := st.map mv) ⟨hx, hb, hml, ho, hts⟩ hM (cwI n hts hG rfl rfl rfl (hts _ m4) (hts _ hlink) (hts _ m3) m2 ⟨m5, m6, m7⟩ hR) (pre_s (as := vr (some b) :: as) hK hH) rfl (by rw [List.length_map]; exact hn) hl.1 (by rw [hstk]; simp [mv, va_rf]) (lv_room (by rw [cats]; exact hcat)) hd hf) hS (fun v I' L' N' hq' H1 locs1 h1 h2 => kk v I' L' N' hq' lr H1 locs1 hl h1 h2)
theorem G_callIN (pc : Nat) (hC : Cx l D B own cc nL mn R g) {b : Nat} {host : String} (hM : Ct l D B M (vr (some b) :: as) I L N mc ms Qm) (hm : MokI M n) (hlink : Cond.methodLinkNest own idx M.y host ∈ nwL) (hn : as.length = n) (hstk : st0 = as.reverse ++ vr (some b) :: st) (hcat : (st.map mcat).sum ≤ 8)
    (hR : M.fr + 1 ≤ R.frames ∧ 8 + (M.nL + 11) + M.lo ≤ R.locals) (hf : kc + mc ≤ R.cells ∧ ks + ms ≤ R.slots) (hd : decode cc pc = .ok (.invokespecial idx, 3)) (kk : ∀ v I' L' N', Qm v I' L' N' → g (pc + 3) ls (v.toList ++ st) I' L' N' (kc + mc) (ks + ms)) : g pc ls st0 I L N kc ks := by
  obtain ⟨p, e, s, m, args, below, meth, c, Q, ⟨hx, hb, hml, ho, hts, hK, hnm⟩, rfl⟩ := hC
  intro lr H locs hl hH hS
  obtain ⟨m1, m1', m2, m3, m4, m5, m6, m7⟩ := hm
  have hG : GoodIn lw_gd (.code M.y M.cc M.nL none :: lw_gd) := good_ws m1
  unfold Ct at hM
  rw [m1'] at hM
  refine call_core (va_runIN (As := as.map mv) (rest := st.map mv) ⟨hx, hb, hml, ho, hts⟩ hM ⟨va_cnB n hts hG rfl rfl rfl (hK.2.2.2 _ hlink) (hts _ m4) ⟨m5, m6, m7⟩ hR, m2, hts _ m3⟩ (pre_s (as := vr (some b) :: as) hK hH) rfl (by rw [List.length_map]; exact hn) hl.1 (by rw [hstk]; simp [mv, va_rf]) (lv_room (by rw [cats]; exact hcat)) hd hf) hS (fun v I' L' N' hq' H1 locs1 h1 h2 => kk v I' L' N' hq' lr H1 locs1 hl h1 h2)
/-- a method that Task names (x), of the object's own class (M) or of Task itself -/
def MokU (x : MethodName) (C : String) (M : MD) (n : Nat) : Prop := Cond.code M.y M.cc M.nL M.ret ∈ lw_gd ∧ Cond.instanceMethod M.y ∈ lw_gd ∧ Cond.selects C x M.y ∈ lw_gd ∧ Cond.initialized M.y.cls ∈ lw_gd ∧ Cond.sameMethod x.cls "GeoThreads$Task" x.name x.desc ∈ lw_gd ∧ (parseMethodDescriptor x.desc).map (fun d => d.parameters.length) = some n ∧ (Cond.declares ⟨"GeoThreads$Task", x.name, x.desc⟩ ∈ nwL ∨ (Cond.instanceMethod ⟨"GeoThreads$Task", x.name, x.desc⟩ ∈ lw_gd ∧ ∃ b0 m0 r0, Cond.code ⟨"GeoThreads$Task", x.name, x.desc⟩ b0 m0 r0 ∈ lw_gd))
theorem G_callU (pc : Nat) (hC : Cx l D B own cc nL mn R g) {b ci nb : Nat} {q : vw_C} {x : MethodName} (hM : Ct l D B M (vr (some b) :: as) I L N mc ms Qm) (hm : MokU x q.1 M n) (hlink : Cond.methodLink own idx x ∈ lw_gd) (hb0 : N.2.1 b = (ci, nb)) (hq : vwCl[ci]? = some q) (hn : as.length = n) (hstk : st0 = as.reverse ++ vr (some b) :: st) (hcat : (st.map mcat).sum ≤ 8)
    (hR : M.fr + 1 ≤ R.frames ∧ 8 + (M.nL + 11) + M.lo ≤ R.locals) (hf : kc + mc ≤ R.cells ∧ ks + ms ≤ R.slots) (hd : decode cc pc = .ok (.invokevirtual idx, 3)) (kk : ∀ v I' L' N', Qm v I' L' N' → g (pc + 3) ls (v.toList ++ st) I' L' N' (kc + mc) (ks + ms)) : g pc ls st0 I L N kc ks := by
  obtain ⟨p, e, s, m, args, below, meth, c, Q, ⟨hx, hb, hml, ho, hts, hK, hnm⟩, rfl⟩ := hC
  intro lr H locs hl hH hS
  obtain ⟨m1, m2, m3, m4, m5, m6, m7⟩ := hm
  have hr := recv hK hH hb0 hq
  have hdecl : va_Decl s ⟨"GeoThreads$Task", x.name, x.desc⟩ := by
    rcases m7 with h | ⟨h1, b0, m0, r0, h2⟩
    · exact va_Decl.abs (hK.2.2.2 _ h)
    · exact va_Decl.of (hts _ h1) (hts _ h2)
  have cw : va_CU R s args own q.1 "GeoThreads$Task" idx x M.y M.cc M.nL M.ret (.code M.y M.cc M.nL M.ret :: lw_gd) { frames := M.fr, cells := mc, slots := ms, locals := M.lo } mc ms n := by
    refine ⟨⟨rfl, rfl, hR.1, hR.2, pay_in hts (good_ws m1), List.mem_cons_self⟩, hts _ m1, hts _ m4, ⟨by decide, by decide⟩, fun sig h => ?_, hts _ hlink, hts _ m5, hdecl, hts _ m3, hts _ m2⟩
    rw [h] at m6
    exact (Option.some.inj m6).symm
  refine call_core (va_runU (As := as.map mv) (rest := st.map mv) ⟨hx, hb, hml, ho, hts⟩ hM cw ⟨PcOf.blind, hr, (pre_s (as := vr (some b) :: as) hK hH).2⟩ rfl (by rw [List.length_map]; exact hn) hl.1 (by rw [hstk]; simp [mv, va_rf]) (lv_room (by rw [cats]; exact hcat)) hd hf) hS (fun v I' L' N' hq' H1 locs1 h1 h2 => kk v I' L' N' hq' lr H1 locs1 hl h1 h2)
end CALLS

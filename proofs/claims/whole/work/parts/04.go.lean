/-! ===== the slim walk: a machine's frame and heap in small words; rules goal first ===== -/
abbrev MV : Type := Int32 ⊕ (Int64 ⊕ (Option Nat ⊕ (UInt32 ⊕ UInt64)))
abbrev vi (x : Int32) : MV := Sum.inl x
abbrev vl (x : Int64) : MV := Sum.inr (Sum.inl x)
abbrev vr (r : Option Nat) : MV := Sum.inr (Sum.inr (Sum.inl r))
abbrev vf (x : UInt32) : MV := Sum.inr (Sum.inr (Sum.inr (Sum.inl x)))
abbrev vd (x : UInt64) : MV := Sum.inr (Sum.inr (Sum.inr (Sum.inr x)))
def mv : MV → Value
  | .inl x => .int x
  | .inr (.inl x) => .long x
  | .inr (.inr (.inl r)) => va_rf r
  | .inr (.inr (.inr (.inl x))) => .float x
  | .inr (.inr (.inr (.inr x))) => .double x
def mcat : MV → Nat
  | .inr (.inl _) => 2
  | .inr (.inr (.inr (.inr _))) => 2
  | _ => 1
theorem va_rf_cat (r : Option Nat) : (va_rf r).category = 1 := by cases r <;> rfl
theorem mcat_ok (v : MV) : (mv v).category = mcat v := by
  rcases v with x | x | x | x | x
  · rfl
  · rfl
  · exact va_rf_cat x
  · rfl
  · rfl
abbrev MI : Type := Nat → Nat → Int32
abbrev ML : Type := Nat → Nat → Int64
abbrev MR : Type := Nat → Nat → Option Nat
/-- what is linked: references, shapes (kind, length), the heap's size -/
abbrev NT : Type := MR × ((Nat → Nat × Nat) × Nat)
def up {α : Type} (f : Nat → α) (k : Nat) (v : α) : Nat → α := fun j => if j = k then v else f j
def upd2 {α : Type} (f : Nat → Nat → α) (a k : Nat) (v : α) : Nat → Nat → α := up f a (up (f a) k v)
theorem up_s {α : Type} (f : Nat → α) (k : Nat) (v : α) : up f k v k = v := by simp [up]
theorem up_n {α : Type} (f : Nat → α) {k j : Nat} (v : α) (h : j ≠ k) : up f k v j = f j := by simp [up, h]
/-- field types of the kinds 0 .. 11: 0 an int or a boolean, 1 a long, 2 a reference -/
def ftl : List (List Nat) := [[2, 0, 0, 2, 2, 2, 2, 2, 2, 0, 0, 0, 0, 0, 0, 0, 0, 0, 0], [0, 2], [1, 0, 1], [0, 2], [2, 2, 2, 2, 0, 0, 0, 0], [0, 0, 0, 2, 0], [2, 0, 0, 1], [0, 0, 0, 2, 0, 0, 0], [0, 0, 0, 0, 1, 0], [0, 0, 0, 0, 0, 0, 0, 0, 0, 1, 1, 0, 0], [0, 0, 2, 2, 2, 2], [0, 0, 0, 0, 2, 2, 2, 0, 2, 2, 0, 2, 2, 2, 2, 2, 2, 2, 2, 2, 0, 2, 2, 2, 2, 0, 2, 2, 2, 2, 2, 0, 0, 1, 2, 2]]
def fty (k j : Nat) : Nat := (ftl.getD k []).getD j 0
def fval (k : Nat) (f : Nat → Int32) (g : Nat → Int64) (r : Nat → Option Nat) (j : Nat) : Value := if fty k j = 0 then .int (f j) else if fty k j = 1 then .long (g j) else va_rf (r j)
def elC : Nat → String
  | 14 => "GeoThreads$Grid"
  | 15 => "GeoThreads$Hunt"
  | 16 => "GeoThreads$Line"
  | 17 => "GeoThreads$Search"
  | 18 => "GeoThreads$Task"
  | _ => "GeoThreads$Work"
/-- a cell as its shape says: 0..11 an object, 12 ints, 13 longs, 14..19 references, 20 the script, 21 nothing known -/
def CellAt (D : va_G) (s : State) (H : Heap) (a : Nat) (kn : Nat × Nat) (f : Nat → Int32) (g : Nat → Int64) (r : Nat → Option Nat) : Prop :=
  (kn.1 < 12 → ∃ q : vw_C, vwCl[kn.1]? = some q ∧ t_OB a (D.1 kn.1) q.2.2 (D.2 kn.1) H (fval kn.1 f g r)) ∧
  (kn.1 = 12 ∨ kn.1 = 20 → ∃ cell : Cell, H[a]? = some cell ∧ s.isArrayOf cell .int ∧ cell.vm ≠ .unknown ∧ cell.slots.size = kn.2 ∧ ∀ j : Nat, j < kn.2 → cell.slots[j]? = some (.int (f j))) ∧
  (kn.1 = 13 → ∃ cell : Cell, H[a]? = some cell ∧ s.isArrayOf cell .long ∧ cell.vm ≠ .unknown ∧ cell.slots.size = kn.2 ∧ ∀ j : Nat, j < kn.2 → cell.slots[j]? = some (.long (g j))) ∧
  (14 ≤ kn.1 → kn.1 < 20 → ∃ cell : Cell, H[a]? = some cell ∧ s.isArrayOf cell (.object (elC kn.1)) ∧ cell.vm = .none ∧ va_RA s cell.cls (.object (elC kn.1)) ∧ cell.slots.size = kn.2 ∧ ∀ j : Nat, j < kn.2 → cell.slots[j]? = some (va_rf (r j)))
def Hp (D : va_G) (B : Nat) (s : State) (H : Heap) (I : MI) (L : ML) (N : NT) : Prop :=
  H.size = N.2.2 ∧ B ≤ N.2.2 ∧ (∀ a, CellAt D s H a (N.2.1 a) (I a) (L a) (N.1 a)) ∧ (∀ a, N.2.2 ≤ a → (N.2.1 a).1 = 21 ∧ ∀ k, I a k = 0 ∧ L a k = 0 ∧ N.1 a k = none) ∧ (∀ a, (N.2.1 a).1 < 20 → B ≤ a)
def LocR (lr : Array Slot) (nL : Nat) (ls : List (Option MV)) : Prop := lr.size = nL ∧ lv_wf lr ∧ ∀ (i : Nat) (v : MV), ls[i]? = some (some v) → lr[i]? = some (.val (mv v))
abbrev GT : Type := Nat → List (Option MV) → List MV → MI → ML → NT → Nat → Nat → Prop
def Gw (p : Program) (l : Launch) (e : Env) (R : Room) (s : State) (m : MethodId) (args : Array Value) (below : List Frame) (meth : Method) (c : Code) (Q : State → Prop) (D : va_G) (B nL : Nat) : GT :=
  fun pc ls st I L N kc ks => ∀ (lr : Array Slot) (H : Heap) (locs : List Loc), LocR lr nL ls → Hp D B s H I L N → va_S (fun q => B ≤ q) s.heap H locs → W p l e R s m args below meth c H locs kc ks Q (F0 m pc lr (st.map mv))
/-- the tables' words that any later table keeps -/
def lw_gd : List Cond := lw_tbl.filter goodWord
theorem gd_mem {w : Cond} (h : w ∈ lw_tbl) (hg : goodWord w = true) : w ∈ lw_gd := List.mem_filter.mpr ⟨h, hg⟩
theorem gd_good : GoodIn lw_gd lw_gd := fun _ h => ⟨h, good_of_word (List.mem_filter.mp h).2⟩
/-- words that are kept by laws of their own -/
def isNw : Cond → Bool
  | .castable .. => true
  | .methodLinkNest .. => true
  | .declares _ => true
  | _ => false
def nwL : List Cond := lw_tbl.filter isNw
theorem nw_mem {w : Cond} (h : w ∈ lw_tbl) (hg : isNw w = true) : w ∈ nwL := List.mem_filter.mpr ⟨h, hg⟩
def aoL : List String := ["GeoThreads$Grid", "GeoThreads$Hunt", "GeoThreads$Line", "GeoThreads$Search", "GeoThreads$Task", "GeoThreads$Work"]
/-- what the tables say of the objects' classes -/
def KK (D : va_G) (U : State) : Prop := va_K D vwCl [] U ∧ (va_Nc "GeoThreads$Way" "GeoThreads$Share" U ∧ va_Nc "GeoThreads$Reader" "GeoThreads$Share" U) ∧ (∀ C ∈ aoL, va_AO C U) ∧ ∀ w ∈ nwL, va_Nw w U
theorem KK.warm {D : va_G} {s U : State} (hW : s.WarmedH U.vm) (h : KK D s) : KK D U := by
  obtain ⟨h1, ⟨h2, h3⟩, h4, h5⟩ := h
  refine ⟨va_K.moved hW.alike h1, ⟨h2.moved hW.alike, h3.moved hW.alike⟩, fun C hC => (h4 C hC).moved hW.alike, fun w hw => ?_⟩
  have hz := h5 w hw
  have hi := (List.mem_filter.mp hw).2
  cases w <;> first | exact va_Nw.warmC hW hz | exact va_Nw.warmM hW hz | exact va_Nw.warmD hW hz | (simp [isNw] at hi; done)
theorem KK.calling {D : va_G} {U : State} {g : JFrame} {mk : MethodId} {a : Array Value} (h : KK D U) : KK D (U.calling g mk a) := by
  obtain ⟨h1, ⟨h2, h3⟩, h4, h5⟩ := h
  have hA : U.vm.Alike (U.calling g mk a).vm := Vm.Alike.refl U.vm
  refine ⟨va_K.moved hA h1, ⟨h2.moved hA, h3.moved hA⟩, fun C hC => (h4 C hC).moved hA, fun w hw => ?_⟩
  have hz := h5 w hw
  have hi := (List.mem_filter.mp hw).2
  have ht : w.onTables = true := by cases w <;> first | rfl | (simp [isNw] at hi; done)
  exact va_Nw.same (u := U) ht rfl hz
/-- what is known of a method's walk g: its class, code, locals, name, room -/
def Cx (l : Launch) (D : va_G) (B : Nat) (own : String) (cc : ByteArray) (nL : Nat) (mn : String) (R : Room) (g : GT) : Prop :=
  ∃ (p : Program) (e : Env) (s : State) (m : MethodId) (args : Array Value) (below : List Frame) (meth : Method) (c : Code) (Q : State → Prop),
    (p.tables.exec = Jvm.exec ∧ c.code = cc ∧ c.maxLocals = nL ∧ s.vm.findClass own = some m.cls ∧ (∀ w ∈ lw_gd, w.before args s = true) ∧ KK D s ∧ meth.name = mn) ∧ g = Gw p l e R s m args below meth c Q D B nL
def QcOf (D : va_G) (B : Nat) (Qm : Option MV → MI → ML → NT → Prop) : Array Value → State → Outcome → State → Prop := fun _ st oc t =>
  ∃ (v : Option MV) (I : MI) (L : ML) (N : NT), oc = .returned (v.map mv) ∧ Qm v I L N ∧ Hp D B t t.heap I L N ∧ va_F (fun q => B ≤ q) st t
def Cr (l : Launch) (D : va_G) (B : Nat) (own : String) (cc : ByteArray) (nL : Nat) (mn : String) (R : Room) (ret : Option FieldType) (mc ms : Nat) (Qm : Option MV → MI → ML → NT → Prop) (g : GT) : Prop :=
  ∃ (p : Program) (e : Env) (s : State) (m : MethodId) (args : Array Value) (below : List Frame) (meth : Method) (c : Code),
    (p.tables.exec = Jvm.exec ∧ c.code = cc ∧ c.maxLocals = nL ∧ s.vm.findClass own = some m.cls ∧ (∀ w ∈ lw_gd, w.before args s = true) ∧ KK D s ∧ meth.name = mn) ∧ meth.sig.returnType = ret ∧ meth.locks = false ∧ g = Gw p l e R s m args below meth c (MQ below (QcOf D B Qm) args s mc ms (fun q => B ≤ q)) D B nL
theorem Cr.cx {l : Launch} {D : va_G} {B : Nat} {own : String} {cc : ByteArray} {nL : Nat} {mn : String} {R : Room} {ret : Option FieldType} {mc ms : Nat} {Qm : Option MV → MI → ML → NT → Prop} {g : GT} (h : Cr l D B own cc nL mn R ret mc ms Qm g) : Cx l D B own cc nL mn R g := by
  obtain ⟨p, e, s, m, args, below, meth, c, h1, -, -, h2⟩ := h
  exact ⟨p, e, s, m, args, below, meth, c, _, h1, h2⟩
/-- a method: name, code, locals, answer's type, frames and locals that it needs -/
abbrev MD : Type := MethodName × (ByteArray × (Nat × (Option FieldType × (Nat × Nat))))
abbrev MD.y (M : MD) : MethodName := M.1
abbrev MD.cc (M : MD) : ByteArray := M.2.1
abbrev MD.nL (M : MD) : Nat := M.2.2.1
abbrev MD.ret (M : MD) : Option FieldType := M.2.2.2.1
abbrev MD.fr (M : MD) : Nat := M.2.2.2.2.1
abbrev MD.lo (M : MD) : Nat := M.2.2.2.2.2
def PcOf (D : va_G) (B : Nat) (as : List MV) (I : MI) (L : ML) (N : NT) : Array Value → State → Prop := va_Pc (as.map mv) (fun U => KK D U ∧ Hp D B U U.heap I L N)
/-- method M, called with as over I, L, N, returns, and Qm holds of its answer and what is then -/
def Ct (l : Launch) (D : va_G) (B : Nat) (M : MD) (as : List MV) (I : MI) (L : ML) (N : NT) (mc ms : Nat) (Qm : Option MV → MI → ML → NT → Prop) : Prop :=
  Met l M.y (.code M.y M.cc M.nL M.ret :: lw_gd) { frames := M.fr, cells := mc, slots := ms, locals := M.lo } (PcOf D B as I L N) (QcOf D B Qm) mc ms (fun q => B ≤ q)
/-- the same, with one answer and end, and nothing made -/
def Cq (l : Launch) (D : va_G) (B : Nat) (M : MD) (as : List MV) (I : MI) (L : ML) (N : NT) (v : Option MV) (I1 : MI) (L1 : ML) : Prop :=
  Ct l D B M as I L N 0 0 (fun v' I' L' N' => v' = v ∧ I' = I1 ∧ L' = L1 ∧ N' = N)
def slotsOf : List MV → List (Option MV)
  | [] => []
  | v :: vs => if mcat v = 2 then some v :: none :: slotsOf vs else some v :: slotsOf vs
def entryL (nL : Nat) (as : List MV) : List (Option MV) := slotsOf as ++ List.replicate (nL - (slotsOf as).length) none
theorem slotsOf_at : ∀ (as : List MV) (k i : Nat) (v : MV), (slotsOf as)[i]? = some (some v) → (k + i, mv v) ∈ lv_args k (as.map mv)
  | [], k, i, v, h => by simp [slotsOf] at h
  | w :: ws, k, i, v, h => by
    show (k + i, mv v) ∈ (k, mv w) :: lv_args (if (mv w).category = 2 then k + 2 else k + 1) (ws.map mv)
    rw [mcat_ok]
    unfold slotsOf at h
    by_cases hc : mcat w = 2
    · rw [if_pos hc] at h ⊢
      match i, h with
      | 0, h => simp at h; subst h; exact List.mem_cons_self
      | 1, h => simp at h
      | i + 2, h =>
        have := slotsOf_at ws (k + 2) i v (by simpa using h)
        exact List.mem_cons_of_mem _ (by rw [show k + (i + 2) = k + 2 + i by omega]; exact this)
    · rw [if_neg hc] at h ⊢
      match i, h with
      | 0, h => simp at h; subst h; exact List.mem_cons_self
      | i + 1, h =>
        have := slotsOf_at ws (k + 1) i v (by simpa using h)
        exact List.mem_cons_of_mem _ (by rw [show k + (i + 1) = k + 1 + i by omega]; exact this)
theorem slotsOf_len : ∀ as : List MV, (lg_sl (as.map mv)).length = (slotsOf as).length
  | [] => rfl
  | w :: ws => by
    have := slotsOf_len ws
    unfold lg_sl at this ⊢
    by_cases hc : mcat w = 2
    · have h2 : (mv w).category = 2 := by rw [mcat_ok]; exact hc
      simp [slotsOf, hc, h2] at this ⊢; omega
    · have h2 : ¬ (mv w).category = 2 := by rw [mcat_ok]; exact hc
      simp [slotsOf, hc, h2] at this ⊢; omega
theorem Ct.of {l : Launch} {D : va_G} {B : Nat} {M : MD} {as : List MV} {I : MI} {L : ML} {N : NT} {mc ms : Nat} {Qm : Option MV → MI → ML → NT → Prop} (hy : plainName M.y.cls = true) (hn : (slotsOf as).length ≤ M.nL)
    (body : ∀ g, Cr l D B M.y.cls M.cc M.nL M.y.name { frames := M.fr, cells := mc, slots := ms, locals := M.lo } M.ret mc ms Qm g → g 0 (entryL M.nL as) [] I L N 0 0) : Ct l D B M as I L N mc ms Qm := by
  refine Met.ofW (cc := M.cc) (maxL := M.nL) (ret := M.ret) hy rfl ?_
  intro p e s m args below meth c s₁ Bd hml hv
  obtain ⟨rfl, hK, hH⟩ := hv
  have hts := atoms_spec (ws := .code M.y M.cc M.nL M.ret :: lw_gd) Bd.pre
  have hnm := name_of_methodNamed Bd.named Bd.method
  have hg := body _ ⟨p, e, s, m, (as.map mv).toArray, below, meth, c, ⟨Bd.exec, Bd.bytes, hml, findClass_of_methodNamed Bd.named, fun w hw => hts w (List.mem_cons_of_mem _ hw), hK, hnm.1⟩, Bd.returns, Bd.notSynchronized, rfl⟩
  rw [lg_entry_eq]
  have hl := lv_entry (as.map mv) (n := M.nL) (by rw [slotsOf_len]; exact hn)
  refine hg _ s.heap [] ⟨hl.1, hl.2.1, fun i v hi => ?_⟩ hH va_S.rf
  have hi2 : (slotsOf as)[i]? = some (some v) := by
    unfold entryL at hi
    by_cases hlt : i < (slotsOf as).length
    · rwa [List.getElem?_append_left hlt] at hi
    · rw [List.getElem?_append_right (by omega)] at hi
      have := List.mem_of_getElem? hi
      have h3 := List.eq_of_mem_replicate this
      cases h3
  have := hl.2.2 _ (slotsOf_at as 0 i v hi2)
  rwa [Nat.zero_add] at this

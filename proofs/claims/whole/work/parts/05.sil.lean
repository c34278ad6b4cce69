section SIL
variable {l : Launch} {D : va_G} {B : Nat} {own : String} {cc : ByteArray} {nL : Nat} {mn : String} {R : Room} {g : GT} {ls ls' : List (Option MV)} {st : List MV} {I : MI} {L : ML} {N : NT} {kc ks : Nat}
theorem G_iconst (pc : Nat) (hC : Cx l D B own cc nL mn R g) {n : Int} (v : Int32) (hv : Int32.ofInt n = v) (hd : decode cc pc = .ok (.iconst n, 1)) (kk : g (pc + 1) ls (vi v :: st) I L N kc ks) : g pc ls (st) I L N kc ks := by
  obtain ⟨p, e, s, m, args, below, meth, c, Q, ⟨hx, hb, hml, ho, hts, hK, hnm⟩, rfl⟩ := hC
  exact fun lr H locs hl hH hS => lv_iconst hx hb hd hv (kk lr H locs hl hH hS)
theorem G_bipush (pc : Nat) (hC : Cx l D B own cc nL mn R g) {n : Int} (v : Int32) (hv : (Int8.ofInt n).toInt32 = v) (hd : decode cc pc = .ok (.bipush n, 2)) (kk : g (pc + 2) ls (vi v :: st) I L N kc ks) : g pc ls (st) I L N kc ks := by
  obtain ⟨p, e, s, m, args, below, meth, c, Q, ⟨hx, hb, hml, ho, hts, hK, hnm⟩, rfl⟩ := hC
  exact fun lr H locs hl hH hS => lv_bipush hx hb hd hv (kk lr H locs hl hH hS)
theorem G_sipush (pc : Nat) (hC : Cx l D B own cc nL mn R g) {n : Int} (v : Int32) (hv : (Int16.ofInt n).toInt32 = v) (hd : decode cc pc = .ok (.sipush n, 3)) (kk : g (pc + 3) ls (vi v :: st) I L N kc ks) : g pc ls (st) I L N kc ks := by
  obtain ⟨p, e, s, m, args, below, meth, c, Q, ⟨hx, hb, hml, ho, hts, hK, hnm⟩, rfl⟩ := hC
  exact fun lr H locs hl hH hS => lv_sipush hx hb hd hv (kk lr H locs hl hH hS)
theorem G_lconst (pc : Nat) (hC : Cx l D B own cc nL mn R g) {n : Fin 2} (v : Int64) (hv : Int64.ofNat (n : Nat) = v) (hd : decode cc pc = .ok (.lconst n, 1)) (kk : g (pc + 1) ls (vl v :: st) I L N kc ks) : g pc ls (st) I L N kc ks := by
  obtain ⟨p, e, s, m, args, below, meth, c, Q, ⟨hx, hb, hml, ho, hts, hK, hnm⟩, rfl⟩ := hC
  exact fun lr H locs hl hH hS => lv_lconst hx hb hd hv (kk lr H locs hl hH hS)
theorem G_ldc (pc : Nat) (hC : Cx l D B own cc nL mn R g) {i : Nat} {v : Int32} (hw : Cond.constant own i v ∈ lw_gd) (hd : decode cc pc = .ok (.ldc i, 2)) (kk : g (pc + 2) ls (vi v :: st) I L N kc ks) : g pc ls (st) I L N kc ks := by
  obtain ⟨p, e, s, m, args, below, meth, c, Q, ⟨hx, hb, hml, ho, hts, hK, hnm⟩, rfl⟩ := hC
  exact fun lr H locs hl hH hS => lv_ldc hx hb ho (hts _ hw) hd (kk lr H locs hl hH hS)
theorem G_ldcw (pc : Nat) (hC : Cx l D B own cc nL mn R g) {i : Nat} {v : Int32} (hw : Cond.constant own i v ∈ lw_gd) (hd : decode cc pc = .ok (.ldc_w i, 3)) (kk : g (pc + 3) ls (vi v :: st) I L N kc ks) : g pc ls (st) I L N kc ks := by
  obtain ⟨p, e, s, m, args, below, meth, c, Q, ⟨hx, hb, hml, ho, hts, hK, hnm⟩, rfl⟩ := hC
  exact fun lr H locs hl hH hS => lv_ldcw hx hb ho (hts _ hw) hd (kk lr H locs hl hH hS)
theorem G_ldc2 (pc : Nat) (hC : Cx l D B own cc nL mn R g) {i : Nat} {v : Int64} (hw : Cond.constantLong own i v ∈ lw_gd) (hd : decode cc pc = .ok (.ldc2_w i, 3)) (kk : g (pc + 3) ls (vl v :: st) I L N kc ks) : g pc ls (st) I L N kc ks := by
  obtain ⟨p, e, s, m, args, below, meth, c, Q, ⟨hx, hb, hml, ho, hts, hK, hnm⟩, rfl⟩ := hC
  exact fun lr H locs hl hH hS => lv_ldc2 hx hb ho (hts _ hw) hd (kk lr H locs hl hH hS)
theorem G_null (pc : Nat) (hC : Cx l D B own cc nL mn R g)  (hd : decode cc pc = .ok (.aconst_null, 1)) (kk : g (pc + 1) ls (vr none :: st) I L N kc ks) : g pc ls (st) I L N kc ks := by
  obtain ⟨p, e, s, m, args, below, meth, c, Q, ⟨hx, hb, hml, ho, hts, hK, hnm⟩, rfl⟩ := hC
  exact fun lr H locs hl hH hS => lv_null hx hb hd (kk lr H locs hl hH hS)
theorem G_iload_n (pc : Nat) (hC : Cx l D B own cc nL mn R g) {k : Fin 4} {x : Int32} (hl0 : ls[(k : Nat)]? = some (some (vi x))) (hd : decode cc pc = .ok (.iload_n k, 1)) (kk : g (pc + 1) ls (vi x :: st) I L N kc ks) : g pc ls (st) I L N kc ks := by
  obtain ⟨p, e, s, m, args, below, meth, c, Q, ⟨hx, hb, hml, ho, hts, hK, hnm⟩, rfl⟩ := hC
  exact fun lr H locs hl hH hS => lv_iload_n hx hb hd rfl (hl.2.2 _ _ hl0) (kk lr H locs hl hH hS)
theorem G_iload (pc : Nat) (hC : Cx l D B own cc nL mn R g) {k : Nat} {x : Int32} (hl0 : ls[k]? = some (some (vi x))) (hd : decode cc pc = .ok (.iload k, 2)) (kk : g (pc + 2) ls (vi x :: st) I L N kc ks) : g pc ls (st) I L N kc ks := by
  obtain ⟨p, e, s, m, args, below, meth, c, Q, ⟨hx, hb, hml, ho, hts, hK, hnm⟩, rfl⟩ := hC
  exact fun lr H locs hl hH hS => lv_iload hx hb hd (hl.2.2 _ _ hl0) (kk lr H locs hl hH hS)
theorem G_lload_n (pc : Nat) (hC : Cx l D B own cc nL mn R g) {k : Fin 4} {x : Int64} (hl0 : ls[(k : Nat)]? = some (some (vl x))) (hd : decode cc pc = .ok (.lload_n k, 1)) (kk : g (pc + 1) ls (vl x :: st) I L N kc ks) : g pc ls (st) I L N kc ks := by
  obtain ⟨p, e, s, m, args, below, meth, c, Q, ⟨hx, hb, hml, ho, hts, hK, hnm⟩, rfl⟩ := hC
  exact fun lr H locs hl hH hS => lv_lload_n hx hb hd rfl (hl.2.2 _ _ hl0) (kk lr H locs hl hH hS)
theorem G_lload (pc : Nat) (hC : Cx l D B own cc nL mn R g) {k : Nat} {x : Int64} (hl0 : ls[k]? = some (some (vl x))) (hd : decode cc pc = .ok (.lload k, 2)) (kk : g (pc + 2) ls (vl x :: st) I L N kc ks) : g pc ls (st) I L N kc ks := by
  obtain ⟨p, e, s, m, args, below, meth, c, Q, ⟨hx, hb, hml, ho, hts, hK, hnm⟩, rfl⟩ := hC
  exact fun lr H locs hl hH hS => lv_lload hx hb hd (hl.2.2 _ _ hl0) (kk lr H locs hl hH hS)
theorem G_aload_n (pc : Nat) (hC : Cx l D B own cc nL mn R g) {k : Fin 4} {r : Option Nat} (hl0 : ls[(k : Nat)]? = some (some (vr r))) (hd : decode cc pc = .ok (.aload_n k, 1)) (kk : g (pc + 1) ls (vr r :: st) I L N kc ks) : g pc ls st I L N kc ks := by
  obtain ⟨p, e, s, m, args, below, meth, c, Q, ⟨hx, hb, hml, ho, hts, hK, hnm⟩, rfl⟩ := hC
  intro lr H locs hl hH hS
  have h0 := hl.2.2 _ _ hl0
  cases r with
  | none => exact lv_aload_nN hx hb hd rfl h0 (kk lr H locs hl hH hS)
  | some a => exact lv_aload_n hx hb hd rfl h0 (kk lr H locs hl hH hS)
theorem G_aload (pc : Nat) (hC : Cx l D B own cc nL mn R g) {k : Nat} {r : Option Nat} (hl0 : ls[k]? = some (some (vr r))) (hd : decode cc pc = .ok (.aload k, 2)) (kk : g (pc + 2) ls (vr r :: st) I L N kc ks) : g pc ls st I L N kc ks := by
  obtain ⟨p, e, s, m, args, below, meth, c, Q, ⟨hx, hb, hml, ho, hts, hK, hnm⟩, rfl⟩ := hC
  intro lr H locs hl hH hS
  have h0 := hl.2.2 _ _ hl0
  cases r with
  | none => exact lv_aloadN hx hb hd h0 (kk lr H locs hl hH hS)
  | some a => exact lv_aload hx hb hd h0 (kk lr H locs hl hH hS)
theorem G_iadd (pc : Nat) (hC : Cx l D B own cc nL mn R g) {x y : Int32} (hd : decode cc pc = .ok (.iadd, 1)) (kk : g (pc + 1) ls (vi (x + y) :: st) I L N kc ks) : g pc ls (vi y :: vi x :: st) I L N kc ks := by
  obtain ⟨p, e, s, m, args, below, meth, c, Q, ⟨hx, hb, hml, ho, hts, hK, hnm⟩, rfl⟩ := hC
  exact fun lr H locs hl hH hS => lv_iadd hx hb hd (kk lr H locs hl hH hS)
theorem G_isub (pc : Nat) (hC : Cx l D B own cc nL mn R g) {x y : Int32} (hd : decode cc pc = .ok (.isub, 1)) (kk : g (pc + 1) ls (vi (x - y) :: st) I L N kc ks) : g pc ls (vi y :: vi x :: st) I L N kc ks := by
  obtain ⟨p, e, s, m, args, below, meth, c, Q, ⟨hx, hb, hml, ho, hts, hK, hnm⟩, rfl⟩ := hC
  exact fun lr H locs hl hH hS => lv_isub hx hb hd (kk lr H locs hl hH hS)
theorem G_imul (pc : Nat) (hC : Cx l D B own cc nL mn R g) {x y : Int32} (hd : decode cc pc = .ok (.imul, 1)) (kk : g (pc + 1) ls (vi (x * y) :: st) I L N kc ks) : g pc ls (vi y :: vi x :: st) I L N kc ks := by
  obtain ⟨p, e, s, m, args, below, meth, c, Q, ⟨hx, hb, hml, ho, hts, hK, hnm⟩, rfl⟩ := hC
  exact fun lr H locs hl hH hS => lv_imul hx hb hd (kk lr H locs hl hH hS)
theorem G_iand (pc : Nat) (hC : Cx l D B own cc nL mn R g) {x y : Int32} (hd : decode cc pc = .ok (.iand, 1)) (kk : g (pc + 1) ls (vi (x &&& y) :: st) I L N kc ks) : g pc ls (vi y :: vi x :: st) I L N kc ks := by
  obtain ⟨p, e, s, m, args, below, meth, c, Q, ⟨hx, hb, hml, ho, hts, hK, hnm⟩, rfl⟩ := hC
  exact fun lr H locs hl hH hS => lv_iand hx hb hd (kk lr H locs hl hH hS)
theorem G_ladd (pc : Nat) (hC : Cx l D B own cc nL mn R g) {x y : Int64} (hd : decode cc pc = .ok (.ladd, 1)) (kk : g (pc + 1) ls (vl (x + y) :: st) I L N kc ks) : g pc ls (vl y :: vl x :: st) I L N kc ks := by
  obtain ⟨p, e, s, m, args, below, meth, c, Q, ⟨hx, hb, hml, ho, hts, hK, hnm⟩, rfl⟩ := hC
  exact fun lr H locs hl hH hS => lv_ladd hx hb hd (kk lr H locs hl hH hS)
theorem G_land (pc : Nat) (hC : Cx l D B own cc nL mn R g) {x y : Int64} (hd : decode cc pc = .ok (.land, 1)) (kk : g (pc + 1) ls (vl (x &&& y) :: st) I L N kc ks) : g pc ls (vl y :: vl x :: st) I L N kc ks := by
  obtain ⟨p, e, s, m, args, below, meth, c, Q, ⟨hx, hb, hml, ho, hts, hK, hnm⟩, rfl⟩ := hC
  exact fun lr H locs hl hH hS => lv_land hx hb hd (kk lr H locs hl hH hS)
theorem G_lor (pc : Nat) (hC : Cx l D B own cc nL mn R g) {x y : Int64} (hd : decode cc pc = .ok (.lor, 1)) (kk : g (pc + 1) ls (vl (x ||| y) :: st) I L N kc ks) : g pc ls (vl y :: vl x :: st) I L N kc ks := by
  obtain ⟨p, e, s, m, args, below, meth, c, Q, ⟨hx, hb, hml, ho, hts, hK, hnm⟩, rfl⟩ := hC
  exact fun lr H locs hl hH hS => lv_lor hx hb hd (kk lr H locs hl hH hS)
theorem G_irem (pc : Nat) (hC : Cx l D B own cc nL mn R g) {x y : Int32} (hne : ¬ y = 0) (hd : decode cc pc = .ok (.irem, 1)) (kk : g (pc + 1) ls (vi (x - x / y * y) :: st) I L N kc ks) : g pc ls (vi y :: vi x :: st) I L N kc ks := by
  obtain ⟨p, e, s, m, args, below, meth, c, Q, ⟨hx, hb, hml, ho, hts, hK, hnm⟩, rfl⟩ := hC
  exact fun lr H locs hl hH hS => lv_irem hx hb hd hne (kk lr H locs hl hH hS)
theorem G_ldiv (pc : Nat) (hC : Cx l D B own cc nL mn R g) {x y : Int64} (hne : ¬ y = 0) (hd : decode cc pc = .ok (.ldiv, 1)) (kk : g (pc + 1) ls (vl (x / y) :: st) I L N kc ks) : g pc ls (vl y :: vl x :: st) I L N kc ks := by
  obtain ⟨p, e, s, m, args, below, meth, c, Q, ⟨hx, hb, hml, ho, hts, hK, hnm⟩, rfl⟩ := hC
  exact fun lr H locs hl hH hS => lv_ldiv hx hb hd hne (kk lr H locs hl hH hS)
theorem G_i2l (pc : Nat) (hC : Cx l D B own cc nL mn R g) {x : Int32} (hd : decode cc pc = .ok (.i2l, 1)) (kk : g (pc + 1) ls (vl x.toInt64 :: st) I L N kc ks) : g pc ls (vi x :: st) I L N kc ks := by
  obtain ⟨p, e, s, m, args, below, meth, c, Q, ⟨hx, hb, hml, ho, hts, hK, hnm⟩, rfl⟩ := hC
  exact fun lr H locs hl hH hS => lv_i2l hx hb hd rfl (kk lr H locs hl hH hS)
theorem G_l2i (pc : Nat) (hC : Cx l D B own cc nL mn R g) {x : Int64} (hd : decode cc pc = .ok (.l2i, 1)) (kk : g (pc + 1) ls (vi x.toInt32 :: st) I L N kc ks) : g pc ls (vl x :: st) I L N kc ks := by
  obtain ⟨p, e, s, m, args, below, meth, c, Q, ⟨hx, hb, hml, ho, hts, hK, hnm⟩, rfl⟩ := hC
  exact fun lr H locs hl hH hS => lv_l2i hx hb hd rfl (kk lr H locs hl hH hS)
theorem G_i2b (pc : Nat) (hC : Cx l D B own cc nL mn R g) {x : Int32} (hd : decode cc pc = .ok (.i2b, 1)) (kk : g (pc + 1) ls (vi x.toInt8.toInt32 :: st) I L N kc ks) : g pc ls (vi x :: st) I L N kc ks := by
  obtain ⟨p, e, s, m, args, below, meth, c, Q, ⟨hx, hb, hml, ho, hts, hK, hnm⟩, rfl⟩ := hC
  exact fun lr H locs hl hH hS => lv_i2b hx hb hd rfl (kk lr H locs hl hH hS)
theorem G_i2s (pc : Nat) (hC : Cx l D B own cc nL mn R g) {x : Int32} (hd : decode cc pc = .ok (.i2s, 1)) (kk : g (pc + 1) ls (vi x.toInt16.toInt32 :: st) I L N kc ks) : g pc ls (vi x :: st) I L N kc ks := by
  obtain ⟨p, e, s, m, args, below, meth, c, Q, ⟨hx, hb, hml, ho, hts, hK, hnm⟩, rfl⟩ := hC
  exact fun lr H locs hl hH hS => lv_i2s hx hb hd rfl (kk lr H locs hl hH hS)
theorem G_lshl (pc : Nat) (hC : Cx l D B own cc nL mn R g) {x : Int64} {y : Int32} (hd : decode cc pc = .ok (.lshl, 1)) (kk : g (pc + 1) ls (vl (x <<< (y.toInt64 &&& 63)) :: st) I L N kc ks) : g pc ls (vi y :: vl x :: st) I L N kc ks := by
  obtain ⟨p, e, s, m, args, below, meth, c, Q, ⟨hx, hb, hml, ho, hts, hK, hnm⟩, rfl⟩ := hC
  exact fun lr H locs hl hH hS => lv_lshl hx hb hd rfl (kk lr H locs hl hH hS)
theorem G_lcmp (pc : Nat) (hC : Cx l D B own cc nL mn R g) {x y : Int64} (hd : decode cc pc = .ok (.lcmp, 1)) (kk : g (pc + 1) ls (vi (lg_cmp x y) :: st) I L N kc ks) : g pc ls (vl y :: vl x :: st) I L N kc ks := by
  obtain ⟨p, e, s, m, args, below, meth, c, Q, ⟨hx, hb, hml, ho, hts, hK, hnm⟩, rfl⟩ := hC
  exact fun lr H locs hl hH hS => W.lcmp hx hb hd (kk lr H locs hl hH hS)
theorem G_l2f (pc : Nat) (hC : Cx l D B own cc nL mn R g) {x : Int64} (hd : decode cc pc = .ok (.l2f, 1)) (kk : g (pc + 1) ls (vf (FP.l2f x) :: st) I L N kc ks) : g pc ls (vl x :: st) I L N kc ks := by
  obtain ⟨p, e, s, m, args, below, meth, c, Q, ⟨hx, hb, hml, ho, hts, hK, hnm⟩, rfl⟩ := hC
  exact fun lr H locs hl hH hS => lv_l2f hx hb hd (kk lr H locs hl hH hS)
theorem G_l2d (pc : Nat) (hC : Cx l D B own cc nL mn R g) {x : Int64} (hd : decode cc pc = .ok (.l2d, 1)) (kk : g (pc + 1) ls (vd (FP.l2d x) :: st) I L N kc ks) : g pc ls (vl x :: st) I L N kc ks := by
  obtain ⟨p, e, s, m, args, below, meth, c, Q, ⟨hx, hb, hml, ho, hts, hK, hnm⟩, rfl⟩ := hC
  exact fun lr H locs hl hH hS => lv_l2d hx hb hd (kk lr H locs hl hH hS)
theorem G_f2l (pc : Nat) (hC : Cx l D B own cc nL mn R g) {x : UInt32} (hd : decode cc pc = .ok (.f2l, 1)) (kk : g (pc + 1) ls (vl (FP.f2l x) :: st) I L N kc ks) : g pc ls (vf x :: st) I L N kc ks := by
  obtain ⟨p, e, s, m, args, below, meth, c, Q, ⟨hx, hb, hml, ho, hts, hK, hnm⟩, rfl⟩ := hC
  exact fun lr H locs hl hH hS => lv_f2l hx hb hd (kk lr H locs hl hH hS)
theorem G_d2l (pc : Nat) (hC : Cx l D B own cc nL mn R g) {x : UInt64} (hd : decode cc pc = .ok (.d2l, 1)) (kk : g (pc + 1) ls (vl (FP.d2l x) :: st) I L N kc ks) : g pc ls (vd x :: st) I L N kc ks := by
  obtain ⟨p, e, s, m, args, below, meth, c, Q, ⟨hx, hb, hml, ho, hts, hK, hnm⟩, rfl⟩ := hC
  exact fun lr H locs hl hH hS => lv_d2l hx hb hd (kk lr H locs hl hH hS)
theorem G_fmul (pc : Nat) (hC : Cx l D B own cc nL mn R g) {x y : UInt32} (hne : vf_n32 (FP.fmul x y)) (hd : decode cc pc = .ok (.fmul, 1)) (kk : g (pc + 1) ls (vf (FP.fmul x y) :: st) I L N kc ks) : g pc ls (vf y :: vf x :: st) I L N kc ks := by
  obtain ⟨p, e, s, m, args, below, meth, c, Q, ⟨hx, hb, hml, ho, hts, hK, hnm⟩, rfl⟩ := hC
  exact fun lr H locs hl hH hS => lv_fmul hx hb hd hne (kk lr H locs hl hH hS)
theorem G_fdiv (pc : Nat) (hC : Cx l D B own cc nL mn R g) {x y : UInt32} (hne : vf_n32 (FP.fdiv x y)) (hd : decode cc pc = .ok (.fdiv, 1)) (kk : g (pc + 1) ls (vf (FP.fdiv x y) :: st) I L N kc ks) : g pc ls (vf y :: vf x :: st) I L N kc ks := by
  obtain ⟨p, e, s, m, args, below, meth, c, Q, ⟨hx, hb, hml, ho, hts, hK, hnm⟩, rfl⟩ := hC
  exact fun lr H locs hl hH hS => lv_fdiv hx hb hd hne (kk lr H locs hl hH hS)
theorem G_dmul (pc : Nat) (hC : Cx l D B own cc nL mn R g) {x y : UInt64} (hne : vf_n64 (FP.dmul x y)) (hd : decode cc pc = .ok (.dmul, 1)) (kk : g (pc + 1) ls (vd (FP.dmul x y) :: st) I L N kc ks) : g pc ls (vd y :: vd x :: st) I L N kc ks := by
  obtain ⟨p, e, s, m, args, below, meth, c, Q, ⟨hx, hb, hml, ho, hts, hK, hnm⟩, rfl⟩ := hC
  exact fun lr H locs hl hH hS => lv_dmul hx hb hd hne (kk lr H locs hl hH hS)
theorem G_ddiv (pc : Nat) (hC : Cx l D B own cc nL mn R g) {x y : UInt64} (hne : vf_n64 (FP.ddiv x y)) (hd : decode cc pc = .ok (.ddiv, 1)) (kk : g (pc + 1) ls (vd (FP.ddiv x y) :: st) I L N kc ks) : g pc ls (vd y :: vd x :: st) I L N kc ks := by
  obtain ⟨p, e, s, m, args, below, meth, c, Q, ⟨hx, hb, hml, ho, hts, hK, hnm⟩, rfl⟩ := hC
  exact fun lr H locs hl hH hS => lv_ddiv hx hb hd hne (kk lr H locs hl hH hS)
theorem G_ldcf (pc : Nat) (hC : Cx l D B own cc nL mn R g) {i : Nat} {v : UInt32} (hw : Cond.constantFloat own i v ∈ lw_gd) (hd : decode cc pc = .ok (.ldc i, 2)) (kk : g (pc + 2) ls (vf v :: st) I L N kc ks) : g pc ls (st) I L N kc ks := by
  obtain ⟨p, e, s, m, args, below, meth, c, Q, ⟨hx, hb, hml, ho, hts, hK, hnm⟩, rfl⟩ := hC
  exact fun lr H locs hl hH hS => lv_ldcf hx hb ho (hts _ hw) hd (kk lr H locs hl hH hS)
theorem G_ldc2d (pc : Nat) (hC : Cx l D B own cc nL mn R g) {i : Nat} {v : UInt64} (hw : Cond.constantDouble own i v ∈ lw_gd) (hd : decode cc pc = .ok (.ldc2_w i, 3)) (kk : g (pc + 3) ls (vd v :: st) I L N kc ks) : g pc ls (st) I L N kc ks := by
  obtain ⟨p, e, s, m, args, below, meth, c, Q, ⟨hx, hb, hml, ho, hts, hK, hnm⟩, rfl⟩ := hC
  exact fun lr H locs hl hH hS => lv_ldc2d hx hb ho (hts _ hw) hd (kk lr H locs hl hH hS)
theorem G_dup (pc : Nat) (hC : Cx l D B own cc nL mn R g) {v : MV} (h1 : mcat v = 1) (hd : decode cc pc = .ok (.dup, 1)) (kk : g (pc + 1) ls (v :: v :: st) I L N kc ks) : g pc ls (v :: st) I L N kc ks := by
  obtain ⟨p, e, s, m, args, below, meth, c, Q, ⟨hx, hb, hml, ho, hts, hK, hnm⟩, rfl⟩ := hC
  exact fun lr H locs hl hH hS => lv_dup hx hb hd (by rw [mcat_ok]; exact h1) (kk lr H locs hl hH hS)
theorem G_pop (pc : Nat) (hC : Cx l D B own cc nL mn R g) {v : MV} (h1 : mcat v = 1) (hd : decode cc pc = .ok (.pop, 1)) (kk : g (pc + 1) ls (st) I L N kc ks) : g pc ls (v :: st) I L N kc ks := by
  obtain ⟨p, e, s, m, args, below, meth, c, Q, ⟨hx, hb, hml, ho, hts, hK, hnm⟩, rfl⟩ := hC
  exact fun lr H locs hl hH hS => lv_pop hx hb hd (by rw [mcat_ok]; exact h1) (kk lr H locs hl hH hS)
theorem G_dup_x1 (pc : Nat) (hC : Cx l D B own cc nL mn R g) {v w : MV} (h1 : mcat v = 1) (h2 : mcat w = 1) (hd : decode cc pc = .ok (.dup_x1, 1)) (kk : g (pc + 1) ls (v :: w :: v :: st) I L N kc ks) : g pc ls (v :: w :: st) I L N kc ks := by
  obtain ⟨p, e, s, m, args, below, meth, c, Q, ⟨hx, hb, hml, ho, hts, hK, hnm⟩, rfl⟩ := hC
  exact fun lr H locs hl hH hS => lv_dup_x1 hx hb hd (by rw [mcat_ok]; exact h1) (by rw [mcat_ok]; exact h2) (kk lr H locs hl hH hS)
theorem G_dup2 (pc : Nat) (hC : Cx l D B own cc nL mn R g) {v w : MV} (h1 : mcat v = 1) (h2 : mcat w = 1) (hd : decode cc pc = .ok (.dup2, 1)) (kk : g (pc + 1) ls (v :: w :: v :: w :: st) I L N kc ks) : g pc ls (v :: w :: st) I L N kc ks := by
  obtain ⟨p, e, s, m, args, below, meth, c, Q, ⟨hx, hb, hml, ho, hts, hK, hnm⟩, rfl⟩ := hC
  exact fun lr H locs hl hH hS => lv_dup2_11 hx hb hd (by rw [mcat_ok]; exact h1) (by rw [mcat_ok]; exact h2) (kk lr H locs hl hH hS)
theorem G_dup2L (pc : Nat) (hC : Cx l D B own cc nL mn R g) {x : Int64} (hd : decode cc pc = .ok (.dup2, 1)) (kk : g (pc + 1) ls (vl x :: vl x :: st) I L N kc ks) : g pc ls (vl x :: st) I L N kc ks := by
  obtain ⟨p, e, s, m, args, below, meth, c, Q, ⟨hx, hb, hml, ho, hts, hK, hnm⟩, rfl⟩ := hC
  exact fun lr H locs hl hH hS => lv_dup2_2 hx hb hd rfl (kk lr H locs hl hH hS)
theorem G_if_eq (pc tgt : Nat) (hC : Cx l D B own cc nL mn R g) {x : Int32} {off : Int} (hd : decode cc pc = .ok (.ifCond .eq off, 3)) (ht : (pc : Int) + off = (tgt : Int)) (kt : x = 0 → g tgt ls st I L N kc ks) (kf : ¬ x = 0 → g (pc + 3) ls st I L N kc ks) : g pc ls (vi x :: st) I L N kc ks := by
  obtain ⟨p, e, s, m, args, below, meth, c, Q, ⟨hx, hb, hml, ho, hts, hK, hnm⟩, rfl⟩ := hC
  exact fun lr H locs hl hH hS => lv_if_eq hx hb hd ht (fun h => kt h lr H locs hl hH hS) (fun h => kf h lr H locs hl hH hS)
theorem G_icmp_eq (pc tgt : Nat) (hC : Cx l D B own cc nL mn R g) {x y : Int32} {off : Int} (hd : decode cc pc = .ok (.if_icmp .eq off, 3)) (ht : (pc : Int) + off = (tgt : Int)) (kt : x = y → g tgt ls st I L N kc ks) (kf : ¬ x = y → g (pc + 3) ls st I L N kc ks) : g pc ls (vi y :: vi x :: st) I L N kc ks := by
  obtain ⟨p, e, s, m, args, below, meth, c, Q, ⟨hx, hb, hml, ho, hts, hK, hnm⟩, rfl⟩ := hC
  exact fun lr H locs hl hH hS => lv_icmp_eq hx hb hd ht (fun h => kt h lr H locs hl hH hS) (fun h => kf h lr H locs hl hH hS)
theorem G_if_ne (pc tgt : Nat) (hC : Cx l D B own cc nL mn R g) {x : Int32} {off : Int} (hd : decode cc pc = .ok (.ifCond .ne off, 3)) (ht : (pc : Int) + off = (tgt : Int)) (kt : ¬ x = 0 → g tgt ls st I L N kc ks) (kf : x = 0 → g (pc + 3) ls st I L N kc ks) : g pc ls (vi x :: st) I L N kc ks := by
  obtain ⟨p, e, s, m, args, below, meth, c, Q, ⟨hx, hb, hml, ho, hts, hK, hnm⟩, rfl⟩ := hC
  exact fun lr H locs hl hH hS => lv_if_ne hx hb hd ht (fun h => kt h lr H locs hl hH hS) (fun h => kf h lr H locs hl hH hS)
theorem G_icmp_ne (pc tgt : Nat) (hC : Cx l D B own cc nL mn R g) {x y : Int32} {off : Int} (hd : decode cc pc = .ok (.if_icmp .ne off, 3)) (ht : (pc : Int) + off = (tgt : Int)) (kt : ¬ x = y → g tgt ls st I L N kc ks) (kf : x = y → g (pc + 3) ls st I L N kc ks) : g pc ls (vi y :: vi x :: st) I L N kc ks := by
  obtain ⟨p, e, s, m, args, below, meth, c, Q, ⟨hx, hb, hml, ho, hts, hK, hnm⟩, rfl⟩ := hC
  exact fun lr H locs hl hH hS => lv_icmp_ne hx hb hd ht (fun h => kt h lr H locs hl hH hS) (fun h => kf h lr H locs hl hH hS)
theorem G_if_lt (pc tgt : Nat) (hC : Cx l D B own cc nL mn R g) {x : Int32} {off : Int} (hd : decode cc pc = .ok (.ifCond .lt off, 3)) (ht : (pc : Int) + off = (tgt : Int)) (kt : x < 0 → g tgt ls st I L N kc ks) (kf : ¬ x < 0 → g (pc + 3) ls st I L N kc ks) : g pc ls (vi x :: st) I L N kc ks := by
  obtain ⟨p, e, s, m, args, below, meth, c, Q, ⟨hx, hb, hml, ho, hts, hK, hnm⟩, rfl⟩ := hC
  exact fun lr H locs hl hH hS => lv_if_lt hx hb hd ht (fun h => kt h lr H locs hl hH hS) (fun h => kf h lr H locs hl hH hS)
theorem G_icmp_lt (pc tgt : Nat) (hC : Cx l D B own cc nL mn R g) {x y : Int32} {off : Int} (hd : decode cc pc = .ok (.if_icmp .lt off, 3)) (ht : (pc : Int) + off = (tgt : Int)) (kt : x < y → g tgt ls st I L N kc ks) (kf : ¬ x < y → g (pc + 3) ls st I L N kc ks) : g pc ls (vi y :: vi x :: st) I L N kc ks := by
  obtain ⟨p, e, s, m, args, below, meth, c, Q, ⟨hx, hb, hml, ho, hts, hK, hnm⟩, rfl⟩ := hC
  exact fun lr H locs hl hH hS => lv_icmp_lt hx hb hd ht (fun h => kt h lr H locs hl hH hS) (fun h => kf h lr H locs hl hH hS)
theorem G_if_ge (pc tgt : Nat) (hC : Cx l D B own cc nL mn R g) {x : Int32} {off : Int} (hd : decode cc pc = .ok (.ifCond .ge off, 3)) (ht : (pc : Int) + off = (tgt : Int)) (kt : 0 ≤ x → g tgt ls st I L N kc ks) (kf : ¬ 0 ≤ x → g (pc + 3) ls st I L N kc ks) : g pc ls (vi x :: st) I L N kc ks := by
  obtain ⟨p, e, s, m, args, below, meth, c, Q, ⟨hx, hb, hml, ho, hts, hK, hnm⟩, rfl⟩ := hC
  exact fun lr H locs hl hH hS => lv_if_ge hx hb hd ht (fun h => kt h lr H locs hl hH hS) (fun h => kf h lr H locs hl hH hS)
theorem G_icmp_ge (pc tgt : Nat) (hC : Cx l D B own cc nL mn R g) {x y : Int32} {off : Int} (hd : decode cc pc = .ok (.if_icmp .ge off, 3)) (ht : (pc : Int) + off = (tgt : Int)) (kt : y ≤ x → g tgt ls st I L N kc ks) (kf : ¬ y ≤ x → g (pc + 3) ls st I L N kc ks) : g pc ls (vi y :: vi x :: st) I L N kc ks := by
  obtain ⟨p, e, s, m, args, below, meth, c, Q, ⟨hx, hb, hml, ho, hts, hK, hnm⟩, rfl⟩ := hC
  exact fun lr H locs hl hH hS => lv_icmp_ge hx hb hd ht (fun h => kt h lr H locs hl hH hS) (fun h => kf h lr H locs hl hH hS)
theorem G_if_gt (pc tgt : Nat) (hC : Cx l D B own cc nL mn R g) {x : Int32} {off : Int} (hd : decode cc pc = .ok (.ifCond .gt off, 3)) (ht : (pc : Int) + off = (tgt : Int)) (kt : 0 < x → g tgt ls st I L N kc ks) (kf : ¬ 0 < x → g (pc + 3) ls st I L N kc ks) : g pc ls (vi x :: st) I L N kc ks := by
  obtain ⟨p, e, s, m, args, below, meth, c, Q, ⟨hx, hb, hml, ho, hts, hK, hnm⟩, rfl⟩ := hC
  exact fun lr H locs hl hH hS => lv_if_gt hx hb hd ht (fun h => kt h lr H locs hl hH hS) (fun h => kf h lr H locs hl hH hS)
theorem G_icmp_gt (pc tgt : Nat) (hC : Cx l D B own cc nL mn R g) {x y : Int32} {off : Int} (hd : decode cc pc = .ok (.if_icmp .gt off, 3)) (ht : (pc : Int) + off = (tgt : Int)) (kt : y < x → g tgt ls st I L N kc ks) (kf : ¬ y < x → g (pc + 3) ls st I L N kc ks) : g pc ls (vi y :: vi x :: st) I L N kc ks := by
  obtain ⟨p, e, s, m, args, below, meth, c, Q, ⟨hx, hb, hml, ho, hts, hK, hnm⟩, rfl⟩ := hC
  exact fun lr H locs hl hH hS => lv_icmp_gt hx hb hd ht (fun h => kt h lr H locs hl hH hS) (fun h => kf h lr H locs hl hH hS)
theorem G_if_le (pc tgt : Nat) (hC : Cx l D B own cc nL mn R g) {x : Int32} {off : Int} (hd : decode cc pc = .ok (.ifCond .le off, 3)) (ht : (pc : Int) + off = (tgt : Int)) (kt : x ≤ 0 → g tgt ls st I L N kc ks) (kf : ¬ x ≤ 0 → g (pc + 3) ls st I L N kc ks) : g pc ls (vi x :: st) I L N kc ks := by
  obtain ⟨p, e, s, m, args, below, meth, c, Q, ⟨hx, hb, hml, ho, hts, hK, hnm⟩, rfl⟩ := hC
  exact fun lr H locs hl hH hS => lv_if_le hx hb hd ht (fun h => kt h lr H locs hl hH hS) (fun h => kf h lr H locs hl hH hS)
theorem G_icmp_le (pc tgt : Nat) (hC : Cx l D B own cc nL mn R g) {x y : Int32} {off : Int} (hd : decode cc pc = .ok (.if_icmp .le off, 3)) (ht : (pc : Int) + off = (tgt : Int)) (kt : x ≤ y → g tgt ls st I L N kc ks) (kf : ¬ x ≤ y → g (pc + 3) ls st I L N kc ks) : g pc ls (vi y :: vi x :: st) I L N kc ks := by
  obtain ⟨p, e, s, m, args, below, meth, c, Q, ⟨hx, hb, hml, ho, hts, hK, hnm⟩, rfl⟩ := hC
  exact fun lr H locs hl hH hS => lv_icmp_le hx hb hd ht (fun h => kt h lr H locs hl hH hS) (fun h => kf h lr H locs hl hH hS)
theorem G_goto (pc tgt : Nat) (hC : Cx l D B own cc nL mn R g) {off : Int} (hd : decode cc pc = .ok (.goto off, 3)) (ht : (pc : Int) + off = (tgt : Int)) (kk : g tgt ls st I L N kc ks) : g pc ls st I L N kc ks := by
  obtain ⟨p, e, s, m, args, below, meth, c, Q, ⟨hx, hb, hml, ho, hts, hK, hnm⟩, rfl⟩ := hC
  exact fun lr H locs hl hH hS => lv_goto hx hb hd ht (kk lr H locs hl hH hS)
theorem G_ifnull (pc tgt : Nat) (hC : Cx l D B own cc nL mn R g) {r : Option Nat} {off : Int} (hd : decode cc pc = .ok (.ifnull off, 3)) (ht : (pc : Int) + off = (tgt : Int)) (kn : r = none → g tgt ls st I L N kc ks) (ks1 : ∀ a, r = some a → g (pc + 3) ls st I L N kc ks) : g pc ls (vr r :: st) I L N kc ks := by
  obtain ⟨p, e, s, m, args, below, meth, c, Q, ⟨hx, hb, hml, ho, hts, hK, hnm⟩, rfl⟩ := hC
  intro lr H locs hl hH hS
  cases r with
  | none => exact lv_ifnullN hx hb hd ht (kn rfl lr H locs hl hH hS)
  | some a => exact lv_ifnull hx hb hd (ks1 a rfl lr H locs hl hH hS)
theorem G_ifnonnull (pc tgt : Nat) (hC : Cx l D B own cc nL mn R g) {r : Option Nat} {off : Int} (hd : decode cc pc = .ok (.ifnonnull off, 3)) (ht : (pc : Int) + off = (tgt : Int)) (kn : r = none → g (pc + 3) ls st I L N kc ks) (ks1 : ∀ a, r = some a → g tgt ls st I L N kc ks) : g pc ls (vr r :: st) I L N kc ks := by
  obtain ⟨p, e, s, m, args, below, meth, c, Q, ⟨hx, hb, hml, ho, hts, hK, hnm⟩, rfl⟩ := hC
  intro lr H locs hl hH hS
  cases r with
  | none => exact lv_ifnonnullN hx hb hd (kn rfl lr H locs hl hH hS)
  | some a => exact lv_ifnonnull hx hb hd ht (ks1 a rfl lr H locs hl hH hS)
theorem G_tableIn (pc : Nat) (off : Int) (tgt : Nat) (hC : Cx l D B own cc nL mn R g) {dflt lo hi : Int} {offs : Array Int} {len : Nat} {x : Int32} (hd : decode cc pc = .ok (.tableswitch dflt lo hi offs, len)) (h1 : ¬ x.toInt < lo) (h2 : ¬ hi < x.toInt) (ho : offs[(x.toInt - lo).toNat]? = some off) (ht : (pc : Int) + off = (tgt : Int)) (kk : g tgt ls st I L N kc ks) : g pc ls (vi x :: st) I L N kc ks := by
  obtain ⟨p, e, s, m, args, below, meth, c, Q, ⟨hx, hb, hml, ho2, hts, hK, hnm⟩, rfl⟩ := hC
  exact fun lr H locs hl hH hS => lv_tableIn hx hb hd h1 h2 ho ht (kk lr H locs hl hH hS)
theorem G_tableOut (pc tgt : Nat) (hC : Cx l D B own cc nL mn R g) {dflt lo hi : Int} {offs : Array Int} {len : Nat} {x : Int32} (hd : decode cc pc = .ok (.tableswitch dflt lo hi offs, len)) (h : x.toInt < lo ∨ hi < x.toInt) (ht : (pc : Int) + dflt = (tgt : Int)) (kk : g tgt ls st I L N kc ks) : g pc ls (vi x :: st) I L N kc ks := by
  obtain ⟨p, e, s, m, args, below, meth, c, Q, ⟨hx, hb, hml, ho, hts, hK, hnm⟩, rfl⟩ := hC
  exact fun lr H locs hl hH hS => lv_tableOut hx hb hd h ht (kk lr H locs hl hH hS)
/-- a store at i: what lay at i, and a long that began just ahead of it, are gone -/
def lclr (ls : List (Option MV)) : Nat → List (Option MV)
  | 0 => ls
  | j + 1 => match ls[j]? with
    | some (some v) => if mcat v = 2 then ls.set j none else ls
    | _ => ls
def lset1 (ls : List (Option MV)) (i : Nat) (v : MV) : List (Option MV) := (lclr ls i).set i (some v)
def lset2 (ls : List (Option MV)) (i : Nat) (v : MV) : List (Option MV) := ((lclr ls i).set i (some v)).set (i + 1) none
def lasc (ls : List (Option MV)) : List (Nat × Value) := (List.range ls.length).filterMap (fun i => match ls[i]? with
  | some (some v) => some (i, mv v)
  | _ => none)
theorem lasc_mem {ls : List (Option MV)} {i : Nat} {v : MV} (h : ls[i]? = some (some v)) : (i, mv v) ∈ lasc ls := by
  unfold lasc
  refine List.mem_filterMap.mpr ⟨i, List.mem_range.mpr (List.getElem?_eq_some_iff.mp h).1, ?_⟩
  rw [h]
theorem LocR.has {lr : Array Slot} {nL : Nat} {ls : List (Option MV)} (h : LocR lr nL ls) : lv_has lr nL (lasc ls) := by
  refine ⟨h.1, h.2.1, fun q hq => ?_⟩
  unfold lasc at hq
  obtain ⟨i, -, hi⟩ := List.mem_filterMap.mp hq
  cases hv : ls[i]? with
  | none => rw [hv] at hi; cases hi
  | some o =>
    cases o with
    | none => rw [hv] at hi; cases hi
    | some v => rw [hv] at hi; cases hi; exact h.2.2 i v hv
theorem lclr_ne {ls : List (Option MV)} {i j : Nat} {w : MV} (h : (lclr ls i)[j]? = some (some w)) : ls[j]? = some (some w) ∧ (j + 1 = i → mcat w ≠ 2) := by
  cases i with
  | zero => exact ⟨h, fun q => by omega⟩
  | succ k =>
    cases hv : ls[k]? with
    | none =>
      have e : lclr ls (k + 1) = ls := by simp [lclr, hv]
      rw [e] at h
      refine ⟨h, fun q => ?_⟩
      have : j = k := by omega
      subst this
      rw [hv] at h
      cases h
    | some o =>
      cases o with
      | none =>
        have e : lclr ls (k + 1) = ls := by simp [lclr, hv]
        rw [e] at h
        refine ⟨h, fun q => ?_⟩
        have : j = k := by omega
        subst this
        rw [hv] at h
        cases h
      | some v =>
        by_cases hc : mcat v = 2
        · have e : lclr ls (k + 1) = ls.set k none := by simp [lclr, hv, hc]
          rw [e] at h
          by_cases hjk : j = k
          · subst hjk
            rw [List.getElem?_set_self (List.getElem?_eq_some_iff.mp hv).1] at h
            cases h
          · rw [List.getElem?_set_ne (fun q => hjk q.symm)] at h
            exact ⟨h, fun q => absurd (by omega) hjk⟩
        · have e : lclr ls (k + 1) = ls := by simp [lclr, hv, hc]
          rw [e] at h
          refine ⟨h, fun q => ?_⟩
          have : j = k := by omega
          subst this
          rw [hv] at h
          cases h
          exact hc
theorem LocR.st1 {lr : Array Slot} {nL i : Nat} {ls : List (Option MV)} {v : MV} (h : lv_has lr nL ((i, mv v) :: (lasc ls).filter (fun q => !(q.1 == i) && !(q.1 + 1 == i && q.2.category == 2)))) : LocR lr nL (lset1 ls i v) := by
  refine ⟨h.1, h.2.1, fun j w hj => ?_⟩
  unfold lset1 at hj
  by_cases hji : j = i
  · subst hji
    have hlt : j < (lclr ls j).length := by
      have := (List.getElem?_eq_some_iff.mp hj).1
      simpa using this
    rw [List.getElem?_set_self hlt] at hj
    cases hj
    exact h.2.2 _ List.mem_cons_self
  · rw [List.getElem?_set_ne (fun q => hji q.symm)] at hj
    obtain ⟨h1, h2⟩ := lclr_ne hj
    refine h.2.2 (j, mv w) (List.mem_cons_of_mem _ (List.mem_filter.mpr ⟨lasc_mem h1, ?_⟩))
    simp only [mcat_ok, Bool.and_eq_true, Bool.not_eq_true', beq_eq_false_iff_ne, ne_eq, Bool.and_eq_false_iff]
    refine ⟨hji, ?_⟩
    by_cases q : j + 1 = i
    · exact Or.inr (h2 q)
    · exact Or.inl q
theorem LocR.st2 {lr : Array Slot} {nL i : Nat} {ls : List (Option MV)} {v : MV} (h : lv_has lr nL ((i, mv v) :: (lasc ls).filter (fun q => !(q.1 == i) && (!(q.1 == i + 1) && !(q.1 + 1 == i && q.2.category == 2))))) : LocR lr nL (lset2 ls i v) := by
  refine ⟨h.1, h.2.1, fun j w hj => ?_⟩
  unfold lset2 at hj
  by_cases hj1 : j = i + 1
  · subst hj1
    have hlt : i + 1 < ((lclr ls i).set i (some v)).length := by
      have := (List.getElem?_eq_some_iff.mp hj).1
      simpa using this
    rw [List.getElem?_set_self hlt] at hj
    cases hj
  · rw [List.getElem?_set_ne (fun q => hj1 q.symm)] at hj
    by_cases hji : j = i
    · subst hji
      have hlt : j < (lclr ls j).length := by
        have := (List.getElem?_eq_some_iff.mp hj).1
        simpa using this
      rw [List.getElem?_set_self hlt] at hj
      cases hj
      exact h.2.2 _ List.mem_cons_self
    · rw [List.getElem?_set_ne (fun q => hji q.symm)] at hj
      obtain ⟨h1, h2⟩ := lclr_ne hj
      refine h.2.2 (j, mv w) (List.mem_cons_of_mem _ (List.mem_filter.mpr ⟨lasc_mem h1, ?_⟩))
      simp only [mcat_ok, Bool.and_eq_true, Bool.not_eq_true', beq_eq_false_iff_ne, ne_eq, Bool.and_eq_false_iff]
      refine ⟨hji, hj1, ?_⟩
      by_cases q : j + 1 = i
      · exact Or.inr (h2 q)
      · exact Or.inl q
theorem G_istore_n (pc : Nat) (hC : Cx l D B own cc nL mn R g) {k : Fin 4} (i : Nat) (hi : (k : Nat) = i) {x : Int32} (hn : i < nL) (hl' : lset1 ls i (vi x) = ls') (hd : decode cc pc = .ok (.istore_n k, 1)) (kk : g (pc + 1) ls' st I L N kc ks) : g pc ls (vi x :: st) I L N kc ks := by
  obtain ⟨p, e, s, m, args, below, meth, c, Q, ⟨hx, hb, hml, ho, hts, hK, hnm⟩, rfl⟩ := hC
  exact fun lr H locs hl hH hS => lv_istore_n hx hb hd hi hl.has hn rfl (fun lr' h' => kk lr' H locs (hl' ▸ LocR.st1 h') hH hS)
theorem G_istore (pc : Nat) (hC : Cx l D B own cc nL mn R g) {i : Nat} {x : Int32} (hn : i < nL) (hl' : lset1 ls i (vi x) = ls') (hd : decode cc pc = .ok (.istore i, 2)) (kk : g (pc + 2) ls' st I L N kc ks) : g pc ls (vi x :: st) I L N kc ks := by
  obtain ⟨p, e, s, m, args, below, meth, c, Q, ⟨hx, hb, hml, ho, hts, hK, hnm⟩, rfl⟩ := hC
  exact fun lr H locs hl hH hS => lv_istore hx hb hd hl.has hn rfl (fun lr' h' => kk lr' H locs (hl' ▸ LocR.st1 h') hH hS)
theorem G_lstore_n (pc : Nat) (hC : Cx l D B own cc nL mn R g) {k : Fin 4} (i : Nat) (hi : (k : Nat) = i) {x : Int64} (hn : i + 1 < nL) (hl' : lset2 ls i (vl x) = ls') (hd : decode cc pc = .ok (.lstore_n k, 1)) (kk : g (pc + 1) ls' st I L N kc ks) : g pc ls (vl x :: st) I L N kc ks := by
  obtain ⟨p, e, s, m, args, below, meth, c, Q, ⟨hx, hb, hml, ho, hts, hK, hnm⟩, rfl⟩ := hC
  exact fun lr H locs hl hH hS => lv_lstore_n hx hb hd hi hl.has hn rfl (fun lr' h' => kk lr' H locs (hl' ▸ LocR.st2 h') hH hS)
theorem G_lstore (pc : Nat) (hC : Cx l D B own cc nL mn R g) {i : Nat} {x : Int64} (hn : i + 1 < nL) (hl' : lset2 ls i (vl x) = ls') (hd : decode cc pc = .ok (.lstore i, 2)) (kk : g (pc + 2) ls' st I L N kc ks) : g pc ls (vl x :: st) I L N kc ks := by
  obtain ⟨p, e, s, m, args, below, meth, c, Q, ⟨hx, hb, hml, ho, hts, hK, hnm⟩, rfl⟩ := hC
  exact fun lr H locs hl hH hS => lv_lstore hx hb hd hl.has hn rfl (fun lr' h' => kk lr' H locs (hl' ▸ LocR.st2 h') hH hS)
theorem G_astore_n (pc : Nat) (hC : Cx l D B own cc nL mn R g) {k : Fin 4} (i : Nat) (hi : (k : Nat) = i) {r : Option Nat} (hn : i < nL) (hl' : lset1 ls i (vr r) = ls') (hd : decode cc pc = .ok (.astore_n k, 1)) (kk : g (pc + 1) ls' st I L N kc ks) : g pc ls (vr r :: st) I L N kc ks := by
  obtain ⟨p, e, s, m, args, below, meth, c, Q, ⟨hx, hb, hml, ho, hts, hK, hnm⟩, rfl⟩ := hC
  intro lr H locs hl hH hS
  cases r with
  | none => exact lv_astore_nN hx hb hd hi hl.has hn rfl (fun lr' h' => kk lr' H locs (hl' ▸ LocR.st1 (v := vr none) h') hH hS)
  | some a => exact lv_astore_n hx hb hd hi hl.has hn rfl (fun lr' h' => kk lr' H locs (hl' ▸ LocR.st1 (v := vr (some a)) h') hH hS)
theorem G_astore (pc : Nat) (hC : Cx l D B own cc nL mn R g) {i : Nat} {r : Option Nat} (hn : i < nL) (hl' : lset1 ls i (vr r) = ls') (hd : decode cc pc = .ok (.astore i, 2)) (kk : g (pc + 2) ls' st I L N kc ks) : g pc ls (vr r :: st) I L N kc ks := by
  obtain ⟨p, e, s, m, args, below, meth, c, Q, ⟨hx, hb, hml, ho, hts, hK, hnm⟩, rfl⟩ := hC
  intro lr H locs hl hH hS
  cases r with
  | none => exact lv_astoreN hx hb hd hl.has hn rfl (fun lr' h' => kk lr' H locs (hl' ▸ LocR.st1 (v := vr none) h') hH hS)
  | some a => exact lv_astore hx hb hd hl.has hn rfl (fun lr' h' => kk lr' H locs (hl' ▸ LocR.st1 (v := vr (some a)) h') hH hS)
theorem G_iinc (pc : Nat) (hC : Cx l D B own cc nL mn R g) {i : Nat} {n : Int} {x : Int32} (v : Int32) (hv : x + Int32.ofInt n = v) (hn : i < nL) (hl0 : ls[i]? = some (some (vi x))) (hl' : lset1 ls i (vi v) = ls') (hd : decode cc pc = .ok (.iinc i n, 3)) (kk : g (pc + 3) ls' st I L N kc ks) : g pc ls st I L N kc ks := by
  obtain ⟨p, e, s, m, args, below, meth, c, Q, ⟨hx, hb, hml, ho, hts, hK, hnm⟩, rfl⟩ := hC
  intro lr H locs hl hH hS
  obtain ⟨k, hk⟩ := List.mem_iff_getElem?.mp (lasc_mem hl0)
  exact lv_iinc hx hb hd hl.has hk hv hn rfl (fun lr' h' => kk lr' H locs (hl' ▸ LocR.st1 (v := vi v) h') hH hS)
end SIL

/-! ===== tasks told, on both sides ===== -/
section TASKS
variable {l : Launch} {D : va_G} {B X i ng nt ns mem nth sc nl F P : Nat} {N N' : NT} {I I1 : MI} {L L1 : ML} {r r' : MI} {rl rl' : ML} {n n' : Nat → Int32} {q q' : Nat → Int64} {S S' : Int64} {k k' : MI} {kl kl' : ML} {LA : Nat → Nat} {x y z p f nd bd kd fr to : Int32} {a : Int64}
theorem cm_o {j : Nat} (h : j ≠ 247 ∧ j ≠ 248) : F_cmN n j = n j := by
  unfold F_cmN
  rw [up_ne h.2, up_ne h.1]
theorem cm_7 : F_cmN n 247 = n 247 + nI 1 := by
  unfold F_cmN
  rw [up_ne (by omega), up_s]
theorem cm_8 : F_cmN n 248 = n 248 + nI 1 := by
  unfold F_cmN
  rw [up_s]
theorem CS.task (h : CS r nt ns mem nth i k kl n q) (hst : ¬ n 246 = nI 1) (hns : ns ≤ 8) (hnt : nt < 20) (h2 : r' 0 2 = r 0 2) (h6 : ∀ t, t < nt → r' 6 t = r 6 t) : CS r' (nt + 1) ns mem nth (i + 1) k kl (F_cmN n) q := by
  obtain ⟨⟨h1, h3, h4, h5⟩, hc⟩ := h
  refine ⟨⟨h1.trans h2.symm, h3, h4, by rw [cm_o (by omega)]; exact h5⟩, ?_⟩
  have hS : ∀ {k0}, Sim ns k0 n → Sim ns k0 (F_cmN n) := fun hs => (hs.putN (Mp_n7 (Or.inl rfl))).putN (Mp_n7 (Or.inr (Or.inl rfl)))
  have hLh : LSh ns n kl q → LSh ns (F_cmN n) kl q := fun hl s hs => by rw [cm_o (by omega)]; exact hl s hs
  rcases hc with ⟨a1, a2, ⟨f1, ⟨f2, f3, f4, f5⟩, ⟨g1, g2, g3, f6⟩, f7, f8, f9⟩, a4, a5⟩ | ⟨a1, -⟩ | ⟨a1, o1, o2, o3, o4, o5, o6, K, o7, o8⟩
  · refine Or.inl ⟨by rw [cm_o (by omega)]; exact a1, hS a2, ⟨fun t ht j hj h5 => by rw [cm_o (by omega)]; exact f1 t ht j hj h5, ⟨?_, ?_, ?_, ?_⟩, ⟨?_, ?_, ?_, ?_⟩, fun h hh => by rw [cm_o (by omega)]; exact f7 h hh, fun s hs => by rw [cm_o (by omega)]; exact f8 s hs, f9⟩, a4, hLh a5⟩
    · rw [cm_o (by omega), h2]; exact f2
    · rw [cm_o (by omega)]; exact f3
    · rw [cm_7, f4, nI_add]
    · rw [cm_8, f5, nI_add]
    · rw [cm_o (by omega)]; exact g1
    · rw [cm_o (by omega)]; exact g2
    · rw [cm_o (by omega)]; exact g3
    · rw [cm_o (by omega)]; exact f6
  · exact absurd a1 hst
  · refine Or.inr (Or.inr ⟨by rw [cm_o (by omega)]; exact a1, hS o1, h1.trans h2.symm, fun t ht h23 hs => ?_, hLh o4, o5.congr rfl (cm_o (by omega)) (fun j hj => cm_o (by omega)), ⟨fun u h1 h2 => by rw [cm_o (by omega)]; exact o6.1 u (by omega) h2, fun s h1 h2 => by rw [cm_o (by omega)]; exact o6.2 s h1 h2⟩, K, o7, by rw [cm_o (by omega)]; exact o8⟩)
    rw [cm_o (by omega)] at hs
    by_cases e : t = nt
    · subst e
      exact absurd ((o6.1 t (Nat.le_refl t) (by omega)).symm.trans hs) (by decide)
    · rw [h6 t (by omega)] at h23
      exact o3 t (by omega) h23 hs
theorem GV.task (h : GV X i ng nt ns mem nth sc nl N I L r rl n q S k kl LA) (hZ : Zr N I L) (hst : ¬ n 246 = nI 1) (hnt2 : nt < 20) (hN : Gww N N' (X + 3) nt) (hI : ∀ u, u < N.2.2 → u ≠ X + 1 → I1 u = I u) (hI2 : ∀ f, f ≠ 5 → I1 (X + 1) f = I (X + 1) f) (hI5 : I1 (X + 1) 5 = nI (nt + 1)) (hL : ∀ u, u < N.2.2 → L1 u = L u) (hr0 : ∀ f, f ≠ 10 → r' 0 f = r 0 f) (hr10 : r' 0 10 = nI (nt + 1)) (hr6 : ∀ o, 6 ≤ o → o ≤ 14 → ∀ j, j ≠ nt → r' o j = r o j ∧ rl' o j = rl o j) (hro : ∀ o, 1 ≤ o → (o < 6 ∨ 14 < o) → r' o = r o ∧ rl' o = rl o)
    (hTk : TkR N' (RI (X + 111) r' (F_cmN n) I1) (RLg (X + 111) rl' S q L1) r' rl' (X + 137) (X + 1) ng ns mem nt) : (RI (X + 111) r n I1 = I1 ∧ RLg (X + 111) rl S q L1 = L1) ∧ GV X (i + 1) ng (nt + 1) ns mem nth sc nl N' (RI (X + 111) r' (F_cmN n) I1) (RLg (X + 111) rl' S q L1) r' rl' (F_cmN n) q S k kl LA := by
  obtain ⟨⟨hA, hF, hsz⟩, ⟨⟨v1, v2⟩, v3, v4⟩, ⟨t1, t2, t3, t4, t5, t6, t7⟩, ⟨⟨g1, g2⟩, ⟨g3, g4⟩, g5, ⟨g6, g6'⟩, g7⟩, hAU, ⟨s1, s2, s3, s4⟩, ⟨⟨l1, l2, l3, l4, l5, l6⟩, hnl⟩, hC⟩ := h
  have he : 14 ≤ (N.2.1 (X + 3)).1 := by
    have e : N.2.1 (X + 3) = (18, 20) := t1.1.2.2.2.2.2.2.1
    rw [e]; decide
  have o1 : ∀ u, ¬ (X + 111 ≤ u ∧ u < X + 137) → RI (X + 111) r' (F_cmN n) I1 u = I1 u := fun u hu => pt_out (by omega)
  have o2 : ∀ u, ¬ (X + 111 ≤ u ∧ u < X + 137) → RLg (X + 111) rl' S q L1 u = L1 u := fun u hu => pt_out (by omega)
  have oF : ∀ u, X + 137 ≤ u → u < N.2.2 → RI (X + 111) r' (F_cmN n) I1 u = I u := fun u h1 h2 => by rw [o1 u (by omega), hI u h2 (by omega)]
  have oL : ∀ u, X + 137 ≤ u → u < N.2.2 → RLg (X + 111) rl' S q L1 u = L u := fun u h1 h2 => by rw [o2 u (by omega), hL u h2]
  have oP : ∀ f, f ≠ 5 → RI (X + 111) r' (F_cmN n) I1 (X + 1) f = I (X + 1) f := fun f hf => by rw [o1 _ (by omega), hI2 f hf]
  have e3 : r' 0 2 = r 0 2 := hr0 2 (by omega)
  have blk : ∀ (b m : Nat) (kk : MI), pt b m kk I = I → X + 6 ≤ b → b + m ≤ X + 111 → pt b m kk (RI (X + 111) r' (F_cmN n) I1) = RI (X + 111) r' (F_cmN n) I1 := fun b m kk hk h1 h2 => by
    funext u
    by_cases e : b ≤ u ∧ u < b + m
    · have eu := congrFun hk u
      rw [o1 u (by omega), hI u (by omega) (by omega), ← eu]
      show pt _ _ _ _ u = pt _ _ _ _ u
      unfold pt
      rw [if_pos e, if_pos e]
    · exact pt_out (by omega)
  refine ⟨⟨?_, ?_⟩, ⟨hA.grow hsz hN (by omega) (by omega) (by omega), hF.grow hsz hN (by omega), by have := hN.1; omega⟩, ⟨⟨pt_pt, pt_pt⟩, blk _ _ _ v3 (by omega) (by omega), ?_⟩, ⟨⟨(hA.grow hsz hN (by omega) (by omega) (by omega)).2.1, t1.2⟩, ⟨by rw [o1 _ (by omega)]; exact hI5, by omega, hr10⟩, ⟨(oP 6 (by omega)).trans t3.1, t3.2.1, (hr0 20 (by omega)).trans t3.2.2⟩, ⟨t4.1, e3.trans t4.2.1, t4.2.2⟩, fun g hg => ?_, fun s hs => ?_, fun t ht => ?_⟩, ⟨⟨(oP 4 (by omega)).trans g1, (hr0 3 (by omega)).trans g2⟩, ⟨by rw [o1 _ (by omega), hI _ (by omega) (by omega)]; exact g3, by rw [o1 _ (by omega), hI _ (by omega) (by omega)]; exact g4⟩, (hr0 1 (by omega)).trans g5, ⟨g6, g6'⟩, (hr0 0 (by omega)).trans g7⟩, ?_, ⟨(oP 7 (by omega)).trans s1, (hr0 25 (by omega)).trans s2, s3, fun j hj => ?_⟩, ⟨⟨⟨(hr0 7 (by omega)).trans l1.1, by rw [(hro 5 (by omega) (by omega)).2]; exact l1.2⟩, l2, fun u hu => ⟨(l3 u hu).1, by have := (l3 u hu).2.1; have := hN.1; omega, by rw [hN.2.1 _ (by have := (l3 u hu).2.1; omega)]; exact (l3 u hu).2.2⟩, fun g g' ga ga' h1 h2 h3 h4 => ?_, fun g ga h1 h2 => ?_, fun g ga j p h1 h0 h2 h3 => ?_⟩, by omega⟩, hC.task hst t3.2.1 hnt2 e3 (fun t ht => (hr6 6 (by omega) (by omega) t (by omega)).1)⟩
  · funext u
    by_cases e : X + 111 ≤ u ∧ u < X + 111 + 26
    · have eu := congrFun v1 u
      rw [hI u (by omega) (by omega), ← eu]
      show pt _ _ _ _ u = pt _ _ _ _ u
      unfold pt
      rw [if_pos e, if_pos e]
    · exact pt_out (by omega)
  · funext u
    by_cases e : X + 111 ≤ u ∧ u < X + 111 + 26
    · have eu := congrFun v2 u
      rw [hL u (by omega), ← eu]
      show pt _ _ _ _ u = pt _ _ _ _ u
      unfold pt
      rw [if_pos e, if_pos e]
    · exact pt_out (by omega)
  · funext u
    by_cases e : X + 6 ≤ u ∧ u < X + 6 + 35
    · have eu := congrFun v4 u
      rw [o2 u (by omega), hL u (by omega), ← eu]
      show pt _ _ _ _ u = pt _ _ _ _ u
      unfold pt
      rw [if_pos e, if_pos e]
    · exact pt_out (by omega)
  · obtain ⟨ga, la, z, x1, x2, x3, x4, x5, x6, x7⟩ := t5 g hg
    have hla := hZ.lt x1.2.2.2.1 (by omega)
    refine ⟨ga, la, z, x1.grow hZ hN he (by omega) (by omega), x2, x3, ?_, by rw [(hro 1 (by omega) (by omega)).1]; exact x5, by rw [(hro 2 (by omega) (by omega)).1]; exact x6, fun i2 hi2 => ?_⟩
    · rw [oF ga x2 (hZ.lt x1.2.1 (by omega)), (hro 1 (by omega) (by omega)).1]; exact x4
    · exact (x7 i2 hi2).grow hZ hN he hla (by omega) oF oL (by rw [(hro 1 (by omega) (by omega)).1]) (by rw [(hro 3 (by omega) (by omega)).1]) (fun l0 p _ _ _ => ⟨by rw [(hro 4 (by omega) (by omega)).1], fun j hj => by rw [(hro 5 (by omega) (by omega)).2]⟩)
  · exact (t6 s hs).grow hZ hN he (by omega) (by omega) (fun g hg => by omega) (Nat.le_refl _) oF oL ⟨by rw [(hro 15 (by omega) (by omega)).1], by rw [(hro 16 (by omega) (by omega)).1], by rw [(hro 17 (by omega) (by omega)).1], by rw [(hro 18 (by omega) (by omega)).2]⟩
  · by_cases e : t = nt
    · subst e; exact hTk
    · exact (t7 t (by omega)).grow hZ hN he (by omega) (by omega) (fun g hg => by omega) (fun s hs => by omega) (Nat.le_refl _) (Nat.le_refl _) oF oL (fun o h1 h2 => hr6 o h1 h2 t e)
  · unfold AU
    rw [o1 _ (by omega), o1 _ (by omega), hI _ (by omega) (by omega), hI _ (by omega) (by omega), e3]
    exact hAU
  · rw [o1 _ (by omega), hI _ (by omega) (by omega), (hro 19 (by omega) (by omega)).1]; exact s4 j hj
  · rw [hN.2.2 _ _ (by omega) (by omega)] at h3 h4
    exact l4 g g' ga ga' h1 h2 h3 h4
  · rw [hN.2.2 _ _ (by omega) (by omega)] at h2
    obtain ⟨d1, d2⟩ := l5 g ga h1 h2
    obtain ⟨ga', la, z, x1, x2, -⟩ := t5 g h1
    have eg : ga' = ga := Option.some.inj (x1.1.symm.trans h2)
    subst eg
    exact ⟨by rw [hN.2.2 _ _ (by omega) (by omega)]; exact d1, by have := hN.1; omega⟩
  · rw [hN.2.2 _ _ (by omega) (by omega)] at h2
    obtain ⟨ga', la, z, x1, x2, -⟩ := t5 g h1
    have eg : ga' = ga := Option.some.inj (x1.1.symm.trans h2)
    subst eg
    obtain ⟨d1, d2⟩ := l5 g ga' h1 h2
    rw [hN.2.2 _ _ d2 (by omega)] at h3
    obtain ⟨c1, l0, c2, c3, c4⟩ := l6 g ga' j p h1 h0 h2 h3
    have hp := l3 l0 c2
    have hp2 := hp.2.1
    refine ⟨by rw [hN.2.2 _ _ (by omega) (by omega)]; exact c1, l0, c2, by rw [(hro 3 (by omega) (by omega)).1]; exact c3, c4⟩
end TASKS

/-! ===== equal, on both sides ===== -/
section EQUAL
variable {l : Launch} {D : va_G} {B b : Nat} {N : NT} {G I : MI} {GL L : ML} {r : MI} {rl : ML} {F P ng nt ns mem nth c d e X : Nat}
/-- what a course answers of a task, however it ended -/
theorem ans_any {k : MI} {kl : ML} {n : Nat → Int32} {q : Nat → Int64} {x : Int32} (hT : Stc N G GL r rl F P ng nt ns mem) (hX : FixC c P N) (hP : P + 5 ≤ c) (hcF : c + 35 ≤ F) (hO : OJ r nt ns k kl n q) :
    ∃ v, Cq l D B mX0_answerOf [vr (some (c + 0)), vi x] (pt c 35 k G) (pt c 35 kl GL) N (some (vl v)) (pt c 35 k G) (pt c 35 kl GL) ∧ ((x = -9 → v = -9223372036854775808) ∧ ∀ t, t < nt → x = nI t → n (12 * t + 0) = nI 2 → ¬ r 6 t = nI 4 → v = if r 6 t < nI 2 then rl 8 t else q t) := by
  have hnt := hT.2.1.2.1
  have hPP : FixP c P N := hT.1.1.p (Or.inl hP)
  by_cases hy : ∃ j, j < nt ∧ x = nI j ∧ k (7 + j) 0 = nI 2
  · obtain ⟨t, ht, hx, h2⟩ := hy
    subst hx
    obtain ⟨a, e1, e2, e3⟩ := hT.tk hcF t ht
    refine ⟨_, c_answer_yes (l := l) (D := D) (B := B) hX hPP hT.2.1.1 hnt ht e1 e2 e3 h2, fun y => absurd y (nI_n9 (by omega)), fun t' ht' ht2 hs h4 => ?_⟩
    have et : t' = t := (nI_eq_of ht2 (by omega) (by omega)).symm
    subst et
    obtain ⟨a', f1, -, -, -, -, -, -, f8⟩ := hT.2.2.2.2.2.2 t' ht
    have ea : a' = a := Option.some.inj (f1.symm.trans e1)
    subst ea
    unfold foundK
    rcases f8 with ⟨g1, g2, -, g4, -⟩ | ⟨g1, g2, -⟩ | ⟨-, g2, -⟩
    · rw [if_pos g1, g4, if_pos]
      rcases g2 with y | y <;> (rw [y]; decide)
    · rw [if_neg (by rw [g1]; decide), if_pos g1, hO.2.2.1 t' ht g2 hs, if_neg]
      rcases g2 with y | y <;> (rw [y]; decide)
    · exact absurd g2 h4
  · refine ⟨_, c_answer_no (l := l) (D := D) (B := B) hX hPP hT.2.1.1 hnt (fun j hj hx h2 => hy ⟨j, hj, hx, h2⟩), fun _ => rfl, fun t ht hx h2 h4 => absurd ⟨t, ht, hx, (hO.1.tr (by omega) (by omega)).trans h2⟩ hy⟩
/-- both sides find alike -/
theorem like_iff {k1 k2 : MI} {kl1 kl2 : ML} {n1 n2 : Nat → Int32} {q1 q2 : Nat → Int64} {r' : MI} {rl' : ML} {v1 v2 : Int64} (hT : Stc N G GL r rl F P ng nt ns mem) (hG : ∀ o, o < 35 → G (d + o) = k1 o) (hGL : ∀ o, o < 35 → GL (d + o) = kl1 o) (hO1 : OJ r nt ns k1 kl1 n1 q1) (hO2 : OJ r nt ns k2 kl2 n2 q2) (hE1 : EJ r nt n1) (hE2 : EJ r nt n2) (h6 : r' 6 = r 6) (h24 : ∀ j, j < 310 → r' 24 j = n1 j) (h25 : ∀ j, j < 36 → rl' 25 j = q1 j)
    (hv1 : (k2 0 15 = -9 → v1 = -9223372036854775808) ∧ ∀ t, t < nt → k2 0 15 = nI t → n2 (12 * t + 0) = nI 2 → ¬ r 6 t = nI 4 → v1 = if r 6 t < nI 2 then rl 8 t else q2 t) (hv2 : (k2 0 15 = -9 → v2 = -9223372036854775808) ∧ ∀ t, t < nt → k2 0 15 = nI t → n1 (12 * t + 0) = nI 2 → ¬ r 6 t = nI 4 → v2 = if r 6 t < nI 2 then rl 8 t else q1 t) :
    (((k2 0 15 = G (d + 0) 15 ∧ v1 = v2) ∧ ∀ t, t < nt → EA k2 G (tkA N P t) d t) ∧ ∀ s, s < ns → HAs k2 kl2 G GL d s) ↔ ((L_tk r' rl' n2 q2 ∧ ∀ t, t < nt → L_tc r' n2 t) ∧ ∀ s, s < ns → L_sc r' rl' n2 q2 s) := by
  have hnt := hT.2.1.2.1
  have hns := hT.2.2.1.2.1
  have e15 : k2 0 15 = n2 245 := hO2.1.t15
  have e15' : G (d + 0) 15 = n1 245 := by rw [hG 0 (by omega)]; exact hO1.1.t15
  rw [e15] at hv1 hv2
  have A : (k2 0 15 = G (d + 0) 15 ∧ v1 = v2) ↔ L_tk r' rl' n2 q2 := by
    unfold L_tk
    rw [e15, e15', h24 245 (by omega), h6]
    refine and_congr_right (fun he => ?_)
    rcases hE2.2 with y | ⟨t, y1, y2, y3, y4⟩
    · rw [hv1.1 y, hv2.1 y]
      exact ⟨fun _ => Or.inl y, fun _ => rfl⟩
    · have h1s : n1 (12 * t + 0) = nI 2 := by
        rcases hE1.2 with z | ⟨t', z1, z2, z3, z4⟩
        · exact absurd (y2.symm.trans (he.trans z)) (nI_n9 (by omega))
        · have : t' = t := nI_eq_of (z2.symm.trans (he.symm.trans y2)) (by omega) (by omega)
          subst this
          exact z3
      rw [hv1.2 t y1 y2 y3 y4, hv2.2 t y1 y2 h1s y4, y2, nI_clamp (by omega), h25 t (by omega)]
      by_cases h2 : r 6 t < nI 2
      · rw [if_pos h2, if_pos h2]
        exact ⟨fun _ => Or.inr (Or.inl h2), fun _ => rfl⟩
      · rw [if_neg h2, if_neg h2]
        exact ⟨fun z => Or.inr (Or.inr z), fun z => z.elim (fun w => absurd w (nI_n9 (by omega))) (fun w => w.elim (fun w => absurd w h2) id)⟩
  have Bq : L_tk r' rl' n2 q2 → ∀ t, t < nt → (EA k2 G (tkA N P t) d t ↔ L_tc r' n2 t) := by
    intro hL t ht
    have he : n2 245 = n1 245 := hL.1.trans (h24 245 (by omega))
    unfold EA L_tc
    rw [(hT.srt ht).1, h6, h24 _ (by omega), e15, hG (7 + t) (by omega), hO2.1.tr (t := t) (f := 0) (by omega) (by omega), hO2.1.tr (t := t) (f := 1) (by omega) (by omega), hO1.1.tr (t := t) (f := 0) (by omega) (by omega), hO1.1.tr (t := t) (f := 1) (by omega) (by omega)]
    have fl : ¬ r 6 t = nI 4 → n2 (12 * t + 0) = n1 (12 * t + 0) → n2 (12 * t + 1) = n1 (12 * t + 1) := by
      intro h4 hs
      obtain ⟨-, x1, x2⟩ := hE1.1 t ht
      obtain ⟨-, y1, y2⟩ := hE2.1 t ht
      by_cases h3 : n2 (12 * t + 0) = nI 3
      · rw [y2 h3 h4, x2 (hs ▸ h3) h4]
      · rw [y1 h3, x1 (fun z => h3 (hs.trans z))]
    have tk : n2 245 = nI t → n2 (12 * t + 0) = n1 (12 * t + 0) := by
      intro h
      have w2 : n2 (12 * t + 0) = nI 2 := by
        rcases hE2.2 with z | ⟨t', z1, z2, z3, z4⟩
        · exact absurd (h.symm.trans z) (nI_n9 (by omega))
        · have : t' = t := nI_eq_of (z2.symm.trans h) (by omega) (by omega)
          subst this
          exact z3
      have w1 : n1 (12 * t + 0) = nI 2 := by
        rcases hE1.2 with z | ⟨t', z1, z2, z3, z4⟩
        · exact absurd (h.symm.trans (he.trans z)) (nI_n9 (by omega))
        · have : t' = t := nI_eq_of (z2.symm.trans (he.symm.trans h)) (by omega) (by omega)
          subst this
          exact z3
      rw [w1, w2]
    constructor
    · rintro ⟨p1, p2⟩
      refine ⟨fun hh => ?_, p1⟩
      rcases p2 hh.1 with ⟨z1, z2⟩ | z
      · rcases hh.2 with w | w
        · exact absurd w z1
        · exact absurd (Int32.lt_trans z2 w) Int32.lt_irrefl
      · exact z.1
    · rintro ⟨p1, p2⟩
      refine ⟨p2, fun h4 => ?_⟩
      by_cases h9 : n2 245 = -9
      · have := p1 ⟨h4, Or.inl h9⟩
        exact Or.inr ⟨this, fl h4 this⟩
      · by_cases hlt : n2 245 < nI t
        · exact Or.inl ⟨h9, hlt⟩
        · rcases Int32.lt_or_eq_of_le (Int32.not_lt.mp hlt) with w | w
          · have := p1 ⟨h4, Or.inr w⟩
            exact Or.inr ⟨this, fl h4 this⟩
          · have := tk w.symm
            exact Or.inr ⟨this, fl h4 this⟩
  have C : ∀ s, s < ns → (HAs k2 kl2 G GL d s ↔ L_sc r' rl' n2 q2 s) := by
    intro s hs
    unfold HAs L_sc
    rw [hG (27 + s) (by omega), hGL (27 + s) (by omega), hO2.1.tb hs, hO1.1.tb hs, h24 _ (by omega), h25 _ (by omega)]
    refine and_congr_right (fun he => ?_)
    obtain ⟨-, x1, x2⟩ := hO1.2.2.2.1 s hs
    obtain ⟨-, y1, y2⟩ := hO2.2.2.2.1 s hs
    by_cases h9 : n2 (302 + s) = -9
    · obtain ⟨a1, a2⟩ := x1 (he.symm.trans h9)
      obtain ⟨b1, b2⟩ := y1 h9
      rw [a1, a2, b1, b2]
      exact ⟨fun _ => rfl, fun _ => rfl⟩
    · rw [x2 (fun z => h9 (he.trans z)), y2 h9]
  constructor
  · rintro ⟨⟨p1, p2⟩, p3⟩
    have hL := A.mp p1
    exact ⟨⟨hL, fun t ht => (Bq hL t ht).mp (p2 t ht)⟩, fun s hs => (C s hs).mp (p3 s hs)⟩
  · rintro ⟨⟨p1, p2⟩, p3⟩
    exact ⟨⟨A.mpr p1, fun t ht => (Bq p1 t ht).mpr (p2 t ht)⟩, fun s hs => (C s hs).mpr (p3 s hs)⟩
theorem equal_sim {n : Nat → Int32} {q : Nat → Int64} {x : Nat} (hT : Stc N I L r rl F P ng nt ns mem) (hXX : FixX X P c d e N) (hD : FixC d P N) (hE : FixC e P N) (hP : P + 5 ≤ d) (hde : d + 35 ≤ e) (heF : e + 35 ≤ F) (hF : FixR b N) (h0 : r 0 0 = nI 0) (hx1 : 1 ≤ x) (hx6 : x ≤ 6) (hd1 : I (d + 0) 1 = r 0 2) (hd2 : I (d + 0) 2 = 0) (he1 : I (e + 0) 1 = r 0 2) (he2 : I (e + 0) 2 = 0) :
    ∃ v kd kld ke kle r' rl' n' q', Cq l D B mX11_equal [vr (some X), vi (nI x)] I L N (some (vi v)) (pt e 35 ke (pt d 35 kd I)) (pt e 35 kle (pt d 35 kld L)) ∧ (∀ G2 S GL2, ∃ S', Cq l D B mX12_equal [vr (some (b + 0)), vi (nI x)] (RI b r n G2) (RLg b rl S q GL2) N (some (vi v)) (RI b r' n' G2) (RLg b rl' S' q' GL2)) ∧ (∀ o, o ≠ 21 → o ≠ 24 → r' o = r o) ∧ (∀ o, o ≠ 23 → o ≠ 25 → rl' o = rl o) ∧ (∀ j, j < 310 → n' j = n j) ∧ (∀ j, j < 36 → q' j = q j) ∧ (kd 0 1 = r 0 2 ∧ kd 0 2 = 0) ∧ ke 0 1 = r 0 2 ∧ ke 0 2 = 0 := by
  have hnt := hT.2.1.2.1
  have hns := hT.2.2.1.2.1
  obtain ⟨r1, hr1⟩ : ∃ r1, F_cp r 21 n 310 = r1 := ⟨_, rfl⟩
  obtain ⟨rl1, hrl1⟩ : ∃ rl1, F_cpl rl 23 q 36 = rl1 := ⟨_, rfl⟩
  have r1o : ∀ o, o ≠ 21 → r1 o = r o := fun o ho => by rw [← hr1]; exact F_cp_miss ho 310
  have rl1o : ∀ o, o ≠ 23 → rl1 o = rl o := fun o ho => by rw [← hrl1]; exact F_cpl_miss ho 36
  have t1 : tr r1 = tr r := tr_eq (fun o h1 h2 => r1o o (by omega)) (fun f _ => by rw [r1o 0 (by omega)])
  have tl1 : trl rl1 = trl rl := trl_eq (fun o h1 h2 => rl1o o (by omega))
  -- alone
  obtain ⟨v1, kb1, klb1, kd, kld, n1, q1, a1, a2, a3, a4, a5, a6⟩ := thr_run (l := l) (D := D) (B := B) (many := 1) (k := fun o => I (d + o)) (kl := fun o => L (d + o)) (n := n) (q := q) (hT.ref t1 tl1) hD hP (by omega) hF (by omega) (by omega) (by rw [r1o 0 (by omega)]; exact hd1) hd2
  rw [pt_self, pt_self] at a1
  rw [OJ_tr, t1, ← OJ_tr] at a4
  rw [EJ_tr, t1, ← EJ_tr] at a5
  -- together
  obtain ⟨r2, hr2⟩ : ∃ r2, F_cp r1 24 n1 310 = r2 := ⟨_, rfl⟩
  obtain ⟨rl2, hrl2⟩ : ∃ rl2, F_cpl rl1 25 q1 36 = rl2 := ⟨_, rfl⟩
  have r2o : ∀ o, o ≠ 24 → r2 o = r1 o := fun o ho => by rw [← hr2]; exact F_cp_miss ho 310
  have rl2o : ∀ o, o ≠ 25 → rl2 o = rl1 o := fun o ho => by rw [← hrl2]; exact F_cpl_miss ho 36
  have t2 : tr r2 = tr r := (tr_eq (fun o h1 h2 => r2o o (by omega)) (fun f _ => by rw [r2o 0 (by omega)])).trans t1
  have tl2 : trl rl2 = trl rl := (trl_eq (fun o h1 h2 => rl2o o (by omega))).trans tl1
  have hTd : Stc N (pt d 35 kd I) (pt d 35 kld L) r rl F P ng nt ns mem := hT.pt hP (by omega)
  have eo : ∀ o, pt d 35 kd I (e + o) = I (e + o) := fun o => pt_out (by omega)
  obtain ⟨v2, kb2, klb2, ke, kle, n2, q2, b1, b2, b3, b4, b5, b6⟩ := thr_run (l := l) (D := D) (B := B) (many := x) (k := fun o => pt d 35 kd I (e + o)) (kl := fun o => pt d 35 kld L (e + o)) (n := n1) (q := q1) (hTd.ref t2 tl2) hE (by omega) heF hF hx1 hx6 (by rw [r2o 0 (by omega), r1o 0 (by omega)]; simp only [eo]; exact he1) (by simp only [eo]; exact he2)
  rw [pt_self, pt_self] at b1
  rw [OJ_tr, t2, ← OJ_tr] at b4
  rw [EJ_tr, t2, ← EJ_tr] at b5
  -- found alike
  obtain ⟨w1, c1, c2⟩ := ans_any (l := l) (D := D) (B := B) (x := ke 0 15) hTd hE (by omega) heF b4
  have hTe : Stc N (pt e 35 ke I) (pt e 35 kle L) r rl F P ng nt ns mem := hT.pt (by omega) heF
  obtain ⟨w2, d1, d2⟩ := ans_any (l := l) (D := D) (B := B) (x := ke 0 15) hTe hD hP (by omega) a4
  rw [pt_comm (b := d) (c := e) (Or.inl hde), pt_comm (b := d) (c := e) (Or.inl hde)] at d1
  have hiff := like_iff (N := N) (P := P) (d := d) (r' := r2) (rl' := rl2) (v1 := w1) (v2 := w2) hTd (fun o ho => pt_row ho) (fun o ho => pt_row ho) a4 b4 a5 b5 (by rw [r2o 6 (by omega), r1o 6 (by omega)]) (fun j hj => by rw [← hr2]; exact F_cp_hit 310 hj) (fun j hj => by rw [← hrl2]; exact F_cpl_hit 36 hj) c2 d2
  have hdec : Decidable ((((ke 0 15 = pt d 35 kd I (d + 0) 15 ∧ w1 = w2) ∧ ∀ t, t < nt → EA ke (pt d 35 kd I) (tkA N P t) d t) ∧ ∀ s, s < ns → HAs ke kle (pt d 35 kd I) (pt d 35 kld L) d s)) := Classical.propDecidable _
  have hfnd := c_foundAs (l := l) (D := D) (B := B) (k := ke) (kl := kle) (G := pt d 35 kd I) (GL := pt d 35 kld L) hE hD (hT.1.1.p (Or.inl (by omega))) (Or.inl hde) hTd.2.1.1 hnt hTd.2.2.1.1 hns (hT.tk heF) c1 d1 Iff.rfl
  have hcls := g_equal_go (l := l) (D := D) (B := B) hXX hD hE (x := nI x) ⟨(nI_leI (by omega) (by omega)).mpr hx1, (nI_leI (by omega) (by omega)).mpr hx6⟩ a1 a2 b1 b2 hfnd
  refine ⟨_, kd, kld, ke, kle, r2, rl2, F_br n2 (r2 21) 310, F_br q2 (rl2 23) 36, hcls, fun G2 S GL2 => ?_, fun o h1 h2 => (r2o o h2).trans (r1o o h1), fun o h1 h2 => (rl2o o h2).trans (rl1o o h1), fun j hj => ?_, fun j hj => ?_, ⟨a4.2.1, a6⟩, b4.2.1, b6⟩
  · obtain ⟨S1, z1⟩ := a3 G2 S GL2
    obtain ⟨S2, z2⟩ := b3 G2 S1 GL2
    have htk : n2 245 = -9 ∨ ∃ k, k < 20 ∧ n2 245 = nI k := b5.2.imp id (fun ⟨t, y1, y2, _⟩ => ⟨t, by omega, y2⟩)
    have hlk := n_like (l := l) (D := D) (B := B) (b := b) (r := r2) (rl := rl2) (n := n2) (q := q2) (G := G2) (GL := GL2) (S := S2) hF (hTd.ref t2 tl2).2.1.2.2 hnt (hTd.ref t2 tl2).2.2.1.2.2 hns htk hiff
    subst hr1 hrl1 hr2 hrl2
    exact ⟨S2, n_equal (l := l) (D := D) (B := B) hF h0 ⟨(nI_leI (by omega) (by omega)).mpr hx1, (nI_leI (by omega) (by omega)).mpr hx6⟩ z1 z2 hlk⟩
  · rw [F_br_hit 310 hj, r2o 21 (by omega), ← hr1]; exact F_cp_hit 310 hj
  · rw [F_br_hit 36 hj, rl2o 23 (by omega), ← hrl1]; exact F_cpl_hit 36 hj
end EQUAL

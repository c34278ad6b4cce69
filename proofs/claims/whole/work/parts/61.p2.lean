/-! ===== sums; what is told, on both sides; what holds in a run ===== -/
def sm (f : Nat → Nat) : Nat → Nat
  | 0 => 0
  | k + 1 => sm f k + f k
theorem sm_congr {f g : Nat → Nat} : ∀ {k : Nat}, (∀ i, i < k → f i = g i) → sm f k = sm g k
  | 0, _ => rfl
  | k + 1, h => by
    show sm f k + f k = sm g k + g k
    rw [sm_congr (fun i hi => h i (by omega)), h k (by omega)]
theorem sm_upd {f g : Nat → Nat} {t : Nat} : ∀ {k : Nat}, t < k → (∀ i, i < k → i ≠ t → f i = g i) → sm g k + f t = sm f k + g t
  | 0, h, _ => absurd h (Nat.not_lt_zero t)
  | k + 1, h, hc => by
    show sm g k + g k + f t = sm f k + f k + g t
    by_cases e : t = k
    · subst e
      have := sm_congr (k := t) (f := f) (g := g) (fun i hi => hc i (by omega) (by omega))
      omega
    · have h1 := sm_upd (k := k) (f := f) (g := g) (t := t) (by omega) (fun i hi => hc i (by omega))
      have h2 := hc k (by omega) (fun q => e q.symm)
      omega
theorem sm_le {f : Nat → Nat} {b : Nat} : ∀ {k : Nat}, (∀ i, i < k → f i ≤ b) → sm f k ≤ b * k
  | 0, _ => Nat.zero_le _
  | k + 1, h => by
    have h1 := sm_le (k := k) (fun i hi => h i (by omega))
    have h2 := h k (by omega)
    show sm f k + f k ≤ b * (k + 1)
    rw [Nat.mul_succ]
    omega
theorem sm_ge {f : Nat → Nat} {t : Nat} : ∀ {k : Nat}, t < k → f t ≤ sm f k
  | 0, h => absurd h (Nat.not_lt_zero t)
  | k + 1, h => by
    show f t ≤ sm f k + f k
    by_cases e : t = k
    · subst e; omega
    · have := sm_ge (f := f) (k := k) (t := t) (by omega)
      omega
theorem sm_pos {f : Nat → Nat} : ∀ {k : Nat}, 0 < sm f k → ∃ t, t < k ∧ 0 < f t
  | 0, h => absurd h (Nat.lt_irrefl 0)
  | k + 1, h => by
    by_cases e : 0 < f k
    · exact ⟨k, by omega, e⟩
    · have h1 : 0 < sm f k + f k := h
      obtain ⟨t, ht, h2⟩ := sm_pos (f := f) (k := k) (by omega)
      exact ⟨t, by omega, h2⟩
theorem sm_zero {f : Nat → Nat} : ∀ {k : Nat}, (∀ i, i < k → f i = 0) → sm f k = 0
  | 0, _ => rfl
  | k + 1, h => by
    show sm f k + f k = 0
    rw [sm_zero (fun i hi => h i (by omega)), h k (by omega)]
def wL (v : Int32) : Nat := if v = 0 ∨ v = nI 1 then 1 else 0
def wW (v : Int32) : Nat := if v = 0 then 1 else 0
def wN (v : Int32) : Nat := if v = 0 then 2 else if v = nI 1 then 1 else 0
def ndF (r : MI) (n : Nat → Int32) (t : Nat) : Nat := if n (12 * t + 0) = nI 1 then (r 10 t).toNatClampNeg else 0
/-- a line of a grid, on both sides -/
def LnR (N : NT) (G : MI) (GL : ML) (r : MI) (rl : ML) (F la g i : Nat) : Prop :=
  (N.1 la i = none ∧ r 3 (20 * g + i) = -1) ∨ ∃ p np m l, LnA N la i p np m ∧ F ≤ p ∧ F ≤ np ∧ r 3 (20 * g + i) = nI l ∧ l < 600 ∧ r 4 l = nI m ∧ G p 0 = r 1 g ∧ ∀ j, j < m → GL np j = rl 5 (12 * l + j)
def GrR (N : NT) (G : MI) (GL : ML) (r : MI) (rl : ML) (F P g : Nat) : Prop := ∃ ga la z, GrA N P g ga la z ∧ F ≤ ga ∧ F ≤ la ∧ G ga 0 = r 1 g ∧ (∃ kd, kd ≤ 5 ∧ r 1 g = nI kd) ∧ r 2 g = nI z ∧ ∀ i, i < z → LnR N G GL r rl F la g i
def SeR (N : NT) (G : MI) (GL : ML) (r : MI) (rl : ML) (F P ng s : Nat) : Prop := ∃ sa g ga, N.1 (P + 3) s = some sa ∧ N.2.1 sa = (6, 4) ∧ F ≤ sa ∧ g < ng ∧ r 15 s = nI g ∧ N.1 (P + 1) g = some ga ∧ N.1 sa 0 = some ga ∧ G sa 1 = r 16 s ∧ G sa 2 = r 17 s ∧ GL sa 3 = rl 18 s
def TkR (N : NT) (G : MI) (GL : ML) (r : MI) (rl : ML) (F P ng ns mem t : Nat) : Prop := ∃ a, N.1 (P + 2) t = some a ∧ F ≤ a ∧ G a 0 = r 6 t ∧ G a 1 = r 10 t ∧ G a 2 = r 11 t ∧ (∃ nd, nd ≤ mem ∧ r 10 t = nI nd) ∧ (∃ bd, 1 ≤ bd ∧ bd ≤ 1000 ∧ r 11 t = nI bd) ∧
  ((N.2.1 a = (8, 6) ∧ (r 6 t = nI 0 ∨ r 6 t = nI 1) ∧ G a 3 = r 7 t ∧ GL a 4 = rl 8 t ∧ G a 5 = r 9 t ∧ (∃ Q, 1 ≤ Q ∧ Q ≤ 100000 ∧ r 7 t = nI Q) ∧ ∃ f, f < 2 ^ 31 ∧ r 9 t = nI f) ∨
   (N.2.1 a = (5, 5) ∧ (r 6 t = nI 2 ∨ r 6 t = nI 3) ∧ ∃ g ga, g < ng ∧ r 12 t = nI g ∧ N.1 (P + 1) g = some ga ∧ N.1 a 3 = some ga ∧ G a 4 = r 13 t) ∨
   (N.2.1 a = (7, 7) ∧ r 6 t = nI 4 ∧ ∃ s sa fr to, s < ns ∧ r 12 t = nI s ∧ N.1 (P + 3) s = some sa ∧ N.1 a 3 = some sa ∧ G a 4 = nI s ∧ fr ≤ to ∧ to ≤ 20 ∧ r 13 t = nI fr ∧ G a 5 = nI fr ∧ r 14 t = nI to ∧ G a 6 = nI to))
def Stc (N : NT) (G : MI) (GL : ML) (r : MI) (rl : ML) (F P ng nt ns mem : Nat) : Prop :=
  (FixQ P N ∧ P + 5 ≤ F) ∧ (G P 5 = nI nt ∧ nt ≤ 20 ∧ r 0 10 = nI nt) ∧ (G P 6 = nI ns ∧ ns ≤ 8 ∧ r 0 20 = nI ns) ∧ (ng ≤ 6 ∧ r 0 2 = nI mem ∧ mem ≤ 1000) ∧ (∀ g, g < ng → GrR N G GL r rl F P g) ∧ (∀ s, s < ns → SeR N G GL r rl F P ng s) ∧ ∀ t, t < nt → TkR N G GL r rl F P ng ns mem t
section STC
variable {N : NT} {G : MI} {GL : ML} {r : MI} {rl : ML} {F P ng nt ns mem c : Nat}
theorem GrR.pl {g : Nat} (h : GrR N G GL r rl F P g) : ∃ z, z ≤ 12 ∧ r 2 g = nI z ∧ PlOk r g z := by
  obtain ⟨ga, la, z, hG, -, -, -, -, h2, hl⟩ := h
  refine ⟨z, hG.2.2.2.2, h2, fun i hi => ?_⟩
  rcases hl i hi with ⟨-, q⟩ | ⟨p, np, m, l, hL, -, -, q1, q2, q3, -, -⟩
  · exact Or.inl q
  · exact Or.inr ⟨l, q2, q1, m, hL.2.2.2.2, q3⟩
theorem GrR.ok {g ga la z : Nat} (h : GrR N G GL r rl F P g) (hc : c + 35 ≤ F) (hG : GrA N P g ga la z) : GrOk c N la z := by
  obtain ⟨ga', la', z', hG', -, -, -, -, -, hl⟩ := h
  have e1 : ga' = ga := Option.some.inj (hG'.1.symm.trans hG.1)
  subst e1
  have e2 : la' = la := Option.some.inj (hG'.2.2.1.symm.trans hG.2.2.1)
  subst e2
  have e3 : z' = z := congrArg Prod.snd (hG'.2.2.2.1.symm.trans hG.2.2.2.1)
  subst e3
  intro i hi
  rcases hl i hi with ⟨q, -⟩ | ⟨p, np, m, l, hL, -, q1, -⟩
  · exact Or.inl q
  · exact Or.inr ⟨p, np, m, hL.1, hL.2.1, hL.2.2.1, hL.2.2.2.1, hL.2.2.2.2, Or.inr (by omega)⟩
theorem Stc.tk (h : Stc N G GL r rl F P ng nt ns mem) (hc : c + 35 ≤ F) : TkOk c P N nt := by
  intro t ht
  obtain ⟨a, h1, h2, -, -, -, -, -, h3⟩ := h.2.2.2.2.2.2 t ht
  refine ⟨a, h1, ?_, Or.inr (by omega)⟩
  rcases h3 with q | q | q
  · exact Or.inl q.1
  · exact Or.inr (Or.inl q.1)
  · exact Or.inr (Or.inr q.1)
theorem Stc.se (h : Stc N G GL r rl F P ng nt ns mem) (hc : c + 35 ≤ F) : SeOk c P N ns := by
  intro s hs
  obtain ⟨sa, g, ga, h1, h2, h3, -⟩ := h.2.2.2.2.2.1 s hs
  exact ⟨sa, h1, h2, Or.inr (by omega)⟩
theorem Stc.srt (h : Stc N G GL r rl F P ng nt ns mem) {t : Nat} (ht : t < nt) : G (tkA N P t) 0 = r 6 t ∧ G (tkA N P t) 1 = r 10 t ∧ G (tkA N P t) 2 = r 11 t := by
  obtain ⟨a, h1, -, h2, h3, h4, -⟩ := h.2.2.2.2.2.2 t ht
  rw [tkA_of h1]
  exact ⟨h2, h3, h4⟩
theorem Stc.sh (h : Stc N G GL r rl F P ng nt ns mem) {t : Nat} (ht : t < nt) : ShOk r t := by
  intro h4
  obtain ⟨a, h1, -, -, -, -, -, -, h3⟩ := h.2.2.2.2.2.2 t ht
  rcases h3 with q | q | q
  · rcases q.2.1 with z | z <;> exact absurd (h4.symm.trans z) (by decide)
  · rcases q.2.1 with z | z <;> exact absurd (h4.symm.trans z) (by decide)
  · obtain ⟨-, -, s, sa, fr, to, e1, e2, e3, -, -, e4, e5, e6, -, e7, -⟩ := q
    obtain ⟨sa', g, ga, f1, -, -, f2, f3, -⟩ := h.2.2.2.2.2.1 s e1
    obtain ⟨z, z1, z2, z3⟩ := (h.2.2.2.2.1 g f2).pl
    have := h.2.2.1.2.1
    have := h.2.2.2.1.1
    exact ⟨s, fr, to, g, z, by omega, e4, e5, by omega, z1, e2, e6, e7, f3, z2, z3⟩
end STC
/-- a task's fault, where it failed, of a way -/
def wf (r : MI) (t : Nat) : Int32 := if r 6 t = nI 0 ∨ r 6 t = nI 1 then nI 7 else if r 1 (r 12 t).toNatClampNeg = r 13 t then nI 1 else nI 3
/-- how far a task under way is -/
def PIp (r : MI) (n : Nat → Int32) (t : Nat) : Prop := (r 6 t = nI 0 ∨ r 6 t = nI 1) → ∃ p Q st, n (12 * t + 4) = nI p ∧ r 7 t = nI Q ∧ p < Q ∧ Q ≤ 100000 ∧ n (12 * t + 2) = nI st ∧ (r 6 t = nI 1 → p + 1 = 2 ^ st)
def PIr (r : MI) (n : Nat → Int32) (t : Nat) : Prop := (r 6 t = nI 2 ∨ r 6 t = nI 3) → ∃ g sz ln it, g < 6 ∧ r 12 t = nI g ∧ r 2 g = nI sz ∧ sz ≤ 12 ∧ n (12 * t + 7) = nI ln ∧ ln ≤ sz ∧ n (12 * t + 8) = nI it ∧ it ≤ 12 ∧ (it = 0 ∨ (ln < sz ∧ ∃ p m, r 3 (20 * g + ln) = nI p ∧ p < 600 ∧ r 4 p = nI m ∧ it ≤ m))
def PIs (r : MI) (n : Nat → Int32) (t : Nat) : Prop := r 6 t = nI 4 → ∃ s fr to g ln it, s < 8 ∧ g < 6 ∧ r 12 t = nI s ∧ r 13 t = nI fr ∧ r 14 t = nI to ∧ to ≤ 20 ∧ r 15 s = nI g ∧ n (12 * t + 7) = nI ln ∧ n (12 * t + 9) = nI ln ∧ n (12 * t + 8) = nI it ∧ it ≤ 12 ∧ (fr + ln < to ∨ (fr = to ∧ ln = 0)) ∧ (it = 0 ∨ (fr + ln < to ∧ F_lf r s g (nI (fr + ln)) = 0))
/-- what of the budget is used, and left -/
def PIb (r : MI) (n : Nat → Int32) (t : Nat) : Prop := ∃ bd, bd ≤ 1000 ∧ r 11 t = nI bd ∧ (¬ r 6 t = nI 4 → ∃ st, n (12 * t + 2) = nI st ∧ st < bd)
def WT (n : Nat → Int32) (t : Nat) : Prop := ∀ j, j < 12 → j ≠ 3 → j ≠ 5 → n (12 * t + j) = 0
def TV (r : MI) (nth : Nat) (n : Nat → Int32) (t : Nat) : Prop :=
  (∃ s, s ≤ 6 ∧ n (12 * t + 0) = nI s) ∧ (n (12 * t + 10) = 0 ∨ n (12 * t + 10) = nI 1) ∧ (n (12 * t + 11) = 0 ∨ n (12 * t + 11) = nI 1) ∧ (n (12 * t + 0) = 0 → WT n t) ∧
  (n (12 * t + 0) = nI 1 → (∃ h, h < nth ∧ n (12 * t + 5) = nI h ∧ n (250 + h) = nI t) ∧ PIp r n t ∧ PIr r n t ∧ PIs r n t ∧ PIb r n t) ∧
  (¬ n (12 * t + 0) = nI 3 → n (12 * t + 1) = 0) ∧ (n (12 * t + 0) = nI 3 → ¬ r 6 t = nI 4 → n (12 * t + 1) = wf r t)
def HV (nt nth : Nat) (n : Nat → Int32) : Prop := ∀ h, h < 6 → n (250 + h) = -9 ∨ ∃ t, t < nt ∧ h < nth ∧ n (250 + h) = nI t ∧ n (12 * t + 0) = nI 1 ∧ n (12 * t + 5) = nI h
def CV (r : MI) (nt mem : Nat) (n : Nat → Int32) : Prop := n 247 = nI (sm (fun t => wL (n (12 * t + 0))) nt) ∧ n 248 = nI (sm (fun t => wW (n (12 * t + 0))) nt) ∧ (∃ K, n 244 = nI K ∧ K + sm (fun t => wN (n (12 * t + 0))) nt ≤ 40) ∧ ∃ fr, n 242 = nI fr ∧ fr + sm (ndF r n) nt = mem
def KV (r : MI) (nt : Nat) (n : Nat → Int32) : Prop := n 245 = -9 ∨ ∃ t, t < nt ∧ n 245 = nI t ∧ n (12 * t + 0) = nI 2 ∧ ¬ r 6 t = nI 4
/-- what holds in a run, on the reference's side -/
def RV (r : MI) (nt nth mem : Nat) (n : Nat → Int32) : Prop := (∀ t, t < nt → TV r nth n t) ∧ HV nt nth n ∧ CV r nt mem n ∧ KV r nt n
def LK (r : MI) (nt : Nat) (n : Nat → Int32) : Prop := n 245 = -9 → ∀ t, t < nt → (∀ u, u < t → skipR r n u) → ¬ skipR r n t → ¬ n (12 * t + 0) = nI 2

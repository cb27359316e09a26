/-- three corners as four -/
def h4 (g : Nat → Int32) : Nat → Int32 := fun k => if k = 3 then g 0 else g k
theorem h4_I (g : Nat → Int32) (k : Nat) : gI (h4 g) k = gI g (if k = 3 then 0 else k) := by unfold gI h4; split <;> rfl
theorem sepN_r3 {gx gy : Nat → Int} {hx hy : Nat → Int32} : sepN 4 gx gy 3 (gI hx) (gI hy) ↔ sepN 4 gx gy 4 (gI (h4 hx)) (gI (h4 hy)) := by
  constructor
  · rintro ⟨i, j, hi, hj, h1, h2⟩
    refine ⟨i, j, hi, hj, h1, fun k hk => ?_⟩
    rw [h4_I, h4_I]
    exact h2 _ (by split <;> omega)
  · rintro ⟨i, j, hi, hj, h1, h2⟩
    refine ⟨i, j, hi, hj, h1, fun k hk => ?_⟩
    have := h2 k (by omega)
    rw [h4_I, h4_I, if_neg (by omega)] at this
    exact this
theorem tn_h4 (hx hy : Nat → Int32) (i j : Nat) (x y : Int) : tn (gI (h4 hx)) (gI (h4 hy)) i j x y = tn (gI hx) (gI hy) (if i = 3 then 0 else i) (if j = 3 then 0 else j) x y := by
  unfold tn
  rw [h4_I, h4_I, h4_I, h4_I]
theorem sepN_l3 {gx gy : Nat → Int} {hx hy : Nat → Int32} : sepN 3 (gI hx) (gI hy) 4 gx gy ↔ sepN 4 (gI (h4 hx)) (gI (h4 hy)) 4 gx gy := by
  constructor
  · rintro ⟨i, j, hi, hj, h1, h2⟩
    refine ⟨i, j, by omega, by omega, fun k hk => ?_, fun k hk => ?_⟩
    · rw [tn_h4, if_neg (by omega), if_neg (by omega), h4_I, h4_I]
      exact h1 _ (by split <;> omega)
    · rw [tn_h4, if_neg (by omega), if_neg (by omega)]
      exact h2 k hk
  · rintro ⟨i, j, hi, hj, h1, h2⟩
    refine ⟨if i = 3 then 0 else i, if j = 3 then 0 else j, by split <;> omega, by split <;> omega, fun k hk => ?_, fun k hk => ?_⟩
    · have := h1 k (by omega)
      rw [tn_h4, h4_I, h4_I, if_neg (show ¬ k = 3 by omega)] at this
      exact this
    · have := h2 k hk
      rw [tn_h4] at this
      exact this
theorem nfl_h4 {hx hy : Nat → Int32} (h : nflN 3 (gI hx) (gI hy)) : nfl (gI (h4 hx)) (gI (h4 hy)) := by
  obtain ⟨i, j, k, l1, l2, l3, h⟩ := h
  refine ⟨i, j, k, by omega, by omega, by omega, ?_⟩
  rw [tn_h4, h4_I, h4_I, if_neg (by omega), if_neg (by omega), if_neg (by omega)]
  exact h
theorem mn_le (g : Nat → Int32) (n : Nat) : ∀ k, k ≤ n → (mn g n).toInt ≤ (g k).toInt := by
  induction n with
  | zero => intro k hk; rw [show k = 0 by omega]; exact Int.le_refl _
  | succ n ih =>
    intro k hk
    rw [mn]
    split
    · rename_i h
      rw [Int32.lt_iff_toInt_lt] at h
      by_cases e : k = n + 1
      · rw [e]; exact Int.le_refl _
      · have := ih k (by omega); omega
    · rename_i h
      rw [Int32.lt_iff_toInt_lt] at h
      by_cases e : k = n + 1
      · rw [e]; omega
      · exact ih k (by omega)
theorem mx_ge (g : Nat → Int32) (n : Nat) : ∀ k, k ≤ n → (g k).toInt ≤ (mx g n).toInt := by
  induction n with
  | zero => intro k hk; rw [show k = 0 by omega]; exact Int.le_refl _
  | succ n ih =>
    intro k hk
    rw [mx]
    split
    · rename_i h
      rw [Int32.lt_iff_toInt_lt] at h
      by_cases e : k = n + 1
      · rw [e]; exact Int.le_refl _
      · have := ih k (by omega); omega
    · rename_i h
      rw [Int32.lt_iff_toInt_lt] at h
      by_cases e : k = n + 1
      · rw [e]; omega
      · exact ih k (by omega)
/-- the frame tells apart only what does not meet -/
theorem fr_met {gx gy hx hy : Nat → Int32} {l l2 : Int32} {n m : Nat} {ax ay bx by_ : Nat → Int} (ha : ∀ k, k < 4 → ∃ q, q ≤ n ∧ ax k = gI gx q ∧ ay k = gI gy q) (hb : ∀ k, k < 4 → ∃ q, q ≤ m ∧ bx k = gI hx q ∧ by_ k = gI hy q) (h : mtI ax ay bx by_) : ¬ frF l2 hx hy m 4 < frF l gx gy n 3 ∧ ¬ frF l gx gy n 4 < frF l2 hx hy m 3 ∧ ¬ frF l2 hx hy m 6 < frF l gx gy n 5 ∧ ¬ frF l gx gy n 6 < frF l2 hx hy m 5 := by
  show ¬ mx hx m < mn gx n ∧ ¬ mx gx n < mn hx m ∧ ¬ mx hy m < mn gy n ∧ ¬ mx gy n < mn hy m
  refine ⟨fun z => ?_, fun z => ?_, fun z => ?_, fun z => ?_⟩ <;> rw [Int32.lt_iff_toInt_lt] at z
  · refine no_met (p := 1) (q := 0) (fun i k hi hk => ?_) (mtI_symm h)
    obtain ⟨q, h1, h2, h3⟩ := hb i hi
    obtain ⟨r, g1, g2, g3⟩ := ha k hk
    have := mx_ge hx m q h1
    have := mn_le gx n r g1
    unfold gI at *
    omega
  · refine no_met (p := 1) (q := 0) (fun i k hi hk => ?_) h
    obtain ⟨q, h1, h2, h3⟩ := ha i hi
    obtain ⟨r, g1, g2, g3⟩ := hb k hk
    have := mx_ge gx n q h1
    have := mn_le hx m r g1
    unfold gI at *
    omega
  · refine no_met (p := 0) (q := 1) (fun i k hi hk => ?_) (mtI_symm h)
    obtain ⟨q, h1, h2, h3⟩ := hb i hi
    obtain ⟨r, g1, g2, g3⟩ := ha k hk
    have := mx_ge hy m q h1
    have := mn_le gy n r g1
    unfold gI at *
    omega
  · refine no_met (p := 0) (q := 1) (fun i k hi hk => ?_) h
    obtain ⟨q, h1, h2, h3⟩ := ha i hi
    obtain ⟨r, g1, g2, g3⟩ := hb k hk
    have := mx_ge gy n q h1
    have := mn_le hy m r g1
    unfold gI at *
    omega
/-- the class's meeting of four corners and four -/
theorem metB4 {l l2 : Int32} {gx gy hx hy : Nat → Int32} (bgx : near 4 gx) (bgy : near 4 gy) (bhx : near 4 hx) (bhy : near 4 hy) (hA : nfl (gI gx) (gI gy)) (hB : nfl (gI hx) (gI hy)) : metB (frF l gx gy 3) 4 gx gy (frF l2 hx hy 3) 4 hx hy = true ↔ (l = l2 ∧ mtI (gI gx) (gI gy) (gI hx) (gI hy)) := by
  have e1 := edB_sep (n := 4) (m := 4) (by omega) bgx bgy bhx bhy hA
  have e2 := edB_sep (n := 4) (m := 4) (by omega) bhx bhy bgx bgy hB
  have g := geo hA hB
  unfold metB
  rw [Bool.and_eq_true, Bool.and_eq_true, decide_eq_true_eq, Bool.not_eq_true', Bool.not_eq_true', ← Bool.not_eq_true, ← Bool.not_eq_true, e1, e2]
  constructor
  · rintro ⟨⟨h1, -⟩, h2, h3⟩
    exact ⟨h1, g.mpr ⟨h2, h3⟩⟩
  · rintro ⟨h1, h2⟩
    obtain ⟨h3, h4⟩ := g.mp h2
    exact ⟨⟨h1, fr_met (fun k hk => ⟨k, by omega, rfl, rfl⟩) (fun k hk => ⟨k, by omega, rfl, rfl⟩) h2⟩, h3, h4⟩
theorem metB3 {l l2 : Int32} {gx gy hx hy : Nat → Int32} (bgx : near 4 gx) (bgy : near 4 gy) (bhx : near 3 hx) (bhy : near 3 hy) (hA : nfl (gI gx) (gI gy)) (hB : nflN 3 (gI hx) (gI hy)) : metB (frF l gx gy 3) 4 gx gy (frF l2 hx hy 2) 3 hx hy = true ↔ (l = l2 ∧ mtI (gI gx) (gI gy) (gI (h4 hx)) (gI (h4 hy))) := by
  have e1 := (edB_sep (n := 4) (m := 3) (by omega) bgx bgy bhx bhy hA).trans sepN_r3
  have e2 := (edB_sep (n := 3) (m := 4) (by omega) bhx bhy bgx bgy hB).trans sepN_l3
  have g := geo hA (nfl_h4 hB)
  unfold metB
  rw [Bool.and_eq_true, Bool.and_eq_true, decide_eq_true_eq, Bool.not_eq_true', Bool.not_eq_true', ← Bool.not_eq_true, ← Bool.not_eq_true, e1, e2]
  constructor
  · rintro ⟨⟨h1, -⟩, h2, h3⟩
    exact ⟨h1, g.mpr ⟨h2, h3⟩⟩
  · rintro ⟨h1, h2⟩
    obtain ⟨h3, h4⟩ := g.mp h2
    exact ⟨⟨h1, fr_met (fun k hk => ⟨k, by omega, rfl, rfl⟩) (fun k hk => ⟨if k = 3 then 0 else k, by split <;> omega, h4_I _ _, h4_I _ _⟩) h2⟩, h3, h4⟩
/-- the reference's turn -/
def sg (t : Int) : Int64 := if t ≤ 0 then (if 0 ≤ t then 0 else -1) else 1
theorem rTurn_sg {x y u w p q : Int64} (hx : bd 3000 x.toInt) (hy : bd 3000 y.toInt) (hu : bd 3000 u.toInt) (hw : bd 3000 w.toInt) (hp : bd 3000 p.toInt) (hq : bd 3000 q.toInt) : rTurn x y u w p q = sg (t2 x.toInt y.toInt u.toInt w.toInt p.toInt q.toInt) := by
  have d1 : (u - x).toInt = u.toInt - x.toInt := l_sub (by unfold bd at *; omega)
  have d2 : (q - y).toInt = q.toInt - y.toInt := l_sub (by unfold bd at *; omega)
  have d3 : (w - y).toInt = w.toInt - y.toInt := l_sub (by unfold bd at *; omega)
  have d4 : (p - x).toInt = p.toInt - x.toInt := l_sub (by unfold bd at *; omega)
  have b1 : bd 6000 (u.toInt - x.toInt) := by unfold bd at *; omega
  have b2 : bd 6000 (q.toInt - y.toInt) := by unfold bd at *; omega
  have b3 : bd 6000 (w.toInt - y.toInt) := by unfold bd at *; omega
  have b4 : bd 6000 (p.toInt - x.toInt) := by unfold bd at *; omega
  have m1 := bd_mul b1 b2
  have m2 := bd_mul b3 b4
  have p1 : ((u - x) * (q - y)).toInt = (u.toInt - x.toInt) * (q.toInt - y.toInt) := by rw [l_mul (by rw [d1, d2]; unfold bd at *; omega), d1, d2]
  have p2 : ((w - y) * (p - x)).toInt = (w.toInt - y.toInt) * (p.toInt - x.toInt) := by rw [l_mul (by rw [d3, d4]; unfold bd at *; omega), d3, d4]
  have e : ((u - x) * (q - y) - (w - y) * (p - x)).toInt = t2 x.toInt y.toInt u.toInt w.toInt p.toInt q.toInt := by rw [l_sub (by rw [p1, p2]; unfold bd at *; omega), p1, p2]; rfl
  unfold rTurn sg
  have z : (0 : Int64).toInt = 0 := rfl
  simp only [Int64.le_iff_toInt_le, e, z]
theorem sg_0 {t : Int} : sg t = 0 ↔ t = 0 := by
  unfold sg
  split
  · split
    · exact ⟨fun _ => by omega, fun _ => rfl⟩
    · exact ⟨fun h => absurd h (by decide), fun h => by omega⟩
  · exact ⟨fun h => absurd h (by decide), fun h => by omega⟩
theorem sg_lt {t : Int} : sg t < 0 ↔ t < 0 := by
  unfold sg
  split
  · split
    · exact ⟨fun h => absurd h (by decide), fun h => by omega⟩
    · exact ⟨fun _ => by omega, fun _ => by decide⟩
  · exact ⟨fun h => absurd h (by decide), fun h => by omega⟩
theorem sg_gt {t : Int} : 0 < sg t ↔ 0 < t := by
  unfold sg
  split
  · split
    · exact ⟨fun h => absurd h (by decide), fun h => by omega⟩
    · exact ⟨fun h => absurd h (by decide), fun h => by omega⟩
  · exact ⟨fun _ => by omega, fun _ => by decide⟩
theorem sg_ge {t : Int} : 0 ≤ sg t ↔ 0 ≤ t := by
  unfold sg
  split
  · split
    · exact ⟨fun _ => by omega, fun _ => by decide⟩
    · exact ⟨fun h => absurd h (by decide), fun h => by omega⟩
  · exact ⟨fun _ => by omega, fun _ => by decide⟩
theorem sg_mul {s t : Int} : ¬ 0 ≤ sg s * sg t ↔ s * t < 0 := by
  unfold sg
  split
  · split
    · have : s = 0 := by omega
      subst this
      simp
    · split
      · split
        · have : t = 0 := by omega
          subst this
          simp
        · have := Int.mul_pos_of_neg_of_neg (show s < 0 by omega) (show t < 0 by omega)
          exact ⟨fun h => absurd (by decide) h, fun h => by omega⟩
      · have := Int.mul_neg_of_neg_of_pos (show s < 0 by omega) (show 0 < t by omega)
        exact ⟨fun _ => this, fun _ => by decide⟩
  · split
    · split
      · have : t = 0 := by omega
        subst this
        simp
      · have := Int.mul_neg_of_pos_of_neg (show 0 < s by omega) (show t < 0 by omega)
        exact ⟨fun _ => this, fun _ => by decide⟩
    · have := Int.mul_pos (show 0 < s by omega) (show 0 < t by omega)
      exact ⟨fun h => absurd (by decide) h, fun h => by omega⟩
theorem rBtw_iff {a b c : Int64} : rBtw a b c = true ↔ btw a.toInt b.toInt c.toInt := by
  unfold rBtw btw
  rw [decide_eq_true_eq]
  simp only [Int64.lt_iff_toInt_lt, Int64.le_iff_toInt_le]
  omega
theorem rOn_iff {x y u w p q : Int64} : rOn x y u w p q = true ↔ onI x.toInt y.toInt u.toInt w.toInt p.toInt q.toInt := by
  unfold rOn onI
  rw [Bool.and_eq_true, rBtw_iff, rBtw_iff]
def lI (g : Nat → Int64) (k : Nat) : Int := (g k).toInt
def nearL (g : Nat → Int64) : Prop := ∀ k, k < 4 → bd 3000 (g k).toInt
theorem rCr_iff {G : Nat → Nat → Int64} {i j k n : Nat} (h1 : nearL (G 32)) (h2 : nearL (G 33)) (h3 : nearL (G 34)) (h5 : nearL (G 35)) (hi : i < 4) (hj : j < 4) (hk : k < 4) (hn : n < 4) : rCr G i j k n = true ↔ crD (lI (G 32) i) (lI (G 33) i) (lI (G 32) j) (lI (G 33) j) (lI (G 34) k) (lI (G 35) k) (lI (G 34) n) (lI (G 35) n) := by
  unfold rCr rCr0
  rw [rTurn_sg (h1 i hi) (h2 i hi) (h1 j hj) (h2 j hj) (h3 k hk) (h5 k hk), rTurn_sg (h1 i hi) (h2 i hi) (h1 j hj) (h2 j hj) (h3 n hn) (h5 n hn), rTurn_sg (h3 k hk) (h5 k hk) (h3 n hn) (h5 n hn) (h1 i hi) (h2 i hi), rTurn_sg (h3 k hk) (h5 k hk) (h3 n hn) (h5 n hn) (h1 j hj) (h2 j hj)]
  simp only [Bool.or_eq_true, Bool.and_eq_true, decide_eq_true_eq, rOn_iff, sg_mul, sg_0]
  unfold crD lI
  simp only [or_assoc]
theorem rWs_iff {x y : Nat → Int64} {p q : Int64} {o : Nat} (h1 : nearL x) (h2 : nearL y) (hp : bd 3000 p.toInt) (hq : bd 3000 q.toInt) (ho : o < 4) : rWs x y p q o = true ↔ inT (lI x) (lI y) (wi o) (wj o) (wk o) p.toInt q.toInt 1 := by
  obtain ⟨l1, l2, l3⟩ := wo_lt ho
  have hi : wi o < 4 := by omega
  have hj : wj o < 4 := by omega
  unfold rWs rTr
  rw [rTurn_sg (h1 _ hi) (h2 _ hi) (h1 _ hj) (h2 _ hj) hp hq, rTurn_sg (h1 _ hj) (h2 _ hj) (h1 _ l3) (h2 _ l3) hp hq, rTurn_sg (h1 _ l3) (h2 _ l3) (h1 _ hi) (h2 _ hi) hp hq, rTurn_sg (h1 _ hi) (h2 _ hi) (h1 _ hj) (h2 _ hj) (h1 _ l3) (h2 _ l3)]
  simp only [Bool.and_eq_true, Bool.or_eq_true, Bool.not_eq_true', decide_eq_true_eq, decide_eq_false_iff_not, sg_0, sg_lt, sg_gt, sg_ge]
  unfold inT
  have e0 : tn (lI x) (lI y) (wi o) (wj o) (lI x (wk o)) (lI y (wk o)) = t2 (x (wi o)).toInt (y (wi o)).toInt (x (wj o)).toInt (y (wj o)).toInt (x (wk o)).toInt (y (wk o)).toInt := rfl
  have e1 : tw (lI x) (lI y) (wi o) (wj o) p.toInt q.toInt 1 = t2 (x (wi o)).toInt (y (wi o)).toInt (x (wj o)).toInt (y (wj o)).toInt p.toInt q.toInt := by unfold tw t2 lI; rw [Int.mul_one, Int.mul_one]
  have e2 : tw (lI x) (lI y) (wj o) (wk o) p.toInt q.toInt 1 = t2 (x (wj o)).toInt (y (wj o)).toInt (x (wk o)).toInt (y (wk o)).toInt p.toInt q.toInt := by unfold tw t2 lI; rw [Int.mul_one, Int.mul_one]
  have e3 : tw (lI x) (lI y) (wk o) (wi o) p.toInt q.toInt 1 = t2 (x (wk o)).toInt (y (wk o)).toInt (x (wi o)).toInt (y (wi o)).toInt p.toInt q.toInt := by unfold tw t2 lI; rw [Int.mul_one, Int.mul_one]
  rw [e0, e1, e2, e3]
  have es : t2 (x (wi o)).toInt (y (wi o)).toInt (x (wj o)).toInt (y (wj o)).toInt (x (wk o)).toInt (y (wk o)).toInt = t2 (x (wi o)).toInt (y (wi o)).toInt (x (wj o)).toInt (y (wj o)).toInt p.toInt q.toInt + t2 (x (wj o)).toInt (y (wj o)).toInt (x (wk o)).toInt (y (wk o)).toInt p.toInt q.toInt + t2 (x (wk o)).toInt (y (wk o)).toInt (x (wi o)).toInt (y (wi o)).toInt p.toInt q.toInt := by unfold t2; grind
  generalize t2 (x (wi o)).toInt (y (wi o)).toInt (x (wj o)).toInt (y (wj o)).toInt (x (wk o)).toInt (y (wk o)).toInt = D at *
  generalize t2 (x (wi o)).toInt (y (wi o)).toInt (x (wj o)).toInt (y (wj o)).toInt p.toInt q.toInt = A at *
  generalize t2 (x (wj o)).toInt (y (wj o)).toInt (x (wk o)).toInt (y (wk o)).toInt p.toInt q.toInt = B at *
  generalize t2 (x (wk o)).toInt (y (wk o)).toInt (x (wi o)).toInt (y (wi o)).toInt p.toInt q.toInt = C at *
  constructor
  · rintro ⟨h0, ⟨a, b, c⟩ | ⟨a, b, c⟩⟩
    · exact ⟨h0, Int.mul_nonneg (by omega) (by omega), Int.mul_nonneg (by omega) (by omega), Int.mul_nonneg (by omega) (by omega)⟩
    · refine ⟨h0, ?_, ?_, ?_⟩
      · have := Int.mul_nonneg (show 0 ≤ -D by omega) (show 0 ≤ -A by omega)
        rwa [Int.neg_mul_neg] at this
      · have := Int.mul_nonneg (show 0 ≤ -D by omega) (show 0 ≤ -B by omega)
        rwa [Int.neg_mul_neg] at this
      · have := Int.mul_nonneg (show 0 ≤ -D by omega) (show 0 ≤ -C by omega)
        rwa [Int.neg_mul_neg] at this
  · rintro ⟨h0, a, b, c⟩
    refine ⟨h0, ?_⟩
    rcases Int.lt_or_gt_of_ne h0 with z | z
    · right
      have w : ∀ t, 0 ≤ D * t → ¬ 0 < t := fun t h y => by
        have := Int.mul_neg_of_neg_of_pos z y
        omega
      exact ⟨w _ a, w _ b, w _ c⟩
    · left
      have := nn_of_mul z a
      have := nn_of_mul z b
      have := nn_of_mul z c
      omega
theorem rWt_iff {x y : Nat → Int64} {p q : Int64} (n : Nat) : rWt x y p q n = true ↔ ∃ o, o < n ∧ rWs x y p q o = true := by
  induction n with
  | zero => exact ⟨fun h => (by cases h), fun ⟨k, h, _⟩ => absurd h (Nat.not_lt_zero _)⟩
  | succ n ih =>
    rw [rWt, Bool.or_eq_true, ih]
    constructor
    · rintro (⟨k, h1, h2⟩ | h)
      · exact ⟨k, by omega, h2⟩
      · exact ⟨n, by omega, h⟩
    · rintro ⟨k, h1, h2⟩
      by_cases e : k = n
      · rw [e] at h2; exact Or.inr h2
      · exact Or.inl ⟨k, by omega, h2⟩
theorem rMeet_mt {G : Nat → Nat → Int64} (h1 : nearL (G 32)) (h2 : nearL (G 33)) (h3 : nearL (G 34)) (h5 : nearL (G 35)) : rMeet G = true ↔ mtI (lI (G 32)) (lI (G 33)) (lI (G 34)) (lI (G 35)) := by
  unfold rMeet mtI
  simp only [Bool.or_eq_true, rWt_iff, List.any_eq_true, List.mem_range, Bool.and_eq_true, decide_eq_true_eq, or_assoc]
  have e1 : (∃ o, o < 4 ∧ rWs (G 32) (G 33) (G 34 0) (G 35 0) o = true) ↔ ∃ o, o < 4 ∧ inT (lI (G 32)) (lI (G 33)) (wi o) (wj o) (wk o) (lI (G 34) 0) (lI (G 35) 0) 1 := ⟨fun ⟨o, a, b⟩ => ⟨o, a, (rWs_iff h1 h2 (h3 0 (by omega)) (h5 0 (by omega)) a).mp b⟩, fun ⟨o, a, b⟩ => ⟨o, a, (rWs_iff h1 h2 (h3 0 (by omega)) (h5 0 (by omega)) a).mpr b⟩⟩
  have e2 : (∃ o, o < 4 ∧ rWs (G 34) (G 35) (G 32 0) (G 33 0) o = true) ↔ ∃ o, o < 4 ∧ inT (lI (G 34)) (lI (G 35)) (wi o) (wj o) (wk o) (lI (G 32) 0) (lI (G 33) 0) 1 := ⟨fun ⟨o, a, b⟩ => ⟨o, a, (rWs_iff h3 h5 (h1 0 (by omega)) (h2 0 (by omega)) a).mp b⟩, fun ⟨o, a, b⟩ => ⟨o, a, (rWs_iff h3 h5 (h1 0 (by omega)) (h2 0 (by omega)) a).mpr b⟩⟩
  rw [e1, e2]
  refine or_congr Iff.rfl (or_congr Iff.rfl ⟨?_, ?_⟩)
  · rintro ⟨i, hi, j, hj, hij, k, hk, n, hn, hkn, h⟩
    exact ⟨i, j, k, n, hij, hj, hkn, hn, (rCr_iff h1 h2 h3 h5 hi hj hk hn).mp h⟩
  · rintro ⟨i, j, k, n, hij, hj, hkn, hn, h⟩
    exact ⟨i, by omega, j, hj, hij, k, by omega, n, hn, hkn, (rCr_iff h1 h2 h3 h5 (by omega) hj (by omega) hn).mpr h⟩

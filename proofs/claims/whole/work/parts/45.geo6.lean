/-- bounds -/
def bd (B x : Int) : Prop := -B ≤ x ∧ x ≤ B
theorem bd_mul {A B x y : Int} (hx : bd A x) (hy : bd B y) : bd (A * B) (x * y) := by
  obtain ⟨x1, x2⟩ := hx
  obtain ⟨y1, y2⟩ := hy
  have h1 := Int.mul_nonneg (show 0 ≤ A - x by omega) (show 0 ≤ B + y by omega)
  have h2 := Int.mul_nonneg (show 0 ≤ A + x by omega) (show 0 ≤ B - y by omega)
  have h3 := Int.mul_nonneg (show 0 ≤ A - x by omega) (show 0 ≤ B - y by omega)
  have h4 := Int.mul_nonneg (show 0 ≤ A + x by omega) (show 0 ≤ B + y by omega)
  rw [Int.sub_mul, Int.mul_add, Int.mul_add] at h1
  rw [Int.add_mul, Int.mul_sub, Int.mul_sub] at h2
  rw [Int.sub_mul, Int.mul_sub, Int.mul_sub] at h3
  rw [Int.add_mul, Int.mul_add, Int.mul_add] at h4
  unfold bd
  omega
theorem i_sub {x y : Int32} (h : bd 2000000000 (x.toInt - y.toInt)) : (x - y).toInt = x.toInt - y.toInt := by
  rw [Int32.toInt_sub]
  exact Int.bmod_eq_of_le (by obtain ⟨h1, h2⟩ := h; omega) (by obtain ⟨h1, h2⟩ := h; omega)
theorem i_add {x y : Int32} (h : bd 2000000000 (x.toInt + y.toInt)) : (x + y).toInt = x.toInt + y.toInt := by
  rw [Int32.toInt_add]
  exact Int.bmod_eq_of_le (by obtain ⟨h1, h2⟩ := h; omega) (by obtain ⟨h1, h2⟩ := h; omega)
theorem i_mul {x y : Int32} (h : bd 2000000000 (x.toInt * y.toInt)) : (x * y).toInt = x.toInt * y.toInt := by
  rw [Int32.toInt_mul]
  exact Int.bmod_eq_of_le (by obtain ⟨h1, h2⟩ := h; omega) (by obtain ⟨h1, h2⟩ := h; omega)
theorem l_sub {x y : Int64} (h : bd 2000000000 (x.toInt - y.toInt)) : (x - y).toInt = x.toInt - y.toInt := by
  rw [Int64.toInt_sub]
  exact Int.bmod_eq_of_le (by obtain ⟨h1, h2⟩ := h; omega) (by obtain ⟨h1, h2⟩ := h; omega)
theorem l_mul {x y : Int64} (h : bd 2000000000 (x.toInt * y.toInt)) : (x * y).toInt = x.toInt * y.toInt := by
  rw [Int64.toInt_mul]
  exact Int.bmod_eq_of_le (by obtain ⟨h1, h2⟩ := h; omega) (by obtain ⟨h1, h2⟩ := h; omega)
def gI (g : Nat → Int32) (k : Nat) : Int := (g k).toInt
/-- all corners near -/
def near (n : Nat) (g : Nat → Int32) : Prop := ∀ k, k < n → bd 3000 (g k).toInt
theorem fTrn_I {gx gy hx hy : Nat → Int32} {i j k : Nat} (h1 : bd 3000 (gx i).toInt) (h2 : bd 3000 (gx j).toInt) (h3 : bd 3000 (gy i).toInt) (h4 : bd 3000 (gy j).toInt) (h5 : bd 3000 (hx k).toInt) (h6 : bd 3000 (hy k).toInt) : (fTrn gx gy i j hx hy k).toInt = tn (gI gx) (gI gy) i j (gI hx k) (gI hy k) := by
  have dx : (gx j - gx i).toInt = (gx j).toInt - (gx i).toInt := i_sub (by unfold bd at *; omega)
  have dy : (gy j - gy i).toInt = (gy j).toInt - (gy i).toInt := i_sub (by unfold bd at *; omega)
  have bx : bd 6000 ((gx j).toInt - (gx i).toInt) := by unfold bd at *; omega
  have by_ : bd 6000 ((gy j).toInt - (gy i).toInt) := by unfold bd at *; omega
  have m1 := bd_mul bx h6
  have m2 := bd_mul by_ h5
  have m3 := bd_mul bx h3
  have m4 := bd_mul by_ h1
  have w : ∀ x, bd (6000 * 3000) x → bd 2000000000 x := fun x h => by unfold bd at *; omega
  have p1 : ((gx j - gx i) * hy k).toInt = ((gx j).toInt - (gx i).toInt) * (hy k).toInt := by rw [i_mul (by rw [dx]; exact w _ m1), dx]
  have p2 : ((gy j - gy i) * hx k).toInt = ((gy j).toInt - (gy i).toInt) * (hx k).toInt := by rw [i_mul (by rw [dy]; exact w _ m2), dy]
  have p3 : ((gx j - gx i) * gy i).toInt = ((gx j).toInt - (gx i).toInt) * (gy i).toInt := by rw [i_mul (by rw [dx]; exact w _ m3), dx]
  have p4 : ((gy j - gy i) * gx i).toInt = ((gy j).toInt - (gy i).toInt) * (gx i).toInt := by rw [i_mul (by rw [dy]; exact w _ m4), dy]
  have q1 : ((gx j - gx i) * hy k - (gy j - gy i) * hx k).toInt = ((gx j).toInt - (gx i).toInt) * (hy k).toInt - ((gy j).toInt - (gy i).toInt) * (hx k).toInt := by rw [i_sub (by rw [p1, p2]; unfold bd at *; omega), p1, p2]
  have q2 : ((gx j - gx i) * gy i - (gy j - gy i) * gx i).toInt = ((gx j).toInt - (gx i).toInt) * (gy i).toInt - ((gy j).toInt - (gy i).toInt) * (gx i).toInt := by rw [i_sub (by rw [p3, p4]; unfold bd at *; omega), p3, p4]
  unfold fTrn
  rw [i_sub (by rw [q1, q2]; unfold bd at *; omega), q1, q2]
  unfold tn gI
  grind
theorem i32_pos {x : Int32} : (¬ x ≤ 0) ↔ 0 < x.toInt := by
  rw [Int32.le_iff_toInt_le]
  have : (0 : Int32).toInt = 0 := rfl
  omega
theorem i32_neg {x : Int32} : (¬ 0 ≤ x) ↔ x.toInt < 0 := by
  rw [Int32.le_iff_toInt_le]
  have : (0 : Int32).toInt = 0 := rfl
  omega
theorem i32_lt0 {x : Int32} : x < 0 ↔ x.toInt < 0 := by
  rw [Int32.lt_iff_toInt_lt]
  have : (0 : Int32).toInt = 0 := rfl
  omega
theorem i32_gt0 {x : Int32} : 0 < x ↔ 0 < x.toInt := by
  rw [Int32.lt_iff_toInt_lt]
  have : (0 : Int32).toInt = 0 := rfl
  omega
theorem anyP_iff {f : Nat → Int32} {n : Nat} : anyP f n = true ↔ ∃ k, k < n ∧ 0 < (f k).toInt := by
  induction n with
  | zero => exact ⟨fun h => (by cases h), fun ⟨k, h, _⟩ => absurd h (Nat.not_lt_zero _)⟩
  | succ n ih =>
    rw [anyP_s, ih, i32_pos]
    constructor
    · rintro (⟨k, h1, h2⟩ | h)
      · exact ⟨k, by omega, h2⟩
      · exact ⟨n, by omega, h⟩
    · rintro ⟨k, h1, h2⟩
      by_cases e : k = n
      · rw [e] at h2; exact Or.inr h2
      · exact Or.inl ⟨k, by omega, h2⟩
theorem anyN_iff {f : Nat → Int32} {n : Nat} : anyN f n = true ↔ ∃ k, k < n ∧ (f k).toInt < 0 := by
  induction n with
  | zero => exact ⟨fun h => (by cases h), fun ⟨k, h, _⟩ => absurd h (Nat.not_lt_zero _)⟩
  | succ n ih =>
    rw [anyN_s, ih, i32_neg]
    constructor
    · rintro (⟨k, h1, h2⟩ | h)
      · exact ⟨k, by omega, h2⟩
      · exact ⟨n, by omega, h⟩
    · rintro ⟨k, h1, h2⟩
      by_cases e : k = n
      · rw [e] at h2; exact Or.inr h2
      · exact Or.inl ⟨k, by omega, h2⟩
theorem allB_iff {s : Bool} {f : Nat → Int32} {n : Nat} : allB s f n = true ↔ ∀ k, k < n → if s = true then (f k).toInt < 0 else 0 < (f k).toInt := by
  induction n with
  | zero => exact ⟨fun _ k h => absurd h (Nat.not_lt_zero _), fun _ => rfl⟩
  | succ n ih =>
    rw [allB, Bool.and_eq_true, ih]
    constructor
    · rintro ⟨h1, h2⟩ k hk
      by_cases e : k = n
      · subst e
        split at h2
        · rename_i q; rw [if_pos q]; exact i32_lt0.mp (of_decide_eq_true h2)
        · rename_i q; rw [if_neg q]; exact i32_gt0.mp (of_decide_eq_true h2)
      · exact h1 k (by omega)
    · intro h
      refine ⟨fun k hk => h k (by omega), ?_⟩
      have h2 := h n (by omega)
      split at h2
      · rename_i q; rw [if_pos q]; exact decide_eq_true (i32_lt0.mpr h2)
      · rename_i q; rw [if_neg q]; exact decide_eq_true (i32_gt0.mpr h2)
/-- an edge of a figure of n corners beside one of m -/
def sepN (n : Nat) (gx gy : Nat → Int) (m : Nat) (hx hy : Nat → Int) : Prop := ∃ i j, i < n ∧ j < n ∧ (∀ k, k < n → tn gx gy i j (gx k) (gy k) ≤ 0) ∧ ∀ k, k < m → 0 < tn gx gy i j (hx k) (hy k)
def nflN (n : Nat) (gx gy : Nat → Int) : Prop := ∃ i j k, i < n ∧ j < n ∧ k < n ∧ tn gx gy i j (gx k) (gy k) ≠ 0
theorem tn_swap (gx gy : Nat → Int) (i j : Nat) (x y : Int) : tn gx gy j i x y = -tn gx gy i j x y := by unfold tn; grind
theorem flat_all {n : Nat} {gx gy : Nat → Int} (h : nflN n gx gy) {i j : Nat} {x y : Int} (hd : tn gx gy i j x y ≠ 0) : ∃ k, k < n ∧ tn gx gy i j (gx k) (gy k) ≠ 0 := by
  apply Classical.byContradiction
  intro hc
  have hz : ∀ k, k < n → tn gx gy i j (gx k) (gy k) = 0 := fun k hk => Classical.byContradiction (fun z => hc ⟨k, hk, z⟩)
  obtain ⟨a, b, c, l1, l2, l3, hn⟩ := h
  apply hn
  have z1 := hz a l1
  have z2 := hz b l2
  have z3 := hz c l3
  have hp := dt_pos (p := gx j - gx i) (q := gy j - gy i) (fun z => hd (by unfold tn; rw [z.1, z.2]; omega))
  refine zero_of_mul hp ?_
  unfold tn at z1 z2 z3 ⊢
  unfold dt
  grind
theorem edB_sep {n m : Nat} {gx gy hx hy : Nat → Int32} (hm : 0 < m) (bgx : near n gx) (bgy : near n gy) (bhx : near m hx) (bhy : near m hy) (hn : nflN n (gI gx) (gI gy)) : edB n gx gy m hx hy = true ↔ sepN n (gI gx) (gI gy) m (gI hx) (gI hy) := by
  rw [edB_iff]
  have tg : ∀ i j k, i < n → j < n → k < n → (fTrn gx gy i j gx gy k).toInt = tn (gI gx) (gI gy) i j (gI gx k) (gI gy k) := fun i j k a b c => fTrn_I (bgx i a) (bgx j b) (bgy i a) (bgy j b) (bgx k c) (bgy k c)
  have th : ∀ i j k, i < n → j < n → k < m → (fTrn gx gy i j hx hy k).toInt = tn (gI gx) (gI gy) i j (gI hx k) (gI hy k) := fun i j k a b c => fTrn_I (bgx i a) (bgx j b) (bgy i a) (bgy j b) (bhx k c) (bhy k c)
  constructor
  · rintro ⟨i, j, hij, hj, hs⟩
    unfold sepB at hs
    rw [Bool.and_eq_true, Bool.not_eq_true', Bool.and_eq_false_iff, allB_iff] at hs
    obtain ⟨h1, h2⟩ := hs
    have hi : i < n := by omega
    by_cases hp : anyP (fTrn gx gy i j gx gy) n = true
    · have h3 : anyN (fTrn gx gy i j gx gy) n = false := h1.elim (fun z => by rw [hp] at z; cases z) id
      refine ⟨j, i, hj, hi, fun k hk => ?_, fun k hk => ?_⟩
      · rw [tn_swap, ← tg i j k hi hj hk]
        apply Classical.byContradiction
        intro z
        have : anyN (fTrn gx gy i j gx gy) n = true := anyN_iff.mpr ⟨k, hk, by omega⟩
        rw [h3] at this; cases this
      · have h4 := h2 k hk
        rw [if_pos hp, th i j k hi hj hk] at h4
        rw [tn_swap]; omega
    · refine ⟨i, j, hi, hj, fun k hk => ?_, fun k hk => ?_⟩
      · rw [← tg i j k hi hj hk]
        apply Classical.byContradiction
        intro z
        exact hp (anyP_iff.mpr ⟨k, hk, by omega⟩)
      · have h4 := h2 k hk
        rw [if_neg hp, th i j k hi hj hk] at h4
        exact h4
  · rintro ⟨i, j, hi, hj, h1, h2⟩
    have hd := h2 0 hm
    rcases Nat.lt_trichotomy i j with z | z | z
    · refine ⟨i, j, z, hj, ?_⟩
      have hp : ¬ anyP (fTrn gx gy i j gx gy) n = true := fun q => by
        obtain ⟨k, hk, q⟩ := anyP_iff.mp q
        rw [tg i j k hi hj hk] at q
        have := h1 k hk
        omega
      unfold sepB
      rw [Bool.and_eq_true, Bool.not_eq_true', Bool.and_eq_false_iff, allB_iff]
      refine ⟨Or.inl (by simpa using hp), fun k hk => ?_⟩
      rw [if_neg hp, th i j k hi hj hk]
      exact h2 k hk
    · exfalso
      rw [z] at hd
      unfold tn at hd
      omega
    · refine ⟨j, i, z, hi, ?_⟩
      obtain ⟨k0, hk0, hne⟩ := flat_all hn (Ne.symm (Int.ne_of_lt hd))
      have hp : anyP (fTrn gx gy j i gx gy) n = true := anyP_iff.mpr ⟨k0, hk0, by rw [tg j i k0 hj hi hk0, tn_swap]; have := h1 k0 hk0; unfold gI at *; omega⟩
      have hN : ¬ anyN (fTrn gx gy j i gx gy) n = true := fun q => by
        obtain ⟨k, hk, q⟩ := anyN_iff.mp q
        rw [tg j i k hj hi hk, tn_swap] at q
        have := h1 k hk
        omega
      unfold sepB
      rw [Bool.and_eq_true, Bool.not_eq_true', Bool.and_eq_false_iff, allB_iff]
      refine ⟨Or.inr (by simpa using hN), fun k hk => ?_⟩
      rw [if_pos hp, th j i k hj hi hk, tn_swap]
      have := h2 k hk
      omega

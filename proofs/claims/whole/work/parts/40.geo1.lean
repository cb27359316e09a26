/-- cross and dot of two vectors -/
def kr (a b c d : Int) : Int := a * d - b * c
def dt (a b c d : Int) : Int := a * c + b * d
def okV (p q x y : Int) : Prop := 0 < kr p q x y ∨ (kr p q x y = 0 ∧ dt p q p q ≤ dt p q x y)
def bal (vx vy : Nat → Int) (n : Nat) : Prop := ∃ i j k w1 w2 w3, i < n ∧ j < n ∧ k < n ∧ 0 ≤ w1 ∧ 0 ≤ w2 ∧ 0 ≤ w3 ∧ 0 < w1 + w2 + w3 ∧ w1 * vx i + w2 * vx j + w3 * vx k = 0 ∧ w1 * vy i + w2 * vy j + w3 * vy k = 0
theorem bal.mono {vx vy : Nat → Int} {n m : Nat} (h : bal vx vy n) (hm : n ≤ m) : bal vx vy m := by
  obtain ⟨i, j, k, w1, w2, w3, h1, h2, h3, h4⟩ := h
  exact ⟨i, j, k, w1, w2, w3, by omega, by omega, by omega, h4⟩
theorem sq_pos (x : Int) (h : x ≠ 0) : 0 < x * x := by
  rcases Int.lt_or_gt_of_ne h with q | q
  · have := Int.mul_pos_of_neg_of_neg q q; exact this
  · exact Int.mul_pos q q
theorem sq_nn (x : Int) : 0 ≤ x * x := by
  by_cases h : x = 0
  · subst h; decide
  · have := sq_pos x h; omega
theorem dt_pos {p q : Int} (h : ¬ (p = 0 ∧ q = 0)) : 0 < dt p q p q := by
  unfold dt
  have h1 := sq_nn p
  have h2 := sq_nn q
  by_cases hp : p = 0
  · have := sq_pos q (fun z => h ⟨hp, z⟩); omega
  · have := sq_pos p hp; omega
theorem pos_of_mul {a b : Int} (ha : 0 < a) (h : 0 < a * b) : 0 < b := by
  rcases Int.lt_or_le 0 b with q | q
  · exact q
  · have := Int.mul_nonneg (a := a) (b := -b) (by omega) (by omega)
    rw [Int.mul_neg] at this; omega
theorem nn_of_mul {a b : Int} (ha : 0 < a) (h : 0 ≤ a * b) : 0 ≤ b := by
  rcases Int.lt_or_le b 0 with q | q
  · have := Int.mul_pos (a := a) (b := -b) ha (by omega)
    rw [Int.mul_neg] at this; omega
  · exact q
theorem zero_of_mul {a b : Int} (ha : 0 < a) (h : a * b = 0) : b = 0 := by
  rcases Int.mul_eq_zero.mp h with q | q
  · omega
  · exact q
theorem okV.self {p q : Int} : okV p q p q := Or.inr ⟨by unfold kr; grind, Int.le_refl _⟩
/-- of finitely many vectors: 0 among their mixtures, or one that has all others on its left -/
theorem ext (vx vy : Nat → Int) (n : Nat) : bal vx vy (n + 1) ∨ ∃ r, r < n + 1 ∧ (∀ k, k < n + 1 → okV (vx r) (vy r) (vx k) (vy k)) ∧ 0 < dt (vx r) (vy r) (vx r) (vy r) := by
  induction n with
  | zero =>
    by_cases h : vx 0 = 0 ∧ vy 0 = 0
    · left
      exact ⟨0, 0, 0, 1, 0, 0, by omega, by omega, by omega, by omega, by omega, by omega, by omega, by rw [h.1]; decide, by rw [h.2]; decide⟩
    · right
      refine ⟨0, by omega, fun k hk => ?_, dt_pos h⟩
      rw [show k = 0 by omega]
      exact okV.self
  | succ n ih =>
    rcases ih with ih | ⟨r, hr, ho, hd⟩
    · exact Or.inl (ih.mono (by omega))
    · generalize hx : vx (n + 1) = x
      generalize hy : vy (n + 1) = y
      generalize hp : vx r = p at *
      generalize hq : vy r = q at *
      have keep : okV p q x y → bal vx vy (n + 2) ∨ ∃ r, r < n + 2 ∧ (∀ k, k < n + 2 → okV (vx r) (vy r) (vx k) (vy k)) ∧ 0 < dt (vx r) (vy r) (vx r) (vy r) := fun h => by
        right
        refine ⟨r, by omega, fun k hk => ?_, by rw [hp, hq]; exact hd⟩
        rw [hp, hq]
        by_cases e : k = n + 1
        · rw [e, hx, hy]; exact h
        · exact ho k (by omega)
      have take : (∀ k, k < n + 1 → okV x y (vx k) (vy k)) → ¬ (x = 0 ∧ y = 0) → bal vx vy (n + 2) ∨ ∃ r, r < n + 2 ∧ (∀ k, k < n + 2 → okV (vx r) (vy r) (vx k) (vy k)) ∧ 0 < dt (vx r) (vy r) (vx r) (vy r) := fun h h0 => by
        right
        refine ⟨n + 1, by omega, fun k hk => ?_, by rw [hx, hy]; exact dt_pos h0⟩
        rw [hx, hy]
        by_cases e : k = n + 1
        · rw [e, hx, hy]; exact okV.self
        · exact h k (by omega)
      rcases Int.lt_trichotomy (kr p q x y) 0 with hX | hX | hX
      · by_cases hall : ∀ k, k < n + 1 → okV x y (vx k) (vy k)
        · exact take hall (fun h => by rw [h.1, h.2] at hX; unfold kr at hX; omega)
        · left
          obtain ⟨k, hk⟩ := Classical.not_forall.mp hall
          obtain ⟨hk1, hk2⟩ := Classical.not_imp.mp hk
          have h1 : kr x y (vx k) (vy k) ≤ 0 := Int.not_lt.mp (fun z => hk2 (Or.inl z))
          have h2 : 0 ≤ kr p q (vx k) (vy k) := by
            rcases ho k hk1 with z | z
            · omega
            · omega
          refine ⟨n + 1, r, k, kr p q (vx k) (vy k), -kr x y (vx k) (vy k), -kr p q x y, by omega, by omega, by omega, h2, by omega, by omega, by omega, ?_, ?_⟩
          · rw [hx, hp]; unfold kr; grind
          · rw [hy, hq]; unfold kr; grind
      · by_cases hD : dt p q p q ≤ dt p q x y
        · exact keep (Or.inr ⟨hX, hD⟩)
        · by_cases hD0 : dt p q x y ≤ 0
          · left
            refine ⟨n + 1, r, r, dt p q p q, -dt p q x y, 0, by omega, by omega, by omega, by omega, by omega, by omega, by omega, ?_, ?_⟩
            · rw [hx, hp]; unfold kr at hX; unfold dt; grind
            · rw [hy, hq]; unfold kr at hX; unfold dt; grind
          · refine take (fun k hk => ?_) (fun h => hD0 (by rw [h.1, h.2]; unfold dt; omega))
            have hok := ho k hk
            generalize hu : vx k = u at *
            generalize hv : vy k = v at *
            have e1 : dt p q p q * kr x y u v = dt p q x y * kr p q u v := by unfold kr at hX; unfold dt kr; grind
            have e2 : dt p q p q * dt x y u v = dt p q x y * dt p q u v := by unfold kr at hX; unfold dt; grind
            have e3 : dt p q p q * dt x y x y = dt p q x y * dt p q x y := by unfold kr at hX; unfold dt; grind
            rcases hok with z | ⟨z1, z2⟩
            · left
              exact pos_of_mul hd (by rw [e1]; exact Int.mul_pos (by omega) z)
            · right
              refine ⟨zero_of_mul hd (by rw [e1, z1, Int.mul_zero]), ?_⟩
              have h9 : 0 ≤ dt p q p q * (dt x y u v - dt x y x y) := by
                rw [Int.mul_sub, e2, e3, ← Int.mul_sub]
                exact Int.mul_nonneg (by omega) (by omega)
              have := nn_of_mul hd h9
              omega
      · exact keep (Or.inl hX)
/-- the first vector to the right of (p, q) -/
theorem fh (p q : Int) (vx vy : Nat → Int) (n : Nat) : (∀ r, r < n → 0 ≤ kr p q (vx r) (vy r)) ∨ ∃ d, d < n ∧ kr p q (vx d) (vy d) < 0 ∧ ∀ r, r < n → kr p q (vx r) (vy r) < 0 → kr (vx d) (vy d) (vx r) (vy r) ≤ 0 := by
  induction n with
  | zero => exact Or.inl (fun r h => absurd h (Nat.not_lt_zero _))
  | succ n ih =>
    by_cases hn : 0 ≤ kr p q (vx n) (vy n)
    · rcases ih with ih | ⟨d, h1, h2, h3⟩
      · left
        intro r hr
        by_cases e : r = n
        · rw [e]; exact hn
        · exact ih r (by omega)
      · right
        refine ⟨d, by omega, h2, fun r hr h => ?_⟩
        by_cases e : r = n
        · rw [e] at h; omega
        · exact h3 r (by omega) h
    · right
      rcases ih with ih | ⟨d, h1, h2, h3⟩
      · refine ⟨n, by omega, by omega, fun r hr h => ?_⟩
        by_cases e : r = n
        · rw [e]; unfold kr; grind
        · have := ih r (by omega); omega
      · by_cases hd : kr (vx d) (vy d) (vx n) (vy n) ≤ 0
        · refine ⟨d, by omega, h2, fun r hr h => ?_⟩
          by_cases e : r = n
          · rw [e]; exact hd
          · exact h3 r (by omega) h
        · refine ⟨n, by omega, by omega, fun r hr h => ?_⟩
          by_cases e : r = n
          · rw [e]; unfold kr; grind
          · have h4 := h3 r (by omega) h
            have e1 : (-kr p q (vx d) (vy d)) * (-kr (vx n) (vy n) (vx r) (vy r)) = (-kr p q (vx n) (vy n)) * (-kr (vx d) (vy d) (vx r) (vy r)) + (-kr p q (vx r) (vy r)) * kr (vx d) (vy d) (vx n) (vy n) := by unfold kr; grind
            have h5 : 0 ≤ (-kr p q (vx n) (vy n)) * (-kr (vx d) (vy d) (vx r) (vy r)) := Int.mul_nonneg (by omega) (by omega)
            have h6 : 0 ≤ (-kr p q (vx r) (vy r)) * kr (vx d) (vy d) (vx n) (vy n) := Int.mul_nonneg (by omega) (by omega)
            have h7 := nn_of_mul (a := -kr p q (vx d) (vy d)) (by omega) (by rw [e1]; omega)
            omega
/-- the least quotient -/
theorem amin (α μ : Nat → Int) (n : Nat) : (∀ j, j < n → μ j ≤ 0) ∨ ∃ k, k < n ∧ 0 < μ k ∧ ∀ j, j < n → 0 < μ j → α k * μ j ≤ α j * μ k := by
  induction n with
  | zero => exact Or.inl (fun r h => absurd h (Nat.not_lt_zero _))
  | succ n ih =>
    by_cases hn : μ n ≤ 0
    · rcases ih with ih | ⟨d, h1, h2, h3⟩
      · left
        intro r hr
        by_cases e : r = n
        · rw [e]; exact hn
        · exact ih r (by omega)
      · right
        refine ⟨d, by omega, h2, fun r hr h => ?_⟩
        by_cases e : r = n
        · rw [e] at h; omega
        · exact h3 r (by omega) h
    · right
      rcases ih with ih | ⟨d, h1, h2, h3⟩
      · refine ⟨n, by omega, by omega, fun r hr h => ?_⟩
        by_cases e : r = n
        · rw [e]; exact Int.le_refl _
        · have := ih r (by omega); omega
      · by_cases hd : α d * μ n ≤ α n * μ d
        · refine ⟨d, by omega, h2, fun r hr h => ?_⟩
          by_cases e : r = n
          · rw [e]; exact hd
          · exact h3 r (by omega) h
        · refine ⟨n, by omega, by omega, fun r hr h => ?_⟩
          by_cases e : r = n
          · rw [e]; exact Int.le_refl _
          · have h4 := h3 r (by omega) h
            have e1 : μ d * (α r * μ n - α n * μ r) = μ n * (α r * μ d - α d * μ r) + μ r * (α d * μ n - α n * μ d) := by grind
            have h5 : 0 ≤ μ n * (α r * μ d - α d * μ r) := Int.mul_nonneg (by omega) (by omega)
            have h6 : 0 ≤ μ r * (α d * μ n - α n * μ d) := Int.mul_nonneg (by omega) (by omega)
            have h7 := nn_of_mul (a := μ d) h2 (by rw [e1]; omega)
            omega

/-- the turn of (x, y) about the straight line through corners i and j -/
def tn (gx gy : Nat → Int) (i j : Nat) (x y : Int) : Int := (gx j - gx i) * (y - gy i) - (gy j - gy i) * (x - gx i)
/-- some three corners lie on no straight line -/
def nfl (gx gy : Nat → Int) : Prop := ∃ i j k, i < 4 ∧ j < 4 ∧ k < 4 ∧ tn gx gy i j (gx k) (gy k) ≠ 0
/-- corners i, j have their own figure on the right and the other one beyond on the left -/
def sepI (gx gy hx hy : Nat → Int) : Prop := ∃ i j, i < 4 ∧ j < 4 ∧ (∀ k, k < 4 → tn gx gy i j (gx k) (gy k) ≤ 0) ∧ ∀ k, k < 4 → 0 < tn gx gy i j (hx k) (hy k)
def cvx (ax bx : Nat → Int) (r : Nat) : Int := bx (r / 4) - ax (r % 4)
theorem sep_or_bal (ax ay bx by_ : Nat → Int) (hA : nfl ax ay) : bal (cvx ax bx) (cvx ay by_) 16 ∨ sepI ax ay bx by_ ∨ sepI bx by_ ax ay := by
  rcases ext (cvx ax bx) (cvx ay by_) 15 with h | ⟨r, hr, ho, hd⟩
  · exact Or.inl h
  · right
    have hi : r % 4 < 4 := by omega
    have hk : r / 4 < 4 := by omega
    have hc : ∀ i k, i < 4 → k < 4 → okV (bx (r / 4) - ax (r % 4)) (by_ (r / 4) - ay (r % 4)) (bx k - ax i) (by_ k - ay i) := fun i k h1 h2 => by
      have h3 := ho (4 * k + i) (by omega)
      unfold cvx at h3
      rw [show (4 * k + i) / 4 = k by omega, show (4 * k + i) % 4 = i by omega] at h3
      exact h3
    unfold cvx at hd
    generalize r % 4 = i0 at *
    generalize r / 4 = k0 at *
    generalize hp : bx k0 - ax i0 = p at *
    generalize hq : by_ k0 - ay i0 = q at *
    -- the vectors that the line meets when it turns
    have ha : ∀ i, i < 4 → kr p q (ax i - ax i0) (ay i - ay i0) ≤ 0 ∧ (kr p q (ax i - ax i0) (ay i - ay i0) = 0 → dt p q (ax i - ax i0) (ay i - ay i0) ≤ 0) := fun i h => by
      have e1 : kr p q (bx k0 - ax i) (by_ k0 - ay i) = -kr p q (ax i - ax i0) (ay i - ay i0) := by unfold kr; grind
      have e2 : dt p q (bx k0 - ax i) (by_ k0 - ay i) = dt p q p q - dt p q (ax i - ax i0) (ay i - ay i0) := by unfold dt; grind
      rcases hc i k0 h hk with z | ⟨z1, z2⟩
      · exact ⟨by omega, fun z2 => by omega⟩
      · exact ⟨by omega, fun _ => by omega⟩
    have hb : ∀ k, k < 4 → kr p q (bx k0 - bx k) (by_ k0 - by_ k) ≤ 0 ∧ (kr p q (bx k0 - bx k) (by_ k0 - by_ k) = 0 → dt p q (bx k0 - bx k) (by_ k0 - by_ k) ≤ 0) := fun k h => by
      have e1 : kr p q (bx k - ax i0) (by_ k - ay i0) = -kr p q (bx k0 - bx k) (by_ k0 - by_ k) := by unfold kr; grind
      have e2 : dt p q (bx k - ax i0) (by_ k - ay i0) = dt p q p q - dt p q (bx k0 - bx k) (by_ k0 - by_ k) := by unfold dt; grind
      rcases hc i0 k hi h with z | ⟨z1, z2⟩
      · exact ⟨by omega, fun z2 => by omega⟩
      · exact ⟨by omega, fun _ => by omega⟩
    -- every vector behind the first one is to its right
    have fin : ∀ dx dy vx vy : Int, kr p q dx dy < 0 → kr p q vx vy ≤ 0 → (kr p q vx vy = 0 → dt p q vx vy ≤ 0) → (kr p q vx vy < 0 → kr dx dy vx vy ≤ 0) → kr dx dy vx vy ≤ 0 := fun dx dy vx vy h1 h2 h3 h4 => by
      rcases Int.lt_or_eq_of_le h2 with z | z
      · exact h4 z
      · have h5 := h3 z
        have e1 : dt p q p q * (-kr dx dy vx vy) = (-dt p q vx vy) * (-kr p q dx dy) := by unfold kr at z; unfold dt kr; grind
        have h6 := nn_of_mul hd (b := -kr dx dy vx vy) (by rw [e1]; exact Int.mul_nonneg (by omega) (by omega))
        omega
    rcases fh p q (fun r => if r < 4 then ax r - ax i0 else bx k0 - bx (r - 4)) (fun r => if r < 4 then ay r - ay i0 else by_ k0 - by_ (r - 4)) 8 with h | ⟨d, h1, h2, h3⟩
    · exfalso
      obtain ⟨i, j, k, l1, l2, l3, hn⟩ := hA
      have hz : ∀ i, i < 4 → kr p q (ax i - ax i0) (ay i - ay i0) = 0 := fun i h4 => by
        have h5 := h i (by omega)
        simp only [h4, if_true] at h5
        have := (ha i h4).1
        omega
      apply hn
      have z1 := hz i l1
      have z2 := hz j l2
      have z3 := hz k l3
      have e : dt p q p q * tn ax ay i j (ax k) (ay k) = 0 := by
        unfold tn dt; unfold kr at z1 z2 z3; grind
      exact zero_of_mul hd e
    · have ga : ∀ i, i < 4 → kr p q (ax i - ax i0) (ay i - ay i0) < 0 → kr (if d < 4 then ax d - ax i0 else bx k0 - bx (d - 4)) (if d < 4 then ay d - ay i0 else by_ k0 - by_ (d - 4)) (ax i - ax i0) (ay i - ay i0) ≤ 0 := fun i h4 h5 => by
        have h6 := h3 i (by omega)
        simp only [h4, if_true] at h6
        exact h6 h5
      have gb : ∀ k, k < 4 → kr p q (bx k0 - bx k) (by_ k0 - by_ k) < 0 → kr (if d < 4 then ax d - ax i0 else bx k0 - bx (d - 4)) (if d < 4 then ay d - ay i0 else by_ k0 - by_ (d - 4)) (bx k0 - bx k) (by_ k0 - by_ k) ≤ 0 := fun k h4 h5 => by
        have h6 := h3 (k + 4) (by omega)
        simp only [show ¬ (k + 4 < 4) by omega, if_false, Nat.add_sub_cancel] at h6
        exact h6 h5
      by_cases hd4 : d < 4
      · left
        simp only [hd4, if_true] at h2 ga gb
        have e0 : kr (ax d - ax i0) (ay d - ay i0) p q = -kr p q (ax d - ax i0) (ay d - ay i0) := by unfold kr; grind
        refine ⟨i0, d, hi, hd4, fun i h4 => ?_, fun k h4 => ?_⟩
        · have := fin _ _ _ _ h2 (ha i h4).1 (ha i h4).2 (ga i h4)
          unfold tn; unfold kr at this; omega
        · have h9 := fin _ _ _ _ h2 (hb k h4).1 (hb k h4).2 (gb k h4)
          have e1 : tn ax ay i0 d (bx k) (by_ k) = kr (ax d - ax i0) (ay d - ay i0) p q - kr (ax d - ax i0) (ay d - ay i0) (bx k0 - bx k) (by_ k0 - by_ k) := by unfold tn kr; grind
          omega
      · right
        simp only [hd4, if_false] at h2 ga gb
        have e0 : kr (bx k0 - bx (d - 4)) (by_ k0 - by_ (d - 4)) p q = -kr p q (bx k0 - bx (d - 4)) (by_ k0 - by_ (d - 4)) := by unfold kr; grind
        refine ⟨k0, d - 4, hk, by omega, fun k h4 => ?_, fun i h4 => ?_⟩
        · have h9 := fin _ _ _ _ h2 (hb k h4).1 (hb k h4).2 (gb k h4)
          have e1 : tn bx by_ k0 (d - 4) (bx k) (by_ k) = kr (bx k0 - bx (d - 4)) (by_ k0 - by_ (d - 4)) (bx k0 - bx k) (by_ k0 - by_ k) := by unfold tn kr; grind
          omega
        · have h9 := fin _ _ _ _ h2 (ha i h4).1 (ha i h4).2 (ga i h4)
          have e1 : tn bx by_ k0 (d - 4) (ax i) (ay i) = kr (bx k0 - bx (d - 4)) (by_ k0 - by_ (d - 4)) p q - kr (bx k0 - bx (d - 4)) (by_ k0 - by_ (d - 4)) (ax i - ax i0) (ay i - ay i0) := by unfold tn kr; grind
          omega

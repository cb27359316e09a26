/-- a point (X / W, Y / W) that is a mixture of the corners -/
def hul (gx gy : Nat → Int) (X Y W : Int) : Prop := ∃ α : Nat → Int, (∀ i, 0 ≤ α i) ∧ X = α 0 * gx 0 + α 1 * gx 1 + α 2 * gx 2 + α 3 * gx 3 ∧ Y = α 0 * gy 0 + α 1 * gy 1 + α 2 * gy 2 + α 3 * gy 3 ∧ W = α 0 + α 1 + α 2 + α 3
theorem lt4c {k : Nat} (h : k < 4) : k = 0 ∨ k = 1 ∨ k = 2 ∨ k = 3 := by omega
theorem hul_pt (gx gy : Nat → Int) {i : Nat} (h : i < 4) : hul gx gy (gx i) (gy i) 1 := by
  refine ⟨fun j => if j = i then 1 else 0, fun j => by show 0 ≤ (if j = i then (1 : Int) else 0); split <;> omega, ?_⟩
  rcases lt4c h with rfl | rfl | rfl | rfl <;> simp
theorem hul_add {gx gy : Nat → Int} {X Y W X2 Y2 W2 u v : Int} (h : hul gx gy X Y W) (h2 : hul gx gy X2 Y2 W2) (hu : 0 ≤ u) (hv : 0 ≤ v) : hul gx gy (u * X + v * X2) (u * Y + v * Y2) (u * W + v * W2) := by
  obtain ⟨α, a0, rfl, rfl, rfl⟩ := h
  obtain ⟨β, b0, rfl, rfl, rfl⟩ := h2
  refine ⟨fun i => u * α i + v * β i, fun i => ?_, by grind, by grind, by grind⟩
  have := Int.mul_nonneg hu (a0 i)
  have := Int.mul_nonneg hv (b0 i)
  show 0 ≤ u * α i + v * β i
  omega
/-- the turn of a point with a weight -/
def tw (gx gy : Nat → Int) (i j : Nat) (X Y W : Int) : Int := (gx j - gx i) * (Y - gy i * W) - (gy j - gy i) * (X - gx i * W)
/-- inside or on a triangle that is not flat -/
def inT (gx gy : Nat → Int) (i j k : Nat) (X Y W : Int) : Prop := tn gx gy i j (gx k) (gy k) ≠ 0 ∧ 0 ≤ tn gx gy i j (gx k) (gy k) * tw gx gy i j X Y W ∧ 0 ≤ tn gx gy i j (gx k) (gy k) * tw gx gy j k X Y W ∧ 0 ≤ tn gx gy i j (gx k) (gy k) * tw gx gy k i X Y W
theorem nn2 {D a b x y : Int} (h1 : 0 ≤ a) (h2 : 0 ≤ b) (hx : a = D * x) (e : D * y = b) (hy : a = D * x) : 0 ≤ D * y := by omega
theorem prod_nn {m a b : Int} (hm : 0 < m) (h : 0 ≤ a * m - b) : 0 ≤ m * (a * m - b) := Int.mul_nonneg (by omega) h
/-- a mixture of four corners lies in one of the triangles -/
theorem tri {gx gy : Nat → Int} (hn : nfl gx gy) {X Y W : Int} (h : hul gx gy X Y W) : ∃ o, o < 4 ∧ inT gx gy (wi o) (wj o) (wk o) X Y W := by
  obtain ⟨α, a0, eX, eY, eW⟩ := h
  generalize hm0 : tn gx gy 1 2 (gx 3) (gy 3) = m0
  generalize hm1 : -tn gx gy 0 2 (gx 3) (gy 3) = m1
  generalize hm2 : tn gx gy 0 1 (gx 3) (gy 3) = m2
  generalize hm3 : -tn gx gy 0 1 (gx 2) (gy 2) = m3
  have hsum : m0 + m1 + m2 + m3 = 0 := by rw [← hm0, ← hm1, ← hm2, ← hm3]; unfold tn; grind
  have hne : ¬ (m0 = 0 ∧ m1 = 0 ∧ m2 = 0 ∧ m3 = 0) := by
    rintro ⟨z0, z1, z2, z3⟩
    obtain ⟨i, j, k, l1, l2, l3, hn⟩ := hn
    apply hn
    have z0 : tn gx gy 1 2 (gx 3) (gy 3) = 0 := by omega
    have z1 : tn gx gy 0 2 (gx 3) (gy 3) = 0 := by omega
    have z2 : tn gx gy 0 1 (gx 3) (gy 3) = 0 := by omega
    have z3 : tn gx gy 0 1 (gx 2) (gy 2) = 0 := by omega
    unfold tn at z0 z1 z2 z3 ⊢
    rcases lt4c l1 with rfl | rfl | rfl | rfl <;> rcases lt4c l2 with rfl | rfl | rfl | rfl <;> rcases lt4c l3 with rfl | rfl | rfl | rfl <;> grind
  rcases amin α (fun i => if i = 0 then m0 else if i = 1 then m1 else if i = 2 then m2 else m3) 4 with z | ⟨o, ho, h1, h2⟩
  · exfalso
    have z0 := z 0 (by omega)
    have z1 := z 1 (by omega)
    have z2 := z 2 (by omega)
    have z3 := z 3 (by omega)
    simp at z0 z1 z2 z3
    omega
  · have w : ∀ j, j < 4 → 0 ≤ α j * (if o = 0 then m0 else if o = 1 then m1 else if o = 2 then m2 else m3) - α o * (if j = 0 then m0 else if j = 1 then m1 else if j = 2 then m2 else m3) := fun j hj => by
      by_cases hp : 0 < (if j = 0 then m0 else if j = 1 then m1 else if j = 2 then m2 else m3)
      · have := h2 j hj hp
        omega
      · have h3 := Int.mul_nonneg (a0 j) (Int.le_of_lt h1)
        have h4 := Int.mul_nonneg (a0 o) (b := -(if j = 0 then m0 else if j = 1 then m1 else if j = 2 then m2 else m3)) (by omega)
        rw [Int.mul_neg] at h4
        omega
    have w0 := w 0 (by omega)
    have w1 := w 1 (by omega)
    have w2 := w 2 (by omega)
    have w3 := w 3 (by omega)
    clear w h2
    refine ⟨o, ho, ?_⟩
    rcases lt4c ho with rfl | rfl | rfl | rfl
    · simp at h1 w0 w1 w2 w3
      show inT gx gy 1 2 3 X Y W
      unfold inT
      have e1 : tw gx gy 1 2 X Y W = α 3 * m0 - α 0 * m3 := by rw [eX, eY, eW, ← hm0, ← hm3]; unfold tw tn; grind
      have e2 : tw gx gy 2 3 X Y W = α 1 * m0 - α 0 * m1 := by rw [eX, eY, eW, ← hm0, ← hm1]; unfold tw tn; grind
      have e3 : tw gx gy 3 1 X Y W = α 2 * m0 - α 0 * m2 := by rw [eX, eY, eW, ← hm0, ← hm2]; unfold tw tn; grind
      rw [hm0, e1, e2, e3]
      exact ⟨by omega, Int.mul_nonneg (by omega) (by omega), Int.mul_nonneg (by omega) (by omega), Int.mul_nonneg (by omega) (by omega)⟩
    · simp at h1 w0 w1 w2 w3
      show inT gx gy 0 2 3 X Y W
      unfold inT
      have e1 : tw gx gy 0 2 X Y W = -(α 3 * m1 - α 1 * m3) := by rw [eX, eY, eW, ← hm1, ← hm3]; unfold tw tn; grind
      have e2 : tw gx gy 2 3 X Y W = -(α 0 * m1 - α 1 * m0) := by rw [eX, eY, eW, ← hm1, ← hm0]; unfold tw tn; grind
      have e3 : tw gx gy 3 0 X Y W = -(α 2 * m1 - α 1 * m2) := by rw [eX, eY, eW, ← hm1, ← hm2]; unfold tw tn; grind
      have e4 : tn gx gy 0 2 (gx 3) (gy 3) = -m1 := by omega
      rw [e4, e1, e2, e3]
      refine ⟨by omega, ?_, ?_, ?_⟩ <;> rw [Int.neg_mul_neg] <;> exact Int.mul_nonneg (by omega) (by omega)
    · simp at h1 w0 w1 w2 w3
      show inT gx gy 0 1 3 X Y W
      unfold inT
      have e1 : tw gx gy 0 1 X Y W = α 3 * m2 - α 2 * m3 := by rw [eX, eY, eW, ← hm2, ← hm3]; unfold tw tn; grind
      have e2 : tw gx gy 1 3 X Y W = α 0 * m2 - α 2 * m0 := by rw [eX, eY, eW, ← hm2, ← hm0]; unfold tw tn; grind
      have e3 : tw gx gy 3 0 X Y W = α 1 * m2 - α 2 * m1 := by rw [eX, eY, eW, ← hm2, ← hm1]; unfold tw tn; grind
      rw [hm2, e1, e2, e3]
      exact ⟨by omega, Int.mul_nonneg (by omega) (by omega), Int.mul_nonneg (by omega) (by omega), Int.mul_nonneg (by omega) (by omega)⟩
    · simp at h1 w0 w1 w2 w3
      show inT gx gy 0 1 2 X Y W
      unfold inT
      have e1 : tw gx gy 0 1 X Y W = -(α 2 * m3 - α 3 * m2) := by rw [eX, eY, eW, ← hm2, ← hm3]; unfold tw tn; grind
      have e2 : tw gx gy 1 2 X Y W = -(α 0 * m3 - α 3 * m0) := by rw [eX, eY, eW, ← hm3, ← hm0]; unfold tw tn; grind
      have e3 : tw gx gy 2 0 X Y W = -(α 1 * m3 - α 3 * m1) := by rw [eX, eY, eW, ← hm3, ← hm1]; unfold tw tn; grind
      have e4 : tn gx gy 0 1 (gx 2) (gy 2) = -m3 := by omega
      rw [e4, e1, e2, e3]
      refine ⟨by omega, ?_, ?_, ?_⟩ <;> rw [Int.neg_mul_neg] <;> exact Int.mul_nonneg (by omega) (by omega)
/-- a point with a weight on the straight piece between corners u and v -/
def onS (gx gy : Nat → Int) (u v : Nat) (X Y W : Int) : Prop := ∃ κ m n : Int, 0 < κ ∧ 0 ≤ m ∧ 0 ≤ n ∧ κ * X = m * gx u + n * gx v ∧ κ * Y = m * gy u + n * gy v ∧ κ * W = m + n
theorem onS.l (gx gy : Nat → Int) (u v : Nat) : onS gx gy u v (gx u) (gy u) 1 := ⟨1, 1, 0, by omega, by omega, by omega, by omega, by omega, by omega⟩
theorem onS.r (gx gy : Nat → Int) (u v : Nat) : onS gx gy u v (gx v) (gy v) 1 := ⟨1, 0, 1, by omega, by omega, by omega, by omega, by omega, by omega⟩
theorem onS.add {gx gy : Nat → Int} {u v : Nat} {X Y W X2 Y2 W2 s t : Int} (h : onS gx gy u v X Y W) (h2 : onS gx gy u v X2 Y2 W2) (hs : 0 ≤ s) (ht : 0 ≤ t) : onS gx gy u v (s * X + t * X2) (s * Y + t * Y2) (s * W + t * W2) := by
  obtain ⟨κ, m, n, h0, h1, h3, e1, e2, e3⟩ := h
  obtain ⟨l, p, q, g0, g1, g3, f1, f2, f3⟩ := h2
  have q1 := Int.mul_nonneg (Int.mul_nonneg hs (Int.le_of_lt g0)) h1
  have q2 := Int.mul_nonneg (Int.mul_nonneg ht (Int.le_of_lt h0)) g1
  have q3 := Int.mul_nonneg (Int.mul_nonneg hs (Int.le_of_lt g0)) h3
  have q4 := Int.mul_nonneg (Int.mul_nonneg ht (Int.le_of_lt h0)) g3
  exact ⟨κ * l, s * l * m + t * κ * p, s * l * n + t * κ * q, Int.mul_pos h0 g0, by omega, by omega, by grind, by grind, by grind⟩
theorem mix1 {D X X2 s t A1 A2 A3 B1 B2 B3 g1 g2 g3 : Int} (h1 : D * X = A1 * g1 + A2 * g2 + A3 * g3) (h2 : D * X2 = B1 * g1 + B2 * g2 + B3 * g3) : (D * D) * (s * X + t * X2) = (s * (D * A1) + t * (D * B1)) * g1 + (s * (D * A2) + t * (D * B2)) * g2 + (s * (D * A3) + t * (D * B3)) * g3 := by
  have e : (D * D) * (s * X + t * X2) = D * s * (D * X) + D * t * (D * X2) := by grind
  rw [e, h1, h2]
  grind
theorem mix2 {D X X2 s t A1 A2 A3 B1 B2 B3 : Int} (h1 : D * X = A1 + A2 + A3) (h2 : D * X2 = B1 + B2 + B3) : (D * D) * (s * X + t * X2) = (s * (D * A1) + t * (D * B1)) + (s * (D * A2) + t * (D * B2)) + (s * (D * A3) + t * (D * B3)) := by
  have e : (D * D) * (s * X + t * X2) = D * s * (D * X) + D * t * (D * X2) := by grind
  rw [e, h1, h2]
  grind
/-- from a point of the triangle to one outside: the way leaves it over an edge -/
theorem leaves {gx gy : Nat → Int} {i j k : Nat} {X Y W : Int} (h : inT gx gy i j k X Y W) (X2 Y2 W2 : Int) : inT gx gy i j k X2 Y2 W2 ∨ ∃ s t : Int, 0 < s ∧ 0 ≤ t ∧ (onS gx gy j k (s * X + t * X2) (s * Y + t * Y2) (s * W + t * W2) ∨ onS gx gy i k (s * X + t * X2) (s * Y + t * Y2) (s * W + t * W2) ∨ onS gx gy i j (s * X + t * X2) (s * Y + t * Y2) (s * W + t * W2)) := by
  obtain ⟨hD, d3, d1, d2⟩ := h
  unfold inT
  generalize hDe : tn gx gy i j (gx k) (gy k) = D at *
  have hD2 := sq_pos D hD
  rcases amin (fun r => if r = 0 then D * tw gx gy j k X Y W else if r = 1 then D * tw gx gy k i X Y W else D * tw gx gy i j X Y W) (fun r => if r = 0 then -(D * tw gx gy j k X2 Y2 W2) else if r = 1 then -(D * tw gx gy k i X2 Y2 W2) else -(D * tw gx gy i j X2 Y2 W2)) 3 with z | ⟨r, hr, h1, h2⟩
  · left
    have z0 := z 0 (by omega)
    have z1 := z 1 (by omega)
    have z2 := z 2 (by omega)
    simp at z0 z1 z2
    exact ⟨hD, by omega, by omega, by omega⟩
  · right
    have w : ∀ q, q < 3 → 0 ≤ (if q = 0 then D * tw gx gy j k X Y W else if q = 1 then D * tw gx gy k i X Y W else D * tw gx gy i j X Y W) * (if r = 0 then -(D * tw gx gy j k X2 Y2 W2) else if r = 1 then -(D * tw gx gy k i X2 Y2 W2) else -(D * tw gx gy i j X2 Y2 W2)) - (if r = 0 then D * tw gx gy j k X Y W else if r = 1 then D * tw gx gy k i X Y W else D * tw gx gy i j X Y W) * (if q = 0 then -(D * tw gx gy j k X2 Y2 W2) else if q = 1 then -(D * tw gx gy k i X2 Y2 W2) else -(D * tw gx gy i j X2 Y2 W2)) := fun q hq => by
      have aq : 0 ≤ (if q = 0 then D * tw gx gy j k X Y W else if q = 1 then D * tw gx gy k i X Y W else D * tw gx gy i j X Y W) := by split; exact d1; split; exact d2; exact d3
      have ar : 0 ≤ (if r = 0 then D * tw gx gy j k X Y W else if r = 1 then D * tw gx gy k i X Y W else D * tw gx gy i j X Y W) := by split; exact d1; split; exact d2; exact d3
      by_cases hp : 0 < (if q = 0 then -(D * tw gx gy j k X2 Y2 W2) else if q = 1 then -(D * tw gx gy k i X2 Y2 W2) else -(D * tw gx gy i j X2 Y2 W2))
      · have := h2 q hq hp
        omega
      · have h3 := Int.mul_nonneg aq (Int.le_of_lt h1)
        have h4 := Int.mul_nonneg ar (b := -(if q = 0 then -(D * tw gx gy j k X2 Y2 W2) else if q = 1 then -(D * tw gx gy k i X2 Y2 W2) else -(D * tw gx gy i j X2 Y2 W2))) (by omega)
        rw [Int.mul_neg] at h4
        omega
    have w0 := w 0 (by omega)
    have w1 := w 1 (by omega)
    have w2 := w 2 (by omega)
    clear w h2
    -- the mixture of the corners
    have mix : ∀ s t : Int, (D * D) * (s * X + t * X2) = (s * (D * tw gx gy j k X Y W) + t * (D * tw gx gy j k X2 Y2 W2)) * gx i + (s * (D * tw gx gy k i X Y W) + t * (D * tw gx gy k i X2 Y2 W2)) * gx j + (s * (D * tw gx gy i j X Y W) + t * (D * tw gx gy i j X2 Y2 W2)) * gx k ∧ (D * D) * (s * Y + t * Y2) = (s * (D * tw gx gy j k X Y W) + t * (D * tw gx gy j k X2 Y2 W2)) * gy i + (s * (D * tw gx gy k i X Y W) + t * (D * tw gx gy k i X2 Y2 W2)) * gy j + (s * (D * tw gx gy i j X Y W) + t * (D * tw gx gy i j X2 Y2 W2)) * gy k ∧ (D * D) * (s * W + t * W2) = (s * (D * tw gx gy j k X Y W) + t * (D * tw gx gy j k X2 Y2 W2)) + (s * (D * tw gx gy k i X Y W) + t * (D * tw gx gy k i X2 Y2 W2)) + (s * (D * tw gx gy i j X Y W) + t * (D * tw gx gy i j X2 Y2 W2)) := fun s t => by
      have m1 : ∀ X Y W : Int, D * X = tw gx gy j k X Y W * gx i + tw gx gy k i X Y W * gx j + tw gx gy i j X Y W * gx k := fun X Y W => by rw [← hDe]; unfold tn tw; grind
      have m2 : ∀ X Y W : Int, D * Y = tw gx gy j k X Y W * gy i + tw gx gy k i X Y W * gy j + tw gx gy i j X Y W * gy k := fun X Y W => by rw [← hDe]; unfold tn tw; grind
      have m3 : ∀ X Y W : Int, D * W = tw gx gy j k X Y W + tw gx gy k i X Y W + tw gx gy i j X Y W := fun X Y W => by rw [← hDe]; unfold tn tw; grind
      exact ⟨mix1 (m1 X Y W) (m1 X2 Y2 W2), mix1 (m2 X Y W) (m2 X2 Y2 W2), mix2 (m3 X Y W) (m3 X2 Y2 W2)⟩
    generalize D * tw gx gy j k X Y W = A1 at *
    generalize D * tw gx gy k i X Y W = A2 at *
    generalize D * tw gx gy i j X Y W = A3 at *
    generalize D * tw gx gy j k X2 Y2 W2 = B1 at *
    generalize D * tw gx gy k i X2 Y2 W2 = B2 at *
    generalize D * tw gx gy i j X2 Y2 W2 = B3 at *
    rcases (show r = 0 ∨ r = 1 ∨ r = 2 by omega) with rfl | rfl | rfl
    · simp at h1 w0 w1 w2
      obtain ⟨f1, f2, f3⟩ := mix (-B1) A1
      refine ⟨-B1, A1, by omega, by omega, Or.inl ⟨D * D, -B1 * A2 + A1 * B2, -B1 * A3 + A1 * B3, hD2, by grind, by grind, by grind, by grind, by grind⟩⟩
    · simp at h1 w0 w1 w2
      obtain ⟨f1, f2, f3⟩ := mix (-B2) A2
      refine ⟨-B2, A2, by omega, by omega, Or.inr (Or.inl ⟨D * D, -B2 * A1 + A2 * B1, -B2 * A3 + A2 * B3, hD2, by grind, by grind, by grind, by grind, by grind⟩)⟩
    · simp at h1 w0 w1 w2
      obtain ⟨f1, f2, f3⟩ := mix (-B3) A3
      refine ⟨-B3, A3, by omega, by omega, Or.inr (Or.inr ⟨D * D, -B3 * A1 + A3 * B1, -B3 * A2 + A3 * B2, hD2, by grind, by grind, by grind, by grind, by grind⟩)⟩

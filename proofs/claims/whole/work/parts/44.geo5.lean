/-- the reference's meeting, over the integers -/
def mtI (ax ay bx by_ : Nat → Int) : Prop := (∃ o, o < 4 ∧ inT ax ay (wi o) (wj o) (wk o) (bx 0) (by_ 0) 1) ∨ (∃ o, o < 4 ∧ inT bx by_ (wi o) (wj o) (wk o) (ax 0) (ay 0) 1) ∨ ∃ i j k l, i < j ∧ j < 4 ∧ k < l ∧ l < 4 ∧ crD (ax i) (ay i) (ax j) (ay j) (bx k) (by_ k) (bx l) (by_ l)
theorem wo_lt {o : Nat} (h : o < 4) : wi o < wj o ∧ wj o < wk o ∧ wk o < 4 := by rcases lt4c h with rfl | rfl | rfl | rfl <;> decide
theorem shr_on {ax ay bx by_ : Nat → Int} {i j k l : Nat} {X Y W : Int} (hW : 0 < W) (h1 : onS ax ay i j X Y W) (h2 : onS bx by_ k l X Y W) : shr (ax i) (ay i) (ax j) (ay j) (bx k) (by_ k) (bx l) (by_ l) := by
  obtain ⟨κ, m, n, h0, hm, hn, e1, e2, e3⟩ := h1
  obtain ⟨z, s, t, g0, hs, ht, f1, f2, f3⟩ := h2
  refine ⟨z * m, z * n, κ * s, κ * t, Int.mul_nonneg (by omega) hm, Int.mul_nonneg (by omega) hn, Int.mul_nonneg (by omega) hs, Int.mul_nonneg (by omega) ht, ?_, ?_, ?_, ?_⟩
  · rw [← Int.mul_add, ← e3]
    exact Int.mul_pos g0 (Int.mul_pos h0 hW)
  · rw [← Int.mul_add, ← Int.mul_add, ← e3, ← f3]; grind
  · have : z * (κ * X) = κ * (z * X) := by grind
    rw [e1, f1] at this
    grind
  · have : z * (κ * Y) = κ * (z * Y) := by grind
    rw [e2, f2] at this
    grind
/-- a way between two corners of A from inside a triangle of B to outside crosses -/
theorem leaves_cr {ax ay bx by_ : Nat → Int} {u v o : Nat} {X Y W X2 Y2 W2 : Int} (hu : u < v) (hv : v < 4) (ho : o < 4) (hW : 0 < W) (hW2 : 0 < W2) (h : inT bx by_ (wi o) (wj o) (wk o) X Y W) (h1 : onS ax ay u v X Y W) (h2 : onS ax ay u v X2 Y2 W2) : inT bx by_ (wi o) (wj o) (wk o) X2 Y2 W2 ∨ mtI ax ay bx by_ := by
  obtain ⟨l1, l2, l3⟩ := wo_lt ho
  rcases leaves h X2 Y2 W2 with z | ⟨s, t, hs, ht, z⟩
  · exact Or.inl z
  · right
    have hR := onS.add h1 h2 (Int.le_of_lt hs) ht
    have hp : 0 < s * W + t * W2 := by
      have a1 := Int.mul_pos hs hW
      have a2 := Int.mul_nonneg ht (Int.le_of_lt hW2)
      omega
    refine Or.inr (Or.inr ?_)
    rcases z with z | z | z
    · exact ⟨u, v, wj o, wk o, hu, hv, l2, l3, crD_of (shr_on hp hR z)⟩
    · exact ⟨u, v, wi o, wk o, hu, hv, by omega, l3, crD_of (shr_on hp hR z)⟩
    · exact ⟨u, v, wi o, wj o, hu, hv, l1, by omega, crD_of (shr_on hp hR z)⟩
theorem met_of_bal {ax ay bx by_ : Nat → Int} (hA : nfl ax ay) (hB : nfl bx by_) (h : bal (cvx ax bx) (cvx ay by_) 16) : mtI ax ay bx by_ := by
  obtain ⟨i, j, k, w1, w2, w3, l1, l2, l3, p1, p2, p3, hs, ex, ey⟩ := h
  unfold cvx at ex ey
  have ha := hul_add (hul_pt ax ay (i := i % 4) (by omega)) (hul_add (hul_pt ax ay (i := j % 4) (by omega)) (hul_pt ax ay (i := k % 4) (by omega)) p2 p3) p1 (v := 1) (by omega)
  have hb := hul_add (hul_pt bx by_ (i := i / 4) (by omega)) (hul_add (hul_pt bx by_ (i := j / 4) (by omega)) (hul_pt bx by_ (i := k / 4) (by omega)) p2 p3) p1 (v := 1) (by omega)
  have e1 : w1 * bx (i / 4) + 1 * (w2 * bx (j / 4) + w3 * bx (k / 4)) = w1 * ax (i % 4) + 1 * (w2 * ax (j % 4) + w3 * ax (k % 4)) := by grind
  have e2 : w1 * by_ (i / 4) + 1 * (w2 * by_ (j / 4) + w3 * by_ (k / 4)) = w1 * ay (i % 4) + 1 * (w2 * ay (j % 4) + w3 * ay (k % 4)) := by grind
  rw [e1, e2] at hb
  have hW : 0 < w1 * 1 + 1 * (w2 * 1 + w3 * 1) := by omega
  generalize w1 * ax (i % 4) + 1 * (w2 * ax (j % 4) + w3 * ax (k % 4)) = X at *
  generalize w1 * ay (i % 4) + 1 * (w2 * ay (j % 4) + w3 * ay (k % 4)) = Y at *
  generalize w1 * 1 + 1 * (w2 * 1 + w3 * 1) = W at *
  clear ex ey e1 e2
  obtain ⟨o, ho, hT⟩ := tri hA ha
  obtain ⟨q1, q2, q3⟩ := wo_lt ho
  rcases leaves hT (bx 0) (by_ 0) 1 with z | ⟨s, t, hs2, ht, z⟩
  · exact Or.inl ⟨o, ho, z⟩
  · have hR := hul_add hb (hul_pt bx by_ (i := 0) (by omega)) (Int.le_of_lt hs2) ht
    have hp : 0 < s * W + t * 1 := by
      have a1 := Int.mul_pos hs2 hW
      omega
    obtain ⟨u, v, huv, hv4, hS⟩ : ∃ u v, u < v ∧ v < 4 ∧ onS ax ay u v (s * X + t * bx 0) (s * Y + t * by_ 0) (s * W + t * 1) := by
      rcases z with z | z | z
      · exact ⟨_, _, q2, q3, z⟩
      · exact ⟨_, _, by omega, q3, z⟩
      · exact ⟨_, _, q1, by omega, z⟩
    obtain ⟨o2, ho2, hT2⟩ := tri hB hR
    rcases leaves_cr huv hv4 ho2 hp (by decide) hT2 hS (onS.l ax ay u v) with y | y
    · by_cases hu0 : u = 0
      · rw [hu0] at y
        exact Or.inr (Or.inl ⟨o2, ho2, y⟩)
      · rcases leaves_cr (u := 0) (v := u) (by omega) (by omega) ho2 (by decide) (by decide) y (onS.r ax ay 0 u) (onS.l ax ay 0 u) with x | x
        · exact Or.inr (Or.inl ⟨o2, ho2, x⟩)
        · exact x
    · exact y
/-- a straight line between the corners: no meeting -/
theorem no_in {gx gy : Nat → Int} {p q x y : Int} {o : Nat} (ho : o < 4) (hf : ∀ i, i < 4 → p * gx i + q * gy i < p * x + q * y) : ¬ inT gx gy (wi o) (wj o) (wk o) x y 1 := by
  rintro ⟨hD, d3, d1, d2⟩
  obtain ⟨q1, q2, q3⟩ := wo_lt ho
  have f1 := hf (wi o) (by omega)
  have f2 := hf (wj o) (by omega)
  have f3 := hf (wk o) (by omega)
  generalize wi o = i at *
  generalize wj o = j at *
  generalize wk o = k at *
  have hD2 := sq_pos _ hD
  have e1 : tn gx gy i j (gx k) (gy k) * tn gx gy i j (gx k) (gy k) = tn gx gy i j (gx k) (gy k) * tw gx gy j k x y 1 + tn gx gy i j (gx k) (gy k) * tw gx gy k i x y 1 + tn gx gy i j (gx k) (gy k) * tw gx gy i j x y 1 := by
    have : tn gx gy i j (gx k) (gy k) = tw gx gy j k x y 1 + tw gx gy k i x y 1 + tw gx gy i j x y 1 := by unfold tn tw; grind
    rw [← Int.mul_add, ← Int.mul_add, ← this]
  have e2 : tn gx gy i j (gx k) (gy k) * tw gx gy j k x y 1 * (p * x + q * y - (p * gx i + q * gy i)) + tn gx gy i j (gx k) (gy k) * tw gx gy k i x y 1 * (p * x + q * y - (p * gx j + q * gy j)) + tn gx gy i j (gx k) (gy k) * tw gx gy i j x y 1 * (p * x + q * y - (p * gx k + q * gy k)) = 0 := by
    have : tw gx gy j k x y 1 * (p * x + q * y - (p * gx i + q * gy i)) + tw gx gy k i x y 1 * (p * x + q * y - (p * gx j + q * gy j)) + tw gx gy i j x y 1 * (p * x + q * y - (p * gx k + q * gy k)) = 0 := by unfold tw; grind
    rw [Int.mul_assoc, Int.mul_assoc, Int.mul_assoc, ← Int.mul_add, ← Int.mul_add, this, Int.mul_zero]
  generalize tn gx gy i j (gx k) (gy k) * tw gx gy j k x y 1 = A1 at *
  generalize tn gx gy i j (gx k) (gy k) * tw gx gy k i x y 1 = A2 at *
  generalize tn gx gy i j (gx k) (gy k) * tw gx gy i j x y 1 = A3 at *
  have a1 := mul_le_l (show 1 ≤ p * x + q * y - (p * gx i + q * gy i) by omega) d1
  have a2 := mul_le_l (show 1 ≤ p * x + q * y - (p * gx j + q * gy j) by omega) d2
  have a3 := mul_le_l (show 1 ≤ p * x + q * y - (p * gx k + q * gy k) by omega) d3
  omega
theorem no_met {ax ay bx by_ : Nat → Int} {p q : Int} (hf : ∀ i k, i < 4 → k < 4 → p * ax i + q * ay i < p * bx k + q * by_ k) : ¬ mtI ax ay bx by_ := by
  rintro (⟨o, ho, h⟩ | ⟨o, ho, h⟩ | ⟨i, j, k, l, h1, h2, h3, h4, h⟩)
  · exact no_in (p := p) (q := q) ho (fun i hi => hf i 0 hi (by omega)) h
  · refine no_in (p := -p) (q := -q) ho (fun i hi => ?_) h
    have := hf 0 i (by omega) hi
    rw [Int.neg_mul, Int.neg_mul, Int.neg_mul, Int.neg_mul]
    omega
  · obtain ⟨m, n, s, t, hm, hn, hs, ht, hN, hst, ex, ey⟩ := shr_of h
    have f1 := hf i k (by omega) (by omega)
    have f2 := hf i l (by omega) (by omega)
    have f3 := hf j k (by omega) (by omega)
    have f4 := hf j l (by omega) (by omega)
    have e : m * (p * ax i + q * ay i) + n * (p * ax j + q * ay j) = s * (p * bx k + q * by_ k) + t * (p * bx l + q * by_ l) := by
      have e1 : p * (m * ax i + n * ax j) + q * (m * ay i + n * ay j) = p * (s * bx k + t * bx l) + q * (s * by_ k + t * by_ l) := by rw [ex, ey]
      grind
    generalize p * ax i + q * ay i = A1 at *
    generalize p * ax j + q * ay j = A2 at *
    generalize p * bx k + q * by_ k = B1 at *
    generalize p * bx l + q * by_ l = B2 at *
    clear ex ey h hf
    rcases Int.le_total A1 A2 with z | z
    · have a1 := mul_le_l (show A1 ≤ A2 by omega) hm
      have a2 := mul_le_l (show A2 + 1 ≤ B1 by omega) hs
      have a3 := mul_le_l (show A2 + 1 ≤ B2 by omega) ht
      have a4 : s * (A2 + 1) + t * (A2 + 1) = m * A2 + n * A2 + (m + n) := by grind
      omega
    · have a1 := mul_le_l (show A2 ≤ A1 by omega) hn
      have a2 := mul_le_l (show A1 + 1 ≤ B1 by omega) hs
      have a3 := mul_le_l (show A1 + 1 ≤ B2 by omega) ht
      have a4 : s * (A1 + 1) + t * (A1 + 1) = m * A1 + n * A1 + (m + n) := by grind
      omega
theorem mtI_symm {ax ay bx by_ : Nat → Int} (h : mtI ax ay bx by_) : mtI bx by_ ax ay := by
  rcases h with h | h | ⟨i, j, k, l, h1, h2, h3, h4, h⟩
  · exact Or.inr (Or.inl h)
  · exact Or.inl h
  · refine Or.inr (Or.inr ⟨k, l, i, j, h3, h4, h1, h2, ?_⟩)
    unfold crD at h ⊢
    rcases h with ⟨a, b⟩ | h | h | h | h
    · exact Or.inl ⟨b, a⟩
    · exact Or.inr (Or.inr (Or.inr (Or.inl h)))
    · exact Or.inr (Or.inr (Or.inr (Or.inr h)))
    · exact Or.inr (Or.inl h)
    · exact Or.inr (Or.inr (Or.inl h))
theorem no_sep {gx gy hx hy : Nat → Int} (h : sepI gx gy hx hy) : ¬ mtI gx gy hx hy := by
  obtain ⟨i, j, -, -, h1, h2⟩ := h
  refine no_met (p := -(gy j - gy i)) (q := gx j - gx i) (fun a b ha hb => ?_)
  have z1 := h1 a ha
  have z2 := h2 b hb
  unfold tn at z1 z2
  have e1 : -(gy j - gy i) * gx a + (gx j - gx i) * gy a = (gx j - gx i) * (gy a - gy i) - (gy j - gy i) * (gx a - gx i) + ((gx j - gx i) * gy i - (gy j - gy i) * gx i) := by grind
  have e2 : -(gy j - gy i) * hx b + (gx j - gx i) * hy b = (gx j - gx i) * (hy b - gy i) - (gy j - gy i) * (hx b - gx i) + ((gx j - gx i) * gy i - (gy j - gy i) * gx i) := by grind
  omega
/-- two figures meet where no edge of one of them lies between them -/
theorem geo {ax ay bx by_ : Nat → Int} (hA : nfl ax ay) (hB : nfl bx by_) : mtI ax ay bx by_ ↔ (¬ sepI ax ay bx by_ ∧ ¬ sepI bx by_ ax ay) := by
  constructor
  · intro h
    exact ⟨fun z => no_sep z h, fun z => no_sep z (mtI_symm h)⟩
  · rintro ⟨h1, h2⟩
    rcases sep_or_bal ax ay bx by_ hA with z | z | z
    · exact met_of_bal hA hB z
    · exact absurd z h1
    · exact absurd z h2

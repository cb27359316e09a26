def t2 (x1 y1 x2 y2 p q : Int) : Int := (x2 - x1) * (q - y1) - (y2 - y1) * (p - x1)
def btw (a b c : Int) : Prop := (a ≤ b ∧ b ≤ c) ∨ (c ≤ b ∧ b ≤ a)
def onI (x1 y1 x2 y2 p q : Int) : Prop := btw x1 p x2 ∧ btw y1 q y2
/-- two straight pieces have a common point, as the reference tells it -/
def crD (x1 y1 x2 y2 x3 y3 x4 y4 : Int) : Prop := (t2 x1 y1 x2 y2 x3 y3 * t2 x1 y1 x2 y2 x4 y4 < 0 ∧ t2 x3 y3 x4 y4 x1 y1 * t2 x3 y3 x4 y4 x2 y2 < 0) ∨ (t2 x1 y1 x2 y2 x3 y3 = 0 ∧ onI x1 y1 x2 y2 x3 y3) ∨ (t2 x1 y1 x2 y2 x4 y4 = 0 ∧ onI x1 y1 x2 y2 x4 y4) ∨ (t2 x3 y3 x4 y4 x1 y1 = 0 ∧ onI x3 y3 x4 y4 x1 y1) ∨ (t2 x3 y3 x4 y4 x2 y2 = 0 ∧ onI x3 y3 x4 y4 x2 y2)
/-- the same, by weights -/
def shr (x1 y1 x2 y2 x3 y3 x4 y4 : Int) : Prop := ∃ m n s t : Int, 0 ≤ m ∧ 0 ≤ n ∧ 0 ≤ s ∧ 0 ≤ t ∧ 0 < m + n ∧ m + n = s + t ∧ m * x1 + n * x2 = s * x3 + t * x4 ∧ m * y1 + n * y2 = s * y3 + t * y4
theorem mul_le_l {a b c : Int} (h : a ≤ b) (hc : 0 ≤ c) : c * a ≤ c * b := Int.mul_le_mul_of_nonneg_left h hc
theorem btw_mix {a b q m n N : Int} (hm : 0 ≤ m) (hn : 0 ≤ n) (hN : 0 < N) (e : N = m + n) (h : N * q = m * a + n * b) : btw a q b := by
  rcases Int.le_total a b with z | z
  · left
    have h1 : 0 ≤ N * (q - a) := by
      have e1 : N * (q - a) = n * (b - a) := by rw [Int.mul_sub, h, e]; grind
      rw [e1]; exact Int.mul_nonneg hn (by omega)
    have h2 : 0 ≤ N * (b - q) := by
      have e1 : N * (b - q) = m * (b - a) := by rw [Int.mul_sub, h, e]; grind
      rw [e1]; exact Int.mul_nonneg hm (by omega)
    have := nn_of_mul hN h1
    have := nn_of_mul hN h2
    omega
  · right
    have h1 : 0 ≤ N * (a - q) := by
      have e1 : N * (a - q) = n * (a - b) := by rw [Int.mul_sub, h, e]; grind
      rw [e1]; exact Int.mul_nonneg hn (by omega)
    have h2 : 0 ≤ N * (q - b) := by
      have e1 : N * (q - b) = m * (a - b) := by rw [Int.mul_sub, h, e]; grind
      rw [e1]; exact Int.mul_nonneg hm (by omega)
    have := nn_of_mul hN h1
    have := nn_of_mul hN h2
    omega
/-- on a straight line that is not upright: between in x tells between in y -/
theorem btw_col {x1 y1 x2 y2 p q : Int} (hx : x1 ≠ x2) (h : t2 x1 y1 x2 y2 p q = 0) (hb : btw x1 p x2) : btw y1 q y2 := by
  unfold t2 at h
  rcases hb with ⟨b1, b2⟩ | ⟨b1, b2⟩
  · exact btw_mix (m := x2 - p) (n := p - x1) (N := x2 - x1) (by omega) (by omega) (by omega) (by omega) (by grind)
  · exact btw_mix (m := p - x2) (n := x1 - p) (N := x1 - x2) (by omega) (by omega) (by omega) (by omega) (by grind)
theorem t2_swap (x1 y1 x2 y2 p q : Int) : t2 y1 x1 y2 x2 q p = -t2 x1 y1 x2 y2 p q := by unfold t2; grind
theorem ov1 {x1 x2 x3 x4 m n s t : Int} (hm : 0 ≤ m) (hn : 0 ≤ n) (hs : 0 ≤ s) (ht : 0 ≤ t) (hN : 0 < m + n) (e : m + n = s + t) (h : m * x1 + n * x2 = s * x3 + t * x4) : btw x1 x3 x2 ∨ btw x1 x4 x2 ∨ (x3 ≠ x4 ∧ btw x3 x1 x4) ∨ (x3 ≠ x4 ∧ btw x3 x2 x4) := by
  by_cases c1 : x1 < x3 ∧ x2 < x3 ∧ x1 < x4 ∧ x2 < x4
  · exfalso
    have h1 : (m + n) * (x3 - 1) ≥ m * x1 + n * x2 ∨ (m + n) * (x4 - 1) ≥ m * x1 + n * x2 := by
      left
      have a1 := mul_le_l (show x1 ≤ x3 - 1 by omega) hm
      have a2 := mul_le_l (show x2 ≤ x3 - 1 by omega) hn
      rw [Int.add_mul]; omega
    rcases Int.le_total x3 x4 with z | z
    · have a1 := mul_le_l (show x1 ≤ x3 - 1 by omega) hm
      have a2 := mul_le_l (show x2 ≤ x3 - 1 by omega) hn
      have a3 := mul_le_l (show x3 ≤ x4 by omega) ht
      have a4 : m * (x3 - 1) + n * (x3 - 1) = s * x3 + t * x3 - (m + n) := by grind
      omega
    · have a1 := mul_le_l (show x1 ≤ x4 - 1 by omega) hm
      have a2 := mul_le_l (show x2 ≤ x4 - 1 by omega) hn
      have a3 := mul_le_l (show x4 ≤ x3 by omega) hs
      have a4 : m * (x4 - 1) + n * (x4 - 1) = s * x4 + t * x4 - (m + n) := by grind
      omega
  · by_cases c2 : x3 < x1 ∧ x3 < x2 ∧ x4 < x1 ∧ x4 < x2
    · exfalso
      rcases Int.le_total x1 x2 with z | z
      · have a1 := mul_le_l (show x3 ≤ x1 - 1 by omega) hs
        have a2 := mul_le_l (show x4 ≤ x1 - 1 by omega) ht
        have a3 := mul_le_l (show x1 ≤ x2 by omega) hn
        have a4 : s * (x1 - 1) + t * (x1 - 1) = m * x1 + n * x1 - (m + n) := by grind
        omega
      · have a1 := mul_le_l (show x3 ≤ x2 - 1 by omega) hs
        have a2 := mul_le_l (show x4 ≤ x2 - 1 by omega) ht
        have a3 := mul_le_l (show x2 ≤ x1 by omega) hm
        have a4 : s * (x2 - 1) + t * (x2 - 1) = m * x2 + n * x2 - (m + n) := by grind
        omega
    · unfold btw
      omega
theorem crD_of {x1 y1 x2 y2 x3 y3 x4 y4 : Int} (h : shr x1 y1 x2 y2 x3 y3 x4 y4) : crD x1 y1 x2 y2 x3 y3 x4 y4 := by
  obtain ⟨m, n, s, t, hm, hn, hs, ht, hN, hst, ex, ey⟩ := h
  have i1 : s * t2 x1 y1 x2 y2 x3 y3 + t * t2 x1 y1 x2 y2 x4 y4 = 0 := by unfold t2; grind
  have i2 : m * t2 x3 y3 x4 y4 x1 y1 + n * t2 x3 y3 x4 y4 x2 y2 = 0 := by unfold t2; grind
  have i3 : t2 x1 y1 x2 y2 x3 y3 - t2 x1 y1 x2 y2 x4 y4 = t2 x3 y3 x4 y4 x2 y2 - t2 x3 y3 x4 y4 x1 y1 := by unfold t2; grind
  have onk : t = 0 → onI x1 y1 x2 y2 x3 y3 := fun z => ⟨btw_mix hm hn (N := s) (by omega) (by omega) (by rw [z] at ex; omega), btw_mix hm hn (N := s) (by omega) (by omega) (by rw [z] at ey; omega)⟩
  have onl : s = 0 → onI x1 y1 x2 y2 x4 y4 := fun z => ⟨btw_mix hm hn (N := t) (by omega) (by omega) (by rw [z] at ex; omega), btw_mix hm hn (N := t) (by omega) (by omega) (by rw [z] at ey; omega)⟩
  have oni : n = 0 → onI x3 y3 x4 y4 x1 y1 := fun z => ⟨btw_mix hs ht (N := m) (by omega) (by omega) (by rw [z] at ex; omega), btw_mix hs ht (N := m) (by omega) (by omega) (by rw [z] at ey; omega)⟩
  have onj : m = 0 → onI x3 y3 x4 y4 x2 y2 := fun z => ⟨btw_mix hs ht (N := n) (by omega) (by omega) (by rw [z] at ex; omega), btw_mix hs ht (N := n) (by omega) (by omega) (by rw [z] at ey; omega)⟩
  unfold crD
  generalize hS : t2 x1 y1 x2 y2 x3 y3 = S at *
  generalize hT : t2 x1 y1 x2 y2 x4 y4 = T at *
  generalize hU : t2 x3 y3 x4 y4 x1 y1 = U at *
  generalize hV : t2 x3 y3 x4 y4 x2 y2 = V at *
  by_cases cS : S = 0
  · by_cases cT : T = 0
    · -- all on one straight line, or the first piece a point
      by_cases c12 : x1 = x2 ∧ y1 = y2
      · obtain ⟨rfl, rfl⟩ := c12
        have hUV : U = V := by rw [← hU, ← hV]
        subst hUV
        have hU0 : U = 0 := zero_of_mul hN (by rw [Int.add_mul]; exact i2)
        refine Or.inr (Or.inr (Or.inr (Or.inl ⟨hU0, ?_, ?_⟩)))
        · exact btw_mix hs ht (N := m + n) hN hst (by rw [Int.add_mul]; exact ex)
        · exact btw_mix hs ht (N := m + n) hN hst (by rw [Int.add_mul]; exact ey)
      · have hU0 : U = 0 := by
          have hd := dt_pos (p := x2 - x1) (q := y2 - y1) (fun z => c12 ⟨by omega, by omega⟩)
          refine zero_of_mul hd ?_
          rw [← hU]
          rw [cS] at hS
          rw [cT] at hT
          unfold t2 at hS hT ⊢
          unfold dt
          grind
        have hV0 : V = 0 := by omega
        by_cases cx : x1 = x2
        · have cy : y1 ≠ y2 := fun z => c12 ⟨cx, z⟩
          have sw : ∀ {p q : Int}, t2 x1 y1 x2 y2 p q = 0 → t2 y1 x1 y2 x2 q p = 0 := fun {p q} h => by rw [t2_swap, h]; rfl
          have sw2 : ∀ {p q : Int}, t2 x3 y3 x4 y4 p q = 0 → t2 y3 x3 y4 x4 q p = 0 := fun {p q} h => by rw [t2_swap, h]; rfl
          rcases ov1 hm hn hs ht hN hst ey with z | z | ⟨z0, z⟩ | ⟨z0, z⟩
          · exact Or.inr (Or.inl ⟨cS, btw_col cy (sw (by rw [hS, cS])) z, z⟩)
          · exact Or.inr (Or.inr (Or.inl ⟨cT, btw_col cy (sw (by rw [hT, cT])) z, z⟩))
          · exact Or.inr (Or.inr (Or.inr (Or.inl ⟨hU0, btw_col z0 (sw2 (by rw [hU, hU0])) z, z⟩)))
          · exact Or.inr (Or.inr (Or.inr (Or.inr ⟨hV0, btw_col z0 (sw2 (by rw [hV, hV0])) z, z⟩)))
        · rcases ov1 hm hn hs ht hN hst ex with z | z | ⟨z0, z⟩ | ⟨z0, z⟩
          · exact Or.inr (Or.inl ⟨cS, z, btw_col cx (by rw [hS, cS]) z⟩)
          · exact Or.inr (Or.inr (Or.inl ⟨cT, z, btw_col cx (by rw [hT, cT]) z⟩))
          · exact Or.inr (Or.inr (Or.inr (Or.inl ⟨hU0, z, btw_col z0 (by rw [hU, hU0]) z⟩)))
          · exact Or.inr (Or.inr (Or.inr (Or.inr ⟨hV0, z, btw_col z0 (by rw [hV, hV0]) z⟩)))
    · have ht0 : t = 0 := by
        rw [cS, Int.mul_zero, Int.zero_add] at i1
        exact (Int.mul_eq_zero.mp i1).resolve_right cT
      exact Or.inr (Or.inl ⟨cS, onk ht0⟩)
  · by_cases cT : T = 0
    · have hs0 : s = 0 := by
        rw [cT, Int.mul_zero, Int.add_zero] at i1
        exact (Int.mul_eq_zero.mp i1).resolve_right cS
      exact Or.inr (Or.inr (Or.inl ⟨cT, onl hs0⟩))
    · -- both beside the line: on different sides
      have hST : S * T < 0 := by
        rcases Int.lt_or_gt_of_ne cS with z1 | z1 <;> rcases Int.lt_or_gt_of_ne cT with z2 | z2
        · exfalso
          have a1 := Int.mul_nonneg hs (show 0 ≤ -S by omega)
          have a2 := Int.mul_nonneg ht (show 0 ≤ -T by omega)
          rw [Int.mul_neg] at a1 a2
          have b1 : s * S = 0 := by omega
          have b2 : t * T = 0 := by omega
          have := (Int.mul_eq_zero.mp b1).resolve_right cS
          have := (Int.mul_eq_zero.mp b2).resolve_right cT
          omega
        · exact Int.mul_neg_of_neg_of_pos z1 z2
        · exact Int.mul_neg_of_pos_of_neg z1 z2
        · exfalso
          have a1 := Int.mul_nonneg hs (show 0 ≤ S by omega)
          have a2 := Int.mul_nonneg ht (show 0 ≤ T by omega)
          have b1 : s * S = 0 := by omega
          have b2 : t * T = 0 := by omega
          have := (Int.mul_eq_zero.mp b1).resolve_right cS
          have := (Int.mul_eq_zero.mp b2).resolve_right cT
          omega
      have hne : S ≠ T := fun z => by rw [z] at hST; have := sq_nn T; omega
      by_cases cU : U = 0
      · have cV : V ≠ 0 := fun z => hne (by omega)
        have hn0 : n = 0 := by
          rw [cU, Int.mul_zero, Int.zero_add] at i2
          exact (Int.mul_eq_zero.mp i2).resolve_right cV
        exact Or.inr (Or.inr (Or.inr (Or.inl ⟨cU, oni hn0⟩)))
      · by_cases cV : V = 0
        · have hm0 : m = 0 := by
            rw [cV, Int.mul_zero, Int.add_zero] at i2
            exact (Int.mul_eq_zero.mp i2).resolve_right cU
          exact Or.inr (Or.inr (Or.inr (Or.inr ⟨cV, onj hm0⟩)))
        · left
          refine ⟨hST, ?_⟩
          rcases Int.lt_or_gt_of_ne cU with z1 | z1 <;> rcases Int.lt_or_gt_of_ne cV with z2 | z2
          · exfalso
            have a1 := Int.mul_nonneg hm (show 0 ≤ -U by omega)
            have a2 := Int.mul_nonneg hn (show 0 ≤ -V by omega)
            rw [Int.mul_neg] at a1 a2
            have b1 : m * U = 0 := by omega
            have b2 : n * V = 0 := by omega
            have := (Int.mul_eq_zero.mp b1).resolve_right cU
            have := (Int.mul_eq_zero.mp b2).resolve_right cV
            omega
          · exact Int.mul_neg_of_neg_of_pos z1 z2
          · exact Int.mul_neg_of_pos_of_neg z1 z2
          · exfalso
            have a1 := Int.mul_nonneg hm (show 0 ≤ U by omega)
            have a2 := Int.mul_nonneg hn (show 0 ≤ V by omega)
            have b1 : m * U = 0 := by omega
            have b2 : n * V = 0 := by omega
            have := (Int.mul_eq_zero.mp b1).resolve_right cU
            have := (Int.mul_eq_zero.mp b2).resolve_right cV
            omega
/-- a point on a straight piece, by weights -/
theorem on_w {x1 y1 x2 y2 p q : Int} (h : t2 x1 y1 x2 y2 p q = 0) (ho : onI x1 y1 x2 y2 p q) : ∃ m n : Int, 0 ≤ m ∧ 0 ≤ n ∧ 0 < m + n ∧ m * x1 + n * x2 = (m + n) * p ∧ m * y1 + n * y2 = (m + n) * q := by
  unfold t2 at h
  obtain ⟨bx, by_⟩ := ho
  by_cases cx : x1 = x2
  · by_cases cy : y1 = y2
    · unfold btw at bx by_
      have e1 : p = x1 := by omega
      have e2 : q = y1 := by omega
      subst e1 e2
      exact ⟨1, 0, by omega, by omega, by omega, by omega, by omega⟩
    · have e1 : p = x1 := by unfold btw at bx; omega
      subst e1 cx
      rcases by_ with ⟨b1, b2⟩ | ⟨b1, b2⟩
      · exact ⟨y2 - q, q - y1, by omega, by omega, by omega, by grind, by grind⟩
      · exact ⟨q - y2, y1 - q, by omega, by omega, by omega, by grind, by grind⟩
  · rcases bx with ⟨b1, b2⟩ | ⟨b1, b2⟩
    · exact ⟨x2 - p, p - x1, by omega, by omega, by omega, by grind, by grind⟩
    · exact ⟨p - x2, x1 - p, by omega, by omega, by omega, by grind, by grind⟩
theorem shr_of {x1 y1 x2 y2 x3 y3 x4 y4 : Int} (h : crD x1 y1 x2 y2 x3 y3 x4 y4) : shr x1 y1 x2 y2 x3 y3 x4 y4 := by
  rcases h with ⟨h1, h2⟩ | ⟨h1, h2⟩ | ⟨h1, h2⟩ | ⟨h1, h2⟩ | ⟨h1, h2⟩
  · have i3 : t2 x1 y1 x2 y2 x3 y3 - t2 x1 y1 x2 y2 x4 y4 = t2 x3 y3 x4 y4 x2 y2 - t2 x3 y3 x4 y4 x1 y1 := by unfold t2; grind
    have ix : t2 x3 y3 x4 y4 x2 y2 * x1 - t2 x3 y3 x4 y4 x1 y1 * x2 = t2 x1 y1 x2 y2 x3 y3 * x4 - t2 x1 y1 x2 y2 x4 y4 * x3 := by unfold t2; grind
    have iy : t2 x3 y3 x4 y4 x2 y2 * y1 - t2 x3 y3 x4 y4 x1 y1 * y2 = t2 x1 y1 x2 y2 x3 y3 * y4 - t2 x1 y1 x2 y2 x4 y4 * y3 := by unfold t2; grind
    generalize t2 x1 y1 x2 y2 x3 y3 = S at *
    generalize t2 x1 y1 x2 y2 x4 y4 = T at *
    generalize t2 x3 y3 x4 y4 x1 y1 = U at *
    generalize t2 x3 y3 x4 y4 x2 y2 = V at *
    rcases Int.lt_trichotomy S 0 with z | z | z
    · have hT : 0 < T := by
        rcases Int.lt_or_le 0 T with y | y
        · exact y
        · have := Int.mul_nonneg (show 0 ≤ -S by omega) (show 0 ≤ -T by omega)
          rw [Int.neg_mul_neg] at this; omega
      have hV : V < 0 := by
        rcases Int.lt_or_le V 0 with y | y
        · exact y
        · have := Int.mul_nonneg (show 0 ≤ U by omega) y; omega
      have hU : 0 < U := by
        rcases Int.lt_or_le 0 U with y | y
        · exact y
        · have := Int.mul_nonneg (show 0 ≤ -U by omega) (show 0 ≤ -V by omega)
          rw [Int.neg_mul_neg] at this; omega
      exact ⟨-V, U, T, -S, by omega, by omega, by omega, by omega, by omega, by omega, by grind, by grind⟩
    · rw [z] at h1; omega
    · have hT : T < 0 := by
        rcases Int.lt_or_le T 0 with y | y
        · exact y
        · have := Int.mul_nonneg (show 0 ≤ S by omega) y; omega
      have hV : 0 < V := by
        rcases Int.lt_or_le 0 V with y | y
        · exact y
        · have := Int.mul_nonneg (show 0 ≤ -U by omega) (show 0 ≤ -V by omega)
          rw [Int.neg_mul_neg] at this; omega
      have hU : U < 0 := by
        rcases Int.lt_or_le U 0 with y | y
        · exact y
        · have := Int.mul_nonneg y (show 0 ≤ V by omega); omega
      exact ⟨V, -U, -T, S, by omega, by omega, by omega, by omega, by omega, by omega, by grind, by grind⟩
  · obtain ⟨m, n, a, b, c, d, e⟩ := on_w h1 h2
    exact ⟨m, n, m + n, 0, a, b, by omega, by omega, c, by omega, by omega, by omega⟩
  · obtain ⟨m, n, a, b, c, d, e⟩ := on_w h1 h2
    exact ⟨m, n, 0, m + n, a, b, by omega, by omega, c, by omega, by omega, by omega⟩
  · obtain ⟨m, n, a, b, c, d, e⟩ := on_w h1 h2
    exact ⟨m + n, 0, m, n, by omega, by omega, a, b, by omega, by omega, by omega, by omega⟩
  · obtain ⟨m, n, a, b, c, d, e⟩ := on_w h1 h2
    exact ⟨0, m + n, m, n, by omega, by omega, a, b, by omega, by omega, by omega, by omega⟩

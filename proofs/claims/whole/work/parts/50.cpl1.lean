def iv (lo hi : Int) (x : Int32) : Prop := lo ≤ x.toInt ∧ x.toInt ≤ hi
theorem i_div {x : Int32} {k : Int32} (hk : 1 < k.toInt) : (x / k).toInt = x.toInt.tdiv k.toInt := by
  rw [Int32.toInt_div]
  have h1 := Int32.le_toInt x
  have h2 := Int32.toInt_lt x
  have e : x.toInt.tdiv k.toInt * k.toInt + x.toInt.tmod k.toInt = x.toInt := by rw [Int.mul_comm]; exact Int.mul_tdiv_add_tmod _ _
  refine Int.bmod_eq_of_le ?_ ?_
  · rcases Int.lt_or_le x.toInt 0 with z | z
    · have h3 : (-x.toInt).tdiv k.toInt ≤ -x.toInt := Int.tdiv_le_self _ (by omega)
      rw [Int.neg_tdiv] at h3
      omega
    · have := Int.tdiv_nonneg z (show 0 ≤ k.toInt by omega)
      omega
  · rcases Int.lt_or_le x.toInt 0 with z | z
    · have h3 : 0 ≤ (-x.toInt).tdiv k.toInt := Int.tdiv_nonneg (by omega) (by omega)
      rw [Int.neg_tdiv] at h3
      omega
    · have := Int.tdiv_le_self k.toInt z
      omega
theorem td_pos {x k : Int} (hx : 0 ≤ x) (hk : 0 < k) : 0 ≤ x.tdiv k ∧ k * x.tdiv k ≤ x ∧ x < k * x.tdiv k + k := by
  rw [Int.tdiv_eq_ediv_of_nonneg hx]
  have h1 := Int.mul_ediv_add_emod x k
  have h2 := Int.emod_nonneg x (show k ≠ 0 by omega)
  have h3 := Int.emod_lt_of_pos x hk
  have h4 := Int.ediv_nonneg hx (Int.le_of_lt hk)
  omega
theorem td_bd {x B : Int} (h : bd B x) : bd B (x.tdiv 4) := by
  unfold bd at *
  rcases Int.lt_or_le x 0 with z | z
  · have h3 := td_pos (x := -x) (k := 4) (by omega) (by omega)
    rw [Int.neg_tdiv] at h3
    omega
  · have h3 := td_pos (x := x) (k := 4) z (by omega)
    omega
theorem q8 : ∀ n, n < 24 → (nI n / 8).toInt = (n / 8 : Nat) ∧ (nI n - nI n / 8 * 8).toInt = (n % 8 : Nat) := by decide +kernel
theorem sd_I {s : Int32} (h : s = 1 ∨ s = -1) : s.toInt = 1 ∨ s.toInt = -1 := by
  rcases h with rfl | rfl
  · exact Or.inl rfl
  · exact Or.inr rfl
theorem bd_w {A B x : Int} (h : bd A x) (hA : A ≤ B) : bd B x := by unfold bd at *; omega
/-- what a part's numbers are -/
def pOk (q0 : Nat → Int32) : Prop := iv 0 1000 (q0 2) ∧ iv 0 1000 (q0 4) ∧ (q0 2).toInt + 6 ≤ (q0 4).toInt ∧ iv (-130) 130 (q0 3) ∧ iv (-130) 130 (q0 5) ∧ q0 6 = archI (q0 2) (q0 4)
theorem arch_I {x y : Int32} (hx : iv 0 1000 x) (hy : iv 0 1000 y) (h : x.toInt + 6 ≤ y.toInt) : 4 ≤ (archI x y).toInt ∧ (archI x y).toInt ≤ 20 := by
  unfold iv at *
  have e1 : (y - x).toInt = y.toInt - x.toInt := i_sub (by unfold bd; omega)
  have e2 : ((y - x) / 8).toInt = (y.toInt - x.toInt).tdiv 8 := by rw [i_div (by decide), e1]; rfl
  have h3 := td_pos (x := y.toInt - x.toInt) (k := 8) (by omega) (by omega)
  have e4 : (4 : Int32).toInt = 4 := rfl
  have e20 : (20 : Int32).toInt = 20 := rfl
  have e3 : (4 + (y - x) / 8).toInt = 4 + (y.toInt - x.toInt).tdiv 8 := by rw [i_add (by rw [e2, e4]; unfold bd; omega), e2, e4]
  unfold archI
  split
  · rename_i z
    rw [Int32.lt_iff_toInt_lt, e3, e20] at z
    omega
  · omega
theorem pX_0 (q0 : Nat → Int32) : pX q0 0 = q0 2 := by unfold pX dX; simp [upd]
theorem pX_1 (q0 : Nat → Int32) : pX q0 1 = q0 2 + (q0 4 - q0 2) / 4 := by unfold pX dX; simp [upd]
theorem pX_2 (q0 : Nat → Int32) : pX q0 2 = q0 4 - (q0 4 - q0 2) / 4 := by unfold pX dX; simp [upd]
theorem pX_3 (q0 : Nat → Int32) : pX q0 3 = q0 4 := by unfold pX dX; simp [upd]
theorem pY_0 (q0 c0 : Nat → Int32) (k : Int32) : pY q0 c0 k 0 = dY0 q0 c0 k := by unfold pY dY; simp [upd]
theorem pY_1 (q0 c0 : Nat → Int32) (k : Int32) : pY q0 c0 k 1 = dY0 q0 c0 k + (dY3 q0 c0 k - dY0 q0 c0 k) / 4 + dRise q0 c0 k := by unfold pY dY; simp [upd]
theorem pY_2 (q0 c0 : Nat → Int32) (k : Int32) : pY q0 c0 k 2 = dY3 q0 c0 k + (dY0 q0 c0 k - dY3 q0 c0 k) / 4 + dRise q0 c0 k := by unfold pY dY; simp [upd]
theorem pY_3 (q0 c0 : Nat → Int32) (k : Int32) : pY q0 c0 k 3 = dY3 q0 c0 k := by unfold pY dY; simp [upd]
theorem hull_ok {q0 c0 : Nat → Int32} {n : Nat} (hp : pOk q0) (hs : c0 4 = 1 ∨ c0 4 = -1) (hn : n < 24) : near 4 (pX q0) ∧ near 4 (pY q0 c0 (nI n)) ∧ nfl (gI (pX q0)) (gI (pY q0 c0 (nI n))) := by
  obtain ⟨h2, h4, h24, h3, h5, h6⟩ := hp
  have ha := arch_I h2 h4 h24
  rw [← h6] at ha
  unfold iv at *
  obtain ⟨e8, m8⟩ := q8 n hn
  have hsd := sd_I hs
  have c4 : (4 : Int32).toInt = 4 := rfl
  -- the columns
  have ew : (q0 4 - q0 2).toInt = (q0 4).toInt - (q0 2).toInt := i_sub (by unfold bd; omega)
  have ed : ((q0 4 - q0 2) / 4).toInt = ((q0 4).toInt - (q0 2).toInt).tdiv 4 := by rw [i_div (by decide), ew]; rfl
  have hd := td_pos (x := (q0 4).toInt - (q0 2).toInt) (k := 4) (by omega) (by omega)
  have x1 : (q0 2 + (q0 4 - q0 2) / 4).toInt = (q0 2).toInt + ((q0 4).toInt - (q0 2).toInt).tdiv 4 := by rw [i_add (by rw [ed]; unfold bd; omega), ed]
  have x2 : (q0 4 - (q0 4 - q0 2) / 4).toInt = (q0 4).toInt - ((q0 4).toInt - (q0 2).toInt).tdiv 4 := by rw [i_sub (by rw [ed]; unfold bd; omega), ed]
  generalize ((q0 4).toInt - (q0 2).toInt).tdiv 4 = d at *
  -- the shift
  have s1 : (4 * (nI n / 8)).toInt = 4 * (n / 8 : Nat) := by rw [i_mul (by rw [c4, e8]; unfold bd; omega), c4, e8]
  have s2 : (dShift c0 (nI n)).toInt = 4 * (n / 8 : Nat) * (c0 4).toInt := by
    unfold dShift
    rw [i_mul (by rw [s1]; rcases hsd with z | z <;> rw [z] <;> unfold bd <;> omega), s1]
  have b2 : bd 8 (dShift c0 (nI n)).toInt := by rw [s2]; rcases hsd with z | z <;> rw [z] <;> unfold bd <;> omega
  -- the rise
  have r1 : (4 * (nI n - nI n / 8 * 8)).toInt = 4 * (n % 8 : Nat) := by rw [i_mul (by rw [c4, m8]; unfold bd; omega), c4, m8]
  have r2 : (q0 6 + 4 * (nI n - nI n / 8 * 8)).toInt = (q0 6).toInt + 4 * (n % 8 : Nat) := by rw [i_add (by rw [r1]; unfold bd; omega), r1]
  have r3 : (dRise q0 c0 (nI n)).toInt = ((q0 6).toInt + 4 * (n % 8 : Nat)) * (c0 4).toInt := by
    unfold dRise
    rw [i_mul (by rw [r2]; rcases hsd with z | z <;> rw [z] <;> unfold bd <;> omega), r2]
  have br : bd 48 (dRise q0 c0 (nI n)).toInt ∧ (dRise q0 c0 (nI n)).toInt ≠ 0 := by rw [r3]; rcases hsd with z | z <;> rw [z] <;> unfold bd <;> omega
  have y0 : (dY0 q0 c0 (nI n)).toInt = (q0 3).toInt + (dShift c0 (nI n)).toInt := by unfold dY0; rw [i_add (by unfold bd at *; omega)]
  have y3 : (dY3 q0 c0 (nI n)).toInt = (q0 5).toInt + (dShift c0 (nI n)).toInt := by unfold dY3; rw [i_add (by unfold bd at *; omega)]
  generalize hE : (dShift c0 (nI n)).toInt = e at *
  generalize hR : (dRise q0 c0 (nI n)).toInt = h at *
  have t1 : (dY3 q0 c0 (nI n) - dY0 q0 c0 (nI n)).toInt = (q0 5).toInt - (q0 3).toInt := by rw [i_sub (by rw [y0, y3]; unfold bd at *; omega), y0, y3]; omega
  have t2 : (dY0 q0 c0 (nI n) - dY3 q0 c0 (nI n)).toInt = -((q0 5).toInt - (q0 3).toInt) := by rw [i_sub (by rw [y0, y3]; unfold bd at *; omega), y0, y3]; omega
  have u1 : ((dY3 q0 c0 (nI n) - dY0 q0 c0 (nI n)) / 4).toInt = ((q0 5).toInt - (q0 3).toInt).tdiv 4 := by rw [i_div (by decide), t1]; rfl
  have u2 : ((dY0 q0 c0 (nI n) - dY3 q0 c0 (nI n)) / 4).toInt = -((q0 5).toInt - (q0 3).toInt).tdiv 4 := by rw [i_div (by decide), t2, ← Int.neg_tdiv]; rfl
  have bt : bd 260 (((q0 5).toInt - (q0 3).toInt).tdiv 4) := td_bd (by unfold bd; omega)
  generalize ((q0 5).toInt - (q0 3).toInt).tdiv 4 = t at *
  have v1 : (dY0 q0 c0 (nI n) + (dY3 q0 c0 (nI n) - dY0 q0 c0 (nI n)) / 4).toInt = (q0 3).toInt + e + t := by rw [i_add (by rw [y0, u1]; unfold bd at *; omega), y0, u1]
  have v2 : (dY3 q0 c0 (nI n) + (dY0 q0 c0 (nI n) - dY3 q0 c0 (nI n)) / 4).toInt = (q0 5).toInt + e - t := by rw [i_add (by rw [y3, u2]; unfold bd at *; omega), y3, u2]; omega
  have w1 : (dY0 q0 c0 (nI n) + (dY3 q0 c0 (nI n) - dY0 q0 c0 (nI n)) / 4 + dRise q0 c0 (nI n)).toInt = (q0 3).toInt + e + t + h := by rw [i_add (by rw [v1, hR]; unfold bd at *; omega), v1, hR]
  have w2 : (dY3 q0 c0 (nI n) + (dY0 q0 c0 (nI n) - dY3 q0 c0 (nI n)) / 4 + dRise q0 c0 (nI n)).toInt = (q0 5).toInt + e - t + h := by rw [i_add (by rw [v2, hR]; unfold bd at *; omega), v2, hR]
  refine ⟨fun k hk => ?_, fun k hk => ?_, ?_⟩
  · rcases lt4c hk with rfl | rfl | rfl | rfl
    · rw [pX_0]; unfold bd; omega
    · rw [pX_1, x1]; unfold bd; omega
    · rw [pX_2, x2]; unfold bd; omega
    · rw [pX_3]; unfold bd; omega
  · rcases lt4c hk with rfl | rfl | rfl | rfl
    · rw [pY_0, y0]; unfold bd at *; omega
    · rw [pY_1, w1]; unfold bd at *; omega
    · rw [pY_2, w2]; unfold bd at *; omega
    · rw [pY_3, y3]; unfold bd at *; omega
  · have f0 : gI (pX q0) 0 = (q0 2).toInt := by unfold gI; rw [pX_0]
    have f1 : gI (pX q0) 1 = (q0 2).toInt + d := by unfold gI; rw [pX_1, x1]
    have f2 : gI (pX q0) 2 = (q0 4).toInt - d := by unfold gI; rw [pX_2, x2]
    have f3 : gI (pX q0) 3 = (q0 4).toInt := by unfold gI; rw [pX_3]
    have g0 : gI (pY q0 c0 (nI n)) 0 = (q0 3).toInt + e := by unfold gI; rw [pY_0, y0]
    have g1 : gI (pY q0 c0 (nI n)) 1 = (q0 3).toInt + e + t + h := by unfold gI; rw [pY_1, w1]
    have g2 : gI (pY q0 c0 (nI n)) 2 = (q0 5).toInt + e - t + h := by unfold gI; rw [pY_2, w2]
    have g3 : gI (pY q0 c0 (nI n)) 3 = (q0 5).toInt + e := by unfold gI; rw [pY_3, y3]
    have hsum : tn (gI (pX q0)) (gI (pY q0 c0 (nI n))) 0 3 (gI (pX q0) 1) (gI (pY q0 c0 (nI n)) 1) + tn (gI (pX q0)) (gI (pY q0 c0 (nI n))) 0 3 (gI (pX q0) 2) (gI (pY q0 c0 (nI n)) 2) = 2 * (((q0 4).toInt - (q0 2).toInt) * h) := by
      unfold tn
      rw [f0, f1, f2, f3, g0, g1, g2, g3]
      grind
    have hne : ((q0 4).toInt - (q0 2).toInt) * h ≠ 0 := fun z => by
      rcases Int.mul_eq_zero.mp z with y | y
      · omega
      · exact br.2 y
    by_cases c1 : tn (gI (pX q0)) (gI (pY q0 c0 (nI n))) 0 3 (gI (pX q0) 1) (gI (pY q0 c0 (nI n)) 1) = 0
    · exact ⟨0, 3, 2, by omega, by omega, by omega, fun z => hne (by omega)⟩
    · exact ⟨0, 3, 1, by omega, by omega, by omega, c1⟩

theorem sF_k (F : Nat → Nat → Int32) {k i : Nat} (x : Int32) {j m : Nat} (h : j ≠ k ∨ m ≠ i) : sF F k i x j m = F j m := by
  by_cases z : j = k
  · subst z; exact sF_o _ _ _ (h.resolve_left (fun q => q rfl))
  · rw [sF_ne _ _ _ z]
theorem rLay_k (F : Nat → Nat → Int32) {k : Nat} (l a b c d : Int32) {j m : Nat} (h : m ≠ k) : rLay F k l a b c d j m = F j m := by
  unfold rLay
  rw [sF_k _ _ (Or.inr h), sF_k _ _ (Or.inr h), sF_k _ _ (Or.inr h), sF_k _ _ (Or.inr h), sF_k _ _ (Or.inr h)]
theorem rLay_v (F : Nat → Nat → Int32) (k : Nat) (l a b c d : Int32) : rLay F k l a b c d 25 k = l ∧ rLay F k l a b c d 26 k = a ∧ rLay F k l a b c d 27 k = b ∧ rLay F k l a b c d 28 k = c ∧ rLay F k l a b c d 29 k = d := by
  unfold rLay
  refine ⟨?_, ?_, ?_, ?_, ?_⟩
  · rw [sF_ne _ _ _ (by decide), sF_ne _ _ _ (by decide), sF_ne _ _ _ (by decide), sF_ne _ _ _ (by decide), sF_self]
  · rw [sF_ne _ _ _ (by decide), sF_ne _ _ _ (by decide), sF_ne _ _ _ (by decide), sF_self]
  · rw [sF_ne _ _ _ (by decide), sF_ne _ _ _ (by decide), sF_self]
  · rw [sF_ne _ _ _ (by decide), sF_self]
  · rw [sF_self]
section SIDES
variable {E : Nat → Nat → Nat → Int32} {F : Nat → Nat → Int32} {nn a b : Nat}
theorem tA_eq (hN : ∀ i, i < nn → E 0 i 1 = F 3 i ∧ E 0 i 2 = F 4 i ∧ E 0 i 3 = F 5 i ∧ E 0 i 4 = F 6 i) (ha : a < nn) : ∀ n, n ≤ nn → xA E (E 0 a) n = tA F a n ∧ xB E (E 0 a) n = tB F a n := by
  intro n
  obtain ⟨a1, a2, a3, a4⟩ := hN a ha
  induction n with
  | zero => intro _; exact ⟨rfl, rfl⟩
  | succ n ih =>
    intro hn
    obtain ⟨i1, i2⟩ := ih (by omega)
    obtain ⟨b1, b2, b3, b4⟩ := hN n (by omega)
    rw [xA, xB, tA, tB, i1, i2]
    unfold nChord
    rw [a1, a2, a3, b1, b2, b3]
    simp only [decide_eq_true_eq]
    exact ⟨trivial, trivial⟩
theorem tie_eq (hN : ∀ i, i < nn → E 0 i 1 = F 3 i ∧ E 0 i 2 = F 4 i ∧ E 0 i 3 = F 5 i ∧ E 0 i 4 = F 6 i) (ha : a < nn) : xTie E (E 0 a) nn = rTie F nn a := by
  obtain ⟨e1, e2⟩ := tA_eq hN ha nn (Nat.le_refl _)
  obtain ⟨a1, a2, a3, a4⟩ := hN a ha
  unfold xTie rTie nStem
  rw [e1, e2, a4]
  generalize tA F a nn = x
  generalize tB F a nn = y
  by_cases h : x = y
  · subst h
    rw [if_pos rfl, if_pos (Int32.le_refl _), if_pos (Int32.le_refl _)]
    split <;> rfl
  · rw [if_neg h]
    by_cases h2 : y ≤ x
    · rw [if_pos h2, if_pos h2, if_neg (fun z => h (Int32.le_antisymm z h2))]
    · rw [if_neg h2, if_neg h2]
theorem bef_eq (hN : ∀ i, i < nn → E 0 i 1 = F 3 i ∧ E 0 i 2 = F 4 i ∧ E 0 i 3 = F 5 i ∧ E 0 i 4 = F 6 i) {i j : Nat} (hi : i < nn) (hj : j < nn) : nBef (E 0 i) (E 0 j) = rBefore F i j := by
  obtain ⟨a1, a2, -, -⟩ := hN i hi
  obtain ⟨b1, b2, -, -⟩ := hN j hj
  unfold nBef rBefore
  rw [a1, a2, b1, b2]
theorem slur_eq (hN : ∀ i, i < nn → E 0 i 1 = F 3 i ∧ E 0 i 2 = F 4 i ∧ E 0 i 3 = F 5 i ∧ E 0 i 4 = F 6 i) (ha : a < nn) (hb : b < nn) : xSlur E (E 0 a) (E 0 b) nn = rSlur F nn a b := by
  have h1 : ∀ n, n ≤ nn → (xSd E (E 0 a) (E 0 b) n = true ↔ (F 6 a = 0 ∨ F 6 b = 0 ∨ ∃ i, i < n ∧ F 6 i = 0 ∧ rBefore F a i = true ∧ rBefore F i b = true)) := fun n => by
    induction n with
    | zero =>
      intro _
      rw [xSd, decide_eq_true_eq, (hN a ha).2.2.2, (hN b hb).2.2.2]
      constructor
      · rintro (z | z)
        · exact Or.inl z
        · exact Or.inr (Or.inl z)
      · rintro (z | z | ⟨i, z, -⟩)
        · exact Or.inl z
        · exact Or.inr z
        · exact absurd z (Nat.not_lt_zero _)
    | succ n ih =>
      intro hn
      rw [xSd_s, ih (by omega), (hN n (by omega)).2.2.2, bef_eq hN ha (show n < nn by omega), bef_eq hN (show n < nn by omega) hb]
      constructor
      · rintro ((z | z | ⟨i, z1, z2⟩) | z)
        · exact Or.inl z
        · exact Or.inr (Or.inl z)
        · exact Or.inr (Or.inr ⟨i, by omega, z2⟩)
        · exact Or.inr (Or.inr ⟨n, by omega, z⟩)
      · rintro (z | z | ⟨i, z1, z2⟩)
        · exact Or.inl (Or.inl z)
        · exact Or.inl (Or.inr (Or.inl z))
        · by_cases e : i = n
          · rw [e] at z2; exact Or.inr z2
          · exact Or.inl (Or.inr (Or.inr ⟨i, by omega, z2⟩))
  have h2 : ∀ n, sD F a b n = true ↔ ∃ i, i < n ∧ (i = a ∨ i = b ∨ (rBefore F a i = true ∧ rBefore F i b = true)) ∧ F 6 i = 0 := fun n => by
    induction n with
    | zero => exact ⟨fun h => (by cases h), fun ⟨k, h, _⟩ => absurd h (Nat.not_lt_zero _)⟩
    | succ n ih =>
      rw [sD, Bool.or_eq_true, ih, Bool.and_eq_true, decide_eq_true_eq, decide_eq_true_eq]
      constructor
      · rintro (⟨i, z1, z2⟩ | z)
        · exact ⟨i, by omega, z2⟩
        · exact ⟨n, by omega, z⟩
      · rintro ⟨i, z1, z2⟩
        by_cases e : i = n
        · rw [e] at z2; exact Or.inr z2
        · exact Or.inl ⟨i, by omega, z2⟩
  have h3 : xSd E (E 0 a) (E 0 b) nn = true ↔ sD F a b nn = true := by
    rw [h1 nn (Nat.le_refl _), h2]
    constructor
    · rintro (z | z | ⟨i, z1, z2, z3⟩)
      · exact ⟨a, ha, Or.inl rfl, z⟩
      · exact ⟨b, hb, Or.inr (Or.inl rfl), z⟩
      · exact ⟨i, z1, Or.inr (Or.inr z3), z2⟩
    · rintro ⟨i, z1, z2 | z2 | z2, z3⟩
      · rw [z2] at z3; exact Or.inl z3
      · rw [z2] at z3; exact Or.inr (Or.inl z3)
      · exact Or.inr (Or.inr ⟨i, z1, z3, z2⟩)
  unfold xSlur rSlur
  by_cases z : sD F a b nn = true
  · rw [if_pos z, if_pos (h3.mpr z)]
  · rw [if_neg z, if_neg (fun y => z (h3.mp y))]
theorem sd_tie (F : Nat → Nat → Int32) (nn a : Nat) : rTie F nn a = 1 ∨ rTie F nn a = -1 := by
  unfold rTie
  split
  · split
    · split
      · exact Or.inl rfl
      · exact Or.inr rfl
    · exact Or.inr rfl
  · exact Or.inl rfl
theorem sd_slur (F : Nat → Nat → Int32) (nn a b : Nat) : rSlur F nn a b = 1 ∨ rSlur F nn a b = -1 := by
  unfold rSlur
  split
  · exact Or.inl rfl
  · exact Or.inr rfl
theorem join_eq (hN : ∀ i, i < nn → E 0 i 1 = F 3 i ∧ E 0 i 2 = F 4 i ∧ E 0 i 3 = F 5 i ∧ E 0 i 4 = F 6 i) (ha : a < nn) (hb : b < nn) {la lb : Nat} (h1 : F 3 a = nI la) (h2 : F 3 b = nI lb) (l1 : la < 4) (l2 : lb < 4) (hw : E 10 0 la = F 1 la) : xJoin (E 10 0) (E 0 a) (E 0 b) la = rMay F a b la := by
  obtain ⟨a1, a2, -, -⟩ := hN a ha
  obtain ⟨b1, b2, -, -⟩ := hN b hb
  unfold xJoin rMay
  rw [bef_eq hN ha hb, a1, a2, b1, b2, hw, Bool.eq_iff_iff, decide_eq_true_eq, decide_eq_true_eq]
  by_cases hbf : rBefore F a b = true
  · have hle : la ≤ lb := by
      have z := of_decide_eq_true hbf
      rw [h1, h2] at z
      rcases z with z | ⟨z, -⟩
      · have := (nI_ltI (by omega) (by omega)).mp z; omega
      · have := (nI_eq (by omega) (by omega)).mp z; omega
    have hd : nI lb - nI la = nI (lb - la) := by
      apply Int32.toInt_inj.mp
      rw [i_sub (by rw [nI_toInt (by omega), nI_toInt (by omega)]; unfold bd; omega), nI_toInt (by omega), nI_toInt (by omega), nI_toInt (by omega)]
      omega
    have e1 : F 3 b - F 3 a = nI (lb - la) := by rw [h1, h2, hd]
    rw [e1]
    by_cases hs : F 3 a = F 3 b
    · rw [if_pos hs, if_pos hs]
      have : la = lb := (nI_eq (by omega) (by omega)).mp (by rw [← h1, ← h2]; exact hs)
      constructor
      · rintro ⟨z1, z2⟩
        exact ⟨z1, by rw [this, Nat.sub_self]; decide, z2⟩
      · rintro ⟨z1, -, z2⟩
        exact ⟨z1, z2⟩
    · rw [if_neg hs, if_neg hs]
      have hne : la ≠ lb := fun z => hs (by rw [h1, h2, z])
      have q1 : nI (lb - la) = 1 ↔ lb - la = 1 := nI_eq (a := lb - la) (b := 1) (by omega) (by omega)
      have q2 : nI (lb - la) ≤ 1 ↔ lb - la ≤ 1 := nI_leI (a := lb - la) (b := 1) (by omega) (by omega)
      rw [q1, q2]
      constructor
      · rintro ⟨z1, z2, z3⟩
        exact ⟨z1, by omega, z3⟩
      · rintro ⟨z1, z2, z3⟩
        exact ⟨z1, by omega, z3⟩
  · exact ⟨fun z => absurd z.1 hbf, fun z => absurd z.1 hbf⟩
end SIDES
/-- where a curve ends -/
theorem eh_eq {c0 n : Nat → Int32} {f6 s t : Int32} (h3 : c0 3 = t) (h4 : c0 4 = s) (hn : n 4 = f6) (hf : f6 = 0 ∨ f6 = 1) (hs : s = 1 ∨ s = -1) : ∃ d, cEh c0 n = n 3 + d ∧ (if t = 0 then 4 * s + (if f6 = bI (s = 1) then 24 * s else 0) else 2 * s) = d ∧ bd 28 d.toInt := by
  unfold cEh nStem
  rw [h3, h4, hn]
  by_cases ht : t = 0
  · rw [if_pos ht, if_pos ht]
    rcases hf with rfl | rfl <;> rcases hs with rfl | rfl
    · exact ⟨4, rfl, rfl, by unfold bd; decide⟩
    · exact ⟨-28, rfl, rfl, by unfold bd; decide⟩
    · exact ⟨28, rfl, rfl, by unfold bd; decide⟩
    · exact ⟨-4, rfl, rfl, by unfold bd; decide⟩
  · rw [if_neg ht, if_neg ht]
    rcases hs with rfl | rfl
    · exact ⟨2, rfl, rfl, by unfold bd; decide⟩
    · exact ⟨-2, rfl, rfl, by unfold bd; decide⟩
theorem eh_iv {y d : Int32} (hy : iv (-100) 100 y) (hd : bd 28 d.toInt) : iv (-130) 130 (y + d) := by
  unfold iv bd at *
  rw [i_add (by unfold bd; omega)]
  omega
theorem i32_nlt {x y : Int32} (h : ¬ x < y) : y.toInt ≤ x.toInt := by rw [Int32.lt_iff_toInt_lt] at h; omega
/-- pa9's fields -/
theorem pa9_v (l a b c d : Int32) : pa9 l a b c d 1 = l ∧ pa9 l a b c d 2 = a ∧ pa9 l a b c d 3 = b ∧ pa9 l a b c d 4 = c ∧ pa9 l a b c d 5 = d ∧ pa9 l a b c d 6 = archI a c := ⟨rfl, rfl, rfl, rfl, rfl, rfl⟩
theorem pa9_ok {l a b c d : Int32} (ha : iv 0 1000 a) (hc : iv 0 1000 c) (h : a.toInt + 6 ≤ c.toInt) (hb : iv (-130) 130 b) (hd : iv (-130) 130 d) : pOk (pa9 l a b c d) := ⟨ha, hc, h, hb, hd, rfl⟩

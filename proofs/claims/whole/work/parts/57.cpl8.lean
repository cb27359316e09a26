theorem i_add0 (x : Int32) : x + 0 = x := Int32.add_zero x
theorem i_sub0 (x : Int32) : x - 0 = x := Int32.sub_zero x
def xl (t : Int32) : Int32 := if t = 0 then 0 else 3
theorem xl_I (t : Int32) : (xl t).toInt = 0 ∨ (xl t).toInt = 3 := by unfold xl; split; exact Or.inl rfl; exact Or.inr rfl
/-- the reference's fields of a new curve, before its parts are laid -/
def rF1 (F : Nat → Nat → Int32) (nc a b : Nat) (t : Int32) : Nat → Nat → Int32 := sF (sF (sF F 20 nc (nI a)) 21 nc (nI b)) 22 nc t
def rSd (F : Nat → Nat → Int32) (nn nc a b : Nat) (t : Int32) : Int32 := if t = 0 then rSlur (rF1 F nc a b t) nn a b else rTie (rF1 F nc a b t) nn a
def rG (F : Nat → Nat → Int32) (nn nc a b : Nat) (t : Int32) : Nat → Nat → Int32 := sF (sF (rF1 F nc a b t) 23 nc (rSd F nn nc a b t)) 24 nc (nI (pmN F a b))
theorem rF1_o (F : Nat → Nat → Int32) (nc a b : Nat) (t : Int32) {k : Nat} (h : k < 20 ∨ 22 < k) : rF1 F nc a b t k = F k := by unfold rF1; rw [sF_ne _ _ _ (by omega), sF_ne _ _ _ (by omega), sF_ne _ _ _ (by omega)]
theorem rF1_22 (F : Nat → Nat → Int32) (nc a b : Nat) (t : Int32) : rF1 F nc a b t 22 nc = t := by unfold rF1; rw [sF_self]
theorem rG_o (F : Nat → Nat → Int32) (nn nc a b : Nat) (t : Int32) {k : Nat} (h : k < 20 ∨ 24 < k) : rG F nn nc a b t k = F k := by unfold rG; rw [sF_ne _ _ _ (by omega), sF_ne _ _ _ (by omega), rF1_o _ _ _ _ _ (by omega)]
theorem rG_k (F : Nat → Nat → Int32) (nn : Nat) {nc : Nat} (a b : Nat) (t : Int32) (k : Nat) {m : Nat} (h : m ≠ nc) : rG F nn nc a b t k m = F k m := by unfold rG rF1; rw [sF_k _ _ (Or.inr h), sF_k _ _ (Or.inr h), sF_k _ _ (Or.inr h), sF_k _ _ (Or.inr h), sF_k _ _ (Or.inr h)]
theorem rG_v (F : Nat → Nat → Int32) (nn nc a b : Nat) (t : Int32) : rG F nn nc a b t 20 nc = nI a ∧ rG F nn nc a b t 21 nc = nI b ∧ rG F nn nc a b t 22 nc = t ∧ rG F nn nc a b t 23 nc = rSd F nn nc a b t ∧ rG F nn nc a b t 24 nc = nI (pmN F a b) := by
  unfold rG
  refine ⟨?_, ?_, ?_, ?_, ?_⟩
  · rw [sF_ne _ _ _ (by decide), sF_ne _ _ _ (by decide)]; unfold rF1; rw [sF_ne _ _ _ (by decide), sF_ne _ _ _ (by decide), sF_self]
  · rw [sF_ne _ _ _ (by decide), sF_ne _ _ _ (by decide)]; unfold rF1; rw [sF_ne _ _ _ (by decide), sF_self]
  · rw [sF_ne _ _ _ (by decide), sF_ne _ _ _ (by decide), rF1_22]
  · rw [sF_ne _ _ _ (by decide), sF_self]
  · rw [sF_self]
def rEd (F : Nat → Nat → Int32) (nn nc a b : Nat) (t : Int32) (i : Nat) : Int32 := if t = 0 then 4 * rSd F nn nc a b t + (if F 6 i = bI (rSd F nn nc a b t = 1) then 24 * rSd F nn nc a b t else 0) else 2 * rSd F nn nc a b t
theorem rLO (F : Nat → Nat → Int32) (nn nc a b la : Nat) (t : Int32) : rLayOut (sF (sF (sF F 20 nc (nI a)) 21 nc (nI b)) 22 nc t) nn nc a b la = if F 3 a = F 3 b then rLay (rG F nn nc a b t) (2 * nc) (F 3 a) (F 4 a + xl t) (F 5 a + rEd F nn nc a b t a) (F 4 b - xl t) (F 5 b + rEd F nn nc a b t b) else rLay (rLay (rG F nn nc a b t) (2 * nc) (F 3 a) (F 4 a + xl t) (F 5 a + rEd F nn nc a b t a) (F 1 la) (F 5 a + rEd F nn nc a b t a)) (2 * nc + 1) (F 3 b) 0 (F 5 b + rEd F nn nc a b t b) (F 4 b - xl t) (F 5 b + rEd F nn nc a b t b) := by
  show rLayOut (rF1 F nc a b t) nn nc a b la = _
  have e1 : rL1 (rF1 F nc a b t) nn nc a b = sF (rF1 F nc a b t) 23 nc (rSd F nn nc a b t) := by unfold rL1 rSd; rw [rF1_22]
  have o1 : ∀ k, k < 20 ∨ 24 < k → sF (rF1 F nc a b t) 23 nc (rSd F nn nc a b t) k = F k := fun k h => by rw [sF_ne _ _ _ (by omega), rF1_o _ _ _ _ _ (by omega)]
  have e2 : rL2 (sF (rF1 F nc a b t) 23 nc (rSd F nn nc a b t)) nc a b = rG F nn nc a b t := by
    unfold rL2 rG
    rw [o1 3 (by omega), pmN_eq]
  have e3 : rL3 (sF (rF1 F nc a b t) 23 nc (rSd F nn nc a b t)) nc = xl t := by unfold rL3 xl; rw [sF_ne _ _ _ (by decide), rF1_22]
  have e4 : ∀ i, rEnd (sF (rF1 F nc a b t) 23 nc (rSd F nn nc a b t)) nc i = rEd F nn nc a b t i := fun i => by unfold rEnd rEd; rw [sF_self, sF_ne _ _ _ (by decide), rF1_22, o1 6 (by omega)]
  unfold rLayOut rLayO
  rw [e1, e2, e3, e4, e4, o1 4 (by omega), o1 5 (by omega), rG_o _ _ _ _ _ _ (k := 3) (by omega), rG_o _ _ _ _ _ _ (k := 1) (by omega), (rG_v F nn nc a b t).2.2.2.2]
  by_cases z : F 3 a = F 3 b
  · have hp : pmN F a b = 1 := by unfold pmN; rw [if_pos z]
    rw [if_pos z, hp, if_pos (by decide)]
  · have hp : pmN F a b = 2 := by unfold pmN; rw [if_neg z]
    rw [if_neg z, hp, if_neg (by decide), rLay_ne _ _ _ _ _ _ _ (Or.inl (by decide)), rG_o _ _ _ _ _ _ (k := 3) (by omega)]
section NEWC
variable {E : Nat → Nat → Nat → Int32} {J : Nat → Nat → Nat} {F : Nat → Nat → Int32} {nl nn nc np a b la : Nat} {fp : Nat → Nat} {t : Int32}
theorem side_eq (hN : ∀ i, i < nn → nCp E F nl i) (ha : a < nn) (hb : b < nn) (nc : Nat) (t : Int32) : xSide E nn a b t = rSd F nn nc a b t := by
  have h1 : ∀ i, i < nn → E 0 i 1 = rF1 F nc a b t 3 i ∧ E 0 i 2 = rF1 F nc a b t 4 i ∧ E 0 i 3 = rF1 F nc a b t 5 i ∧ E 0 i 4 = rF1 F nc a b t 6 i := fun i hi => by
    rw [rF1_o _ _ _ _ _ (by omega), rF1_o _ _ _ _ _ (by omega), rF1_o _ _ _ _ _ (by omega), rF1_o _ _ _ _ _ (by omega)]
    have g := hN i hi
    exact ⟨g.2.1, g.2.2.1, g.2.2.2.1, g.2.2.2.2.1⟩
  unfold xSide rSd
  rw [slur_eq h1 ha hb, tie_eq h1 ha]
theorem rSd_s (F : Nat → Nat → Int32) (nn nc a b : Nat) (t : Int32) : rSd F nn nc a b t = 1 ∨ rSd F nn nc a b t = -1 := by
  unfold rSd
  split
  · exact sd_slur _ _ _ _
  · exact sd_tie _ _ _
theorem pc_new (hN : ∀ i, i < nn → nCp E F nl i) (ha : a < nn) (hb : b < nn) : pcN (xE1 E nn nc np a b t) (xAddCJ J nc a b) nc = pmN F a b := by
  unfold pcN pmN xE1
  rw [xAddC_o _ _ _ (by decide), xAddCJ_1, xAddCJ_2, va_up_self, va_up_self, (hN a ha).2.1, (hN b hb).2.1]
/-- the parts of a new curve -/
theorem parts_new (hN : ∀ i, i < nn → nCp E F nl i) (hL : ∀ j, j < nl → E 10 0 j = F 1 j ∧ iv 100 1000 (F 1 j)) (ha : a < nn) (hb : b < nn) (hla : F 3 a = nI la) (hl : la < nl) (hmay : rMay F a b la = true) (hl4 : nl ≤ 4) {p : Nat} (hp : p < pmN F a b) : xPq (xE1 E nn nc np a b t) (xAddCJ J nc a b) nc la p = (if pmN F a b = 1 then pa9 (F 3 a) (F 4 a + xl t) (F 5 a + rEd F nn nc a b t a) (F 4 b - xl t) (F 5 b + rEd F nn nc a b t b) else if p = 0 then pa9 (F 3 a) (F 4 a + xl t) (F 5 a + rEd F nn nc a b t a) (F 1 la) (F 5 a + rEd F nn nc a b t a) else pa9 (F 3 b) 0 (F 5 b + rEd F nn nc a b t b) (F 4 b - xl t) (F 5 b + rEd F nn nc a b t b)) ∧ pOk (xPq (xE1 E nn nc np a b t) (xAddCJ J nc a b) nc la p) := by
  have na := hN a ha
  have nb := hN b hb
  have hs := rSd_s F nn nc a b t
  have z0 : xE1 E nn nc np a b t 0 = E 0 := xAddC_o _ _ _ (by decide)
  have z10 : xE1 E nn nc np a b t 10 = E 10 := xAddC_o _ _ _ (by decide)
  have z1 : xAddCJ J nc a b 1 nc = a := by rw [xAddCJ_1, va_up_self]
  have z2 : xAddCJ J nc a b 2 nc = b := by rw [xAddCJ_2, va_up_self]
  have z4 : xE1 E nn nc np a b t 4 nc = cu6 (nI nc) t (rSd F nn nc a b t) (nI np) := by unfold xE1; rw [xAddC_4, va_up_self, side_eq hN ha hb nc t]
  obtain ⟨da, a1, a2, a3⟩ := eh_eq (c0 := cu6 (nI nc) t (rSd F nn nc a b t) (nI np)) (n := E 0 a) (t := t) (s := rSd F nn nc a b t) rfl rfl na.2.2.2.2.1 na.2.2.2.2.2.1 hs
  obtain ⟨db, b1, b2, b3⟩ := eh_eq (c0 := cu6 (nI nc) t (rSd F nn nc a b t) (nI np)) (n := E 0 b) (t := t) (s := rSd F nn nc a b t) rfl rfl nb.2.2.2.2.1 nb.2.2.2.2.2.1 hs
  have ea : cEh (cu6 (nI nc) t (rSd F nn nc a b t) (nI np)) (E 0 a) = F 5 a + rEd F nn nc a b t a := by rw [a1, na.2.2.2.1, ← a2]; rfl
  have eb : cEh (cu6 (nI nc) t (rSd F nn nc a b t) (nI np)) (E 0 b) = F 5 b + rEd F nn nc a b t b := by rw [b1, nb.2.2.2.1, ← b2]; rfl
  have ex : cFx (cu6 (nI nc) t (rSd F nn nc a b t) (nI np)) (E 0 a) = F 4 a + xl t := by
    show (if t = 0 then E 0 a 2 else E 0 a 2 + 3) = _
    rw [na.2.2.1]
    unfold xl
    split
    · rw [i_add0]
    · rfl
  have ey : cSx (cu6 (nI nc) t (rSd F nn nc a b t) (nI np)) (E 0 b) = F 4 b - xl t := by
    show (if t = 0 then E 0 b 2 else E 0 b 2 - 3) = _
    rw [nb.2.2.1]
    unfold xl
    split
    · rw [i_sub0]
    · rfl
  have iya : iv (-130) 130 (F 5 a + rEd F nn nc a b t a) := eh_iv na.2.2.2.2.2.2.2.2 (by rw [show rEd F nn nc a b t a = da from a2]; exact a3)
  have iyb : iv (-130) 130 (F 5 b + rEd F nn nc a b t b) := eh_iv nb.2.2.2.2.2.2.2.2 (by rw [show rEd F nn nc a b t b = db from b2]; exact b3)
  obtain ⟨hw1, hw2⟩ := hL la hl
  have xa := na.2.2.2.2.2.2.2.1
  have xb := nb.2.2.2.2.2.2.2.1
  have hx := xl_I t
  have c12 : (12 : Int32).toInt = 12 := rfl
  obtain ⟨-, -, hm⟩ := of_decide_eq_true hmay
  unfold xPq
  rw [pc_new hN ha hb, z0, z1, z2, z4, z10, ea, eb, ex, ey, hw1, na.2.1, nb.2.1]
  unfold iv at xa xb hw2
  refine ⟨rfl, ?_⟩
  by_cases hs1 : F 3 a = F 3 b
  · have hp1 : pmN F a b = 1 := by unfold pmN; rw [if_pos hs1]
    rw [if_pos hs1] at hm
    have h1 : (F 4 b - F 4 a).toInt = (F 4 b).toInt - (F 4 a).toInt := i_sub (by unfold bd; omega)
    have h2 := i32_nlt hm
    rw [h1, c12] at h2
    have e1 : (F 4 a + xl t).toInt = (F 4 a).toInt + (xl t).toInt := i_add (by unfold bd; omega)
    have e2 : (F 4 b - xl t).toInt = (F 4 b).toInt - (xl t).toInt := i_sub (by unfold bd; omega)
    rw [if_pos hp1]
    exact pa9_ok (by unfold iv; omega) (by unfold iv; omega) (by omega) iya iyb
  · have hp1 : pmN F a b = 2 := by unfold pmN; rw [if_neg hs1]
    rw [if_neg hs1] at hm
    have h1 : (F 1 la - F 4 a).toInt = (F 1 la).toInt - (F 4 a).toInt := i_sub (by unfold bd; omega)
    have h2 := i32_nlt hm.1
    have h3 := i32_nlt hm.2
    rw [h1, c12] at h2
    rw [c12] at h3
    have e1 : (F 4 a + xl t).toInt = (F 4 a).toInt + (xl t).toInt := i_add (by unfold bd; omega)
    have e2 : (F 4 b - xl t).toInt = (F 4 b).toInt - (xl t).toInt := i_sub (by unfold bd; omega)
    have e0 : (0 : Int32).toInt = 0 := rfl
    rw [if_neg (by omega)]
    by_cases hp0 : p = 0
    · rw [if_pos hp0]
      exact pa9_ok (by unfold iv; omega) (by unfold iv; omega) (by omega) iya iya
    · rw [if_neg hp0]
      exact pa9_ok (by unfold iv; omega) (by unfold iv; omega) (by omega) iyb iyb
end NEWC
